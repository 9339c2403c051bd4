/-! days that are lived: loops; all of a plan -/
section LF6
variable {s t u s1 s2 t1 t2 s10 s20 : fu_S} {Q P PL ma b p k w i m v n q l N g lo hi e n2 c cnt F : Nat} {D D0 : dD} {ov : Bool} {x y : Int32} {S : Prop}
theorem lt_idx (hc : c ≤ cnt) : cnt - (c + 1) + 1 = cnt - c ∨ c = cnt := by omega
theorem L_rounds (hQ : P + 13 ≤ Q) (hPL : PL + 5 ≤ Q ∧ (PL + 5 ≤ P ∨ P + 13 ≤ PL)) (hlo : lo < 30) (hg : 0 < g) (hF : g ≤ F) (hhi : n2 ≤ 30) (hin : lo + 1 < n2) (hB : BK PL l m N s10) (h119 : s10.1 (PL + 1) l = 119) (hw : s20.1 122 (85 + 9 * lo + 8) = Int32.ofNat n2) (hcnt : s20.1 122 (85 + 9 * lo + 1) = Int32.ofNat cnt) (hc99 : cnt ≤ 99) (hG : RG Q P PL ma D0 s10 s20 (g - 1) (lo + 1) n2 (l + 1) m) : ∀ {c : Nat} {s1 s2 : fu_S} {D : dD} {n lf : Nat}, c + 1 ≤ cnt → LR Q P ma D0 s1 s2 D n false → F1 Q P s10 s1 → F2 s20 s2 → s1.1 (Q + 1) l = Int32.ofNat (c + 1) → c + 1 < lf →
    ∃ t1 t2 D' n' ov j, l_X12_doOne_116 (f_X12_doAll F) lf s2 (Int32.ofNat lo) (Int32.ofNat (85 + 9 * lo)) (Int32.ofNat (cnt - (c + 1))) = some t2 ∧ LR Q P ma D0 t1 t2 D' n' ov ∧ F1 Q P s1 t1 ∧ F2 s2 t2 ∧ (∀ i, ¬ (l ≤ i ∧ i < m + 1) → t1.1 (Q + 1) i = s1.1 (Q + 1) i) ∧ n ≤ n' ∧
      (ov = false → j ≤ (g + 1) * (n' - n) ∧ ∀ c b, b + j < 1000000 → l_X3_run_46 (c + j) s1 Q PL P (Int32.ofNat (l + 1)) (Int32.ofNat b) = l_X3_run_46 c t1 Q PL P (Int32.ofNat (m + 1)) (Int32.ofNat (b + j))) ∧
      (ov = true → j ≤ (g + 1) * (n' - n) + 1 ∧ ∀ c b, b + j < 1000000 → l_X3_run_46 (c + j) s1 Q PL P (Int32.ofNat (l + 1)) (Int32.ofNat b) = some (.inl t1)) := by
  intro c
  induction c with
  | zero =>
    intro s1 s2 D n lf hc h h1 h2 hr hf
    obtain ⟨f, rfl⟩ : ∃ f, lf = f + 2 := ⟨lf - 2, by omega⟩
    have hov := LR_ov h
    have m1 : 85 + 9 * lo + 1 < 1775 := by omega
    have m8 : 85 + 9 * lo + 8 < 1775 := by omega
    have w1 : s2.1 122 (85 + 9 * lo + 1) = Int32.ofNat cnt := by rw [F2_st h2 (by omega)]; exact hcnt
    have w8 : s2.1 122 (85 + 9 * lo + 8) = Int32.ofNat n2 := by rw [F2_st h2 (by omega)]; exact hw
    obtain ⟨t1, t2, D', n', ov, j, b1, b2, b3, b4, b5, b6, b7, b8, b9⟩ := r_in hg hF hhi hG h h1 h2
    have w1' : t2.1 122 (85 + 9 * lo + 1) = Int32.ofNat cnt := by rw [F2_st b4 (by omega)]; exact w1
    have hx : cnt - (0 + 1) < cnt := by omega
    have hx2 : ¬ cnt - (0 + 1) + 1 < cnt := by omega
    have st : l_X12_doOne_116 (f_X12_doAll F) (f + 2) s2 (Int32.ofNat lo) (Int32.ofNat (85 + 9 * lo)) (Int32.ofNat (cnt - (0 + 1))) = some t2 := by
      have e1 : l_X12_doOne_116 (f_X12_doAll F) (f + 1 + 1) s2 (Int32.ofNat lo) (Int32.ofNat (85 + 9 * lo)) (Int32.ofNat (cnt - (0 + 1))) = l_X12_doOne_116 (f_X12_doAll F) (f + 1) t2 (Int32.ofNat lo) (Int32.ofNat (85 + 9 * lo)) (Int32.ofNat (cnt - (0 + 1) + 1)) := by
        simp (maxSteps := 1000000) (disch := omega) only [ne_eq, i_lt0, i_le0, i_eq0, i_n1, i_ltl, i_lel, i_eql, i_lt, i_le, i_eq, i_in, i_tn, i_add, i_addl, i_addr, i_mul, i_mulr, i_mull, if_true, if_false, eq_self, decide_eq_true_eq, decide_true, decide_false, Option.bind_some, Option.bind_none, ↓fu_ltd, ↓reduceIte, ↓ob_ite, ↓ob_asc, ↓Option.bind_some, Bool.false_eq_true, Bool.true_eq_false, not_true_eq_false, not_false_eq_true, Nat.not_lt_zero, Nat.le_zero_eq, Nat.reduceAdd, Nat.reduceMul, Nat.reduceSub, Nat.reduceEqDiff, Nat.reduceLT, Nat.reduceLeDiff, sC_def, sR_def, sC_1, sC_2, sR_1, sR_2, sC_st, sR_st, sR_no, sR_refuse, and_self, true_and, and_true, false_and, and_false, l_X12_doOne_116, m1, m8, w1, w8, hx, hov, b1, i_add1]
      refine e1.trans ?_
      simp (maxSteps := 1000000) (disch := omega) only [ne_eq, i_lt0, i_le0, i_eq0, i_n1, i_ltl, i_lel, i_eql, i_lt, i_le, i_eq, i_in, i_tn, i_add, i_addl, i_addr, i_mul, i_mulr, i_mull, if_true, if_false, eq_self, decide_eq_true_eq, decide_true, decide_false, Option.bind_some, Option.bind_none, ↓fu_ltd, ↓reduceIte, ↓ob_ite, ↓ob_asc, ↓Option.bind_some, Bool.false_eq_true, Bool.true_eq_false, not_true_eq_false, not_false_eq_true, Nat.not_lt_zero, Nat.le_zero_eq, Nat.reduceAdd, Nat.reduceMul, Nat.reduceSub, Nat.reduceEqDiff, Nat.reduceLT, Nat.reduceLeDiff, sC_def, sR_def, sC_1, sC_2, sR_1, sR_2, sC_st, sR_st, sR_no, sR_refuse, and_self, true_and, and_true, false_and, and_false, l_X12_doOne_116, m1, w1', hx2]
    cases ov
    · obtain ⟨b8a, b8b⟩ := b8 rfl
      have hn : n < n' := (b7 hin).resolve_right (by simp)
      have hBt := BK_F hPL (F1_tr h1 b3) hB
      obtain ⟨bt, hN2, hlm, hmN, bt4, bt5, bt6⟩ := id hBt
      have c1 := c_mateAt (l := m) bt hN2 hmN
      rw [bt6] at c1
      have c2 := c_deedAt (l := l) bt hN2 (by omega)
      rw [F1_pl hPL (F1_tr h1 b3) (by omega), h119] at c2
      have c3 := c_end2 (Q := Q) (c := 0) (by omega) (by omega) c1 c2 (by rw [b5 l (by omega)]; exact hr)
      rw [if_pos rfl] at c3
      refine ⟨fu_pi t1 (Q + 1) l (Int32.ofNat 0), t2, D', n', false, j + 1, st, LR_q1 hQ b2, F1_tr b3 F1_q1, b4, fun i hi => by rw [p1q (by omega), b5 i (by omega)], by omega, fun _ => ⟨ar3 b8a hg hn, fun c b hb => ?_⟩, fun z => Bool.noConfusion z⟩
      rw [show c + (j + 1) = (c + 1) + j by omega, b8b (c + 1) b (by omega), R_end bt hN2 hmN (by omega) bt5, c3, Option.bind_some]
      dsimp only
      rw [show b + j + 1 = b + (j + 1) by omega]
    · obtain ⟨b9a, b9b⟩ := b9 rfl
      exact ⟨t1, t2, D', n', true, j, st, b2, b3, b4, fun i hi => b5 i (by omega), b6, fun z => Bool.noConfusion z, fun _ => ⟨ar2 b9a hg, b9b⟩⟩
  | succ c ih =>
    intro s1 s2 D n lf hc h h1 h2 hr hf
    obtain ⟨f, rfl⟩ : ∃ f, lf = f + 2 := ⟨lf - 2, by omega⟩
    have hov := LR_ov h
    have m1 : 85 + 9 * lo + 1 < 1775 := by omega
    have m8 : 85 + 9 * lo + 8 < 1775 := by omega
    have w1 : s2.1 122 (85 + 9 * lo + 1) = Int32.ofNat cnt := by rw [F2_st h2 (by omega)]; exact hcnt
    have w8 : s2.1 122 (85 + 9 * lo + 8) = Int32.ofNat n2 := by rw [F2_st h2 (by omega)]; exact hw
    obtain ⟨t1, t2, D', n', ov, j, b1, b2, b3, b4, b5, b6, b7, b8, b9⟩ := r_in hg hF hhi hG h h1 h2
    have w1' : t2.1 122 (85 + 9 * lo + 1) = Int32.ofNat cnt := by rw [F2_st b4 (by omega)]; exact w1
    have hx : cnt - (c + 1 + 1) < cnt := by omega
    have hx3 : cnt - (c + 1 + 1) + 1 = cnt - (c + 1) := by omega
    have e1 : l_X12_doOne_116 (f_X12_doAll F) (f + 1 + 1) s2 (Int32.ofNat lo) (Int32.ofNat (85 + 9 * lo)) (Int32.ofNat (cnt - (c + 1 + 1))) = l_X12_doOne_116 (f_X12_doAll F) (f + 1) t2 (Int32.ofNat lo) (Int32.ofNat (85 + 9 * lo)) (Int32.ofNat (cnt - (c + 1))) := by
      simp (maxSteps := 1000000) (disch := omega) only [ne_eq, i_lt0, i_le0, i_eq0, i_n1, i_ltl, i_lel, i_eql, i_lt, i_le, i_eq, i_in, i_tn, i_add, i_addl, i_addr, i_mul, i_mulr, i_mull, if_true, if_false, eq_self, decide_eq_true_eq, decide_true, decide_false, Option.bind_some, Option.bind_none, ↓fu_ltd, ↓reduceIte, ↓ob_ite, ↓ob_asc, ↓Option.bind_some, Bool.false_eq_true, Bool.true_eq_false, not_true_eq_false, not_false_eq_true, Nat.not_lt_zero, Nat.le_zero_eq, Nat.reduceAdd, Nat.reduceMul, Nat.reduceSub, Nat.reduceEqDiff, Nat.reduceLT, Nat.reduceLeDiff, sC_def, sR_def, sC_1, sC_2, sR_1, sR_2, sC_st, sR_st, sR_no, sR_refuse, and_self, true_and, and_true, false_and, and_false, l_X12_doOne_116, m1, m8, w1, w8, hx, hov, b1, i_add1, hx3]
    cases ov
    · obtain ⟨b8a, b8b⟩ := b8 rfl
      have hn : n < n' := (b7 hin).resolve_right (by simp)
      have hBt := BK_F hPL (F1_tr h1 b3) hB
      obtain ⟨bt, hN2, hlm, hmN, bt4, bt5, bt6⟩ := id hBt
      have c1 := c_mateAt (l := m) bt hN2 hmN
      rw [bt6] at c1
      have c2 := c_deedAt (l := l) bt hN2 (by omega)
      rw [F1_pl hPL (F1_tr h1 b3) (by omega), h119] at c2
      have c3 := c_end2 (Q := Q) (c := c + 1) (by omega) (by omega) c1 c2 (by rw [b5 l (by omega)]; exact hr)
      rw [if_neg (by omega)] at c3
      obtain ⟨u1, u2, D2, n3, ov2, j2, d1, d2, d3, d4, d5, d6, d7, d8⟩ := ih (s1 := fu_pi t1 (Q + 1) l (Int32.ofNat (c + 1))) (s2 := t2) (D := D') (n := n') (lf := f + 1) (by omega) (LR_q1 hQ b2) (F1_tr h1 (F1_tr b3 F1_q1)) (F2_tr h2 b4) p1 (by omega)
      have hA := ar3 b8a hg hn
      refine ⟨u1, u2, D2, n3, ov2, j + 1 + j2, e1.trans d1, d2, F1_tr b3 (F1_tr F1_q1 d3), F2_tr b4 d4, fun i hi => by rw [d5 i hi, p1q (by omega), b5 i (by omega)], by omega, fun z => ⟨?_, fun c b hb => ?_⟩, fun z => ⟨?_, fun c b hb => ?_⟩⟩
      · have := (d7 z).1
        rw [show n3 - n = (n' - n) + (n3 - n') by omega, Nat.mul_add]
        omega
      · rw [show c + (j + 1 + j2) = (c + j2 + 1) + j by omega, b8b (c + j2 + 1) b (by omega), R_end bt hN2 hmN (by omega) bt5, c3, Option.bind_some]
        dsimp only
        rw [(d7 z).2 c (b + j + 1) (by omega), show b + j + 1 + j2 = b + (j + 1 + j2) by omega]
      · have := (d8 z).1
        rw [show n3 - n = (n' - n) + (n3 - n') by omega, Nat.mul_add]
        omega
      · rw [show c + (j + 1 + j2) = (c + j2 + 1) + j by omega, b8b (c + j2 + 1) b (by omega), R_end bt hN2 hmN (by omega) bt5, c3, Option.bind_some]
        dsimp only
        rw [(d8 z).2 c (b + j + 1) (by omega)]
    · obtain ⟨b9a, b9b⟩ := b9 rfl
      have ho := LR_ov b2
      have hx4 : cnt - (c + 1) < cnt := by omega
      have st2 : l_X12_doOne_116 (f_X12_doAll F) (f + 1) t2 (Int32.ofNat lo) (Int32.ofNat (85 + 9 * lo)) (Int32.ofNat (cnt - (c + 1))) = some t2 := by
        simp (maxSteps := 1000000) (disch := omega) only [ne_eq, i_lt0, i_le0, i_eq0, i_n1, i_ltl, i_lel, i_eql, i_lt, i_le, i_eq, i_in, i_tn, i_add, i_addl, i_addr, i_mul, i_mulr, i_mull, if_true, if_false, eq_self, decide_eq_true_eq, decide_true, decide_false, Option.bind_some, Option.bind_none, ↓fu_ltd, ↓reduceIte, ↓ob_ite, ↓ob_asc, ↓Option.bind_some, Bool.false_eq_true, Bool.true_eq_false, not_true_eq_false, not_false_eq_true, Nat.not_lt_zero, Nat.le_zero_eq, Nat.reduceAdd, Nat.reduceMul, Nat.reduceSub, Nat.reduceEqDiff, Nat.reduceLT, Nat.reduceLeDiff, sC_def, sR_def, sC_1, sC_2, sR_1, sR_2, sC_st, sR_st, sR_no, sR_refuse, and_self, true_and, and_true, false_and, and_false, l_X12_doOne_116, m1, w1', hx4, ho]
      exact ⟨t1, t2, D', n', true, j, e1.trans st2, b2, b3, b4, fun i hi => b5 i (by omega), b6, fun z => Bool.noConfusion z, fun _ => ⟨ar2 b9a hg, b9b⟩⟩
theorem RD_loop (hQ : P + 13 ≤ Q) (hPL : PL + 5 ≤ Q ∧ (PL + 5 ≤ P ∨ P + 13 ≤ PL)) (hlo : lo < 30) (hg : 0 < g) (hhi : n2 ≤ 30) (hln : lo < n2) (hem : lo + 1 = n2 ↔ l + 1 = m) (hB : BK PL l m N s10) (h119 : s10.1 (PL + 1) l = 119) (hk : s20.1 122 (85 + 9 * lo) = 5) (hw : s20.1 122 (85 + 9 * lo + 8) = Int32.ofNat n2) (hcnt : s20.1 122 (85 + 9 * lo + 1) = Int32.ofNat cnt) (hcf : s10.1 (PL + 2) l = Int32.ofNat cnt) (hc99 : 1 ≤ cnt ∧ cnt ≤ 99) (hG : RG Q P PL ma D0 s10 s20 (g - 1) (lo + 1) n2 (l + 1) m) : RD Q P PL ma D0 s10 s20 g lo l (m + 1) := by
  intro F s1 s2 D n hF h h1 h2
  have hp := fun k hk => F1_pl (k := k) hPL h1 hk
  have hB1 := BK_F hPL h1 hB
  obtain ⟨hN', hN2, hlm, hmN, -⟩ := id hB1
  have h120 : s1.1 (PL + 1) l ≠ 120 := by rw [hp 1 (by omega), h119]; decide
  have h121 : s1.1 (PL + 1) l ≠ 121 := by rw [hp 1 (by omega), h119]; decide
  obtain ⟨n3, n4, n5⟩ := LR_n2 h
  by_cases h3 : n = 300
  · subst h3
    exact RO_cut hQ h hN' hN2 (by omega) (by omega) h120
  · have hn : n < 300 := by omega
    have h7 := LR_n hQ h hn
    obtain ⟨U, hU⟩ : ∃ U, U = fu_pi s1 Q 2 (Int32.ofNat (n + 1)) := ⟨_, rfl⟩
    obtain ⟨V, hV⟩ : ∃ V, V = fu_pi s2 117 34 (Int32.ofNat (n + 1)) := ⟨_, rfl⟩
    have f1 : F1 Q P s1 U := by rw [hU]; exact F1_q (by omega)
    have f2 : F2 s2 V := by rw [hV]; exact F2_q (by omega)
    have hq : U.1 (Q + 1) = s1.1 (Q + 1) := by rw [hU, p1n (by omega)]
    rw [← hU, ← hV] at h7
    have hBU := BK_F hPL f1 hB1
    obtain ⟨bU, -, -, -, bU4, bU5, bU6⟩ := id hBU
    have ff1 := F1_tr h1 f1
    have ff2 := F2_tr h2 f2
    have hpU := fun k hk => F1_pl (k := k) hPL ff1 hk
    have hvV : ∀ i, i < 9 → V.1 122 (85 + 9 * lo + i) = s20.1 122 (85 + 9 * lo + i) := fun i hi => F2_st ff2 (by omega)
    have a1 := c_deedAt (l := l) bU hN2 (by omega)
    have a2 := c_firstAt (l := l) bU hN2 (by omega)
    have a3 := c_secondAt (l := l) bU hN2 (by omega)
    have a4 := c_mateAt (l := l) bU hN2 (by omega)
    rw [hpU 1 (by omega), h119] at a1
    rw [hpU 2 (by omega), hcf] at a2
    rw [bU4] at a4
    have hk' : V.1 122 (85 + 9 * lo) = 5 := (hvV 0 (by omega)).trans hk
    have e1 := c_behL (Q := Q) (P := P) (by omega) (by omega) a1 a2 a3 a4
    have e2 := doOne_loop (K := f_X12_doAll F) n5 hn hlo hV hk'
    by_cases he : m = l + 1
    · rw [if_pos he] at e1
      have hn2 : n2 = lo + 1 := (hem.mpr he.symm).symm
      have w1 : V.1 122 (85 + 9 * lo + 1) = Int32.ofNat cnt := (hvV 1 (by omega)).trans hcnt
      have w8 : V.1 122 (85 + 9 * lo + 8) = Int32.ofNat n2 := (hvV 8 (by omega)).trans hw
      have m1 : 85 + 9 * lo + 1 < 1775 := by omega
      have m8 : 85 + 9 * lo + 8 < 1775 := by omega
      have hov := LR_ov h7
      have K0 : f_X12_doAll F V (Int32.ofNat (lo + 1)) (Int32.ofNat n2) = some V := by
        obtain ⟨F', rfl⟩ : ∃ F', F = F' + 1 := ⟨F - 1, by omega⟩
        rw [f_X12_doAll]
        unfold fb_X12_doAll
        rw [hn2, show fu_N = 4095 + 1 from rfl, l_X12_doAll_2, if_neg (fun z => Int32.lt_irrefl z), Option.bind_some]
      have hL : l_X12_doOne_116 (f_X12_doAll F) fu_N V (Int32.ofNat lo) (Int32.ofNat (85 + 9 * lo)) 0 = some V := lp_up (l := fun f (σ : fu_S) k => l_X12_doOne_116 (f_X12_doAll F) f σ (Int32.ofNat lo) (Int32.ofNat (85 + 9 * lo)) (Int32.ofNat k)) (N := cnt) (S := fun _ => V) (r := V) (fun f k hk => by
        show l_X12_doOne_116 (f_X12_doAll F) (f + 1) V (Int32.ofNat lo) (Int32.ofNat (85 + 9 * lo)) (Int32.ofNat k) = _
        simp (maxSteps := 1000000) (disch := omega) only [ne_eq, i_lt0, i_le0, i_eq0, i_n1, i_ltl, i_lel, i_eql, i_lt, i_le, i_eq, i_in, i_tn, i_add, i_addl, i_addr, i_mul, i_mulr, i_mull, if_true, if_false, eq_self, decide_eq_true_eq, decide_true, decide_false, Option.bind_some, Option.bind_none, ↓fu_ltd, ↓reduceIte, ↓ob_ite, ↓ob_asc, ↓Option.bind_some, Bool.false_eq_true, Bool.true_eq_false, not_true_eq_false, not_false_eq_true, Nat.not_lt_zero, Nat.le_zero_eq, Nat.reduceAdd, Nat.reduceMul, Nat.reduceSub, Nat.reduceEqDiff, Nat.reduceLT, Nat.reduceLeDiff, sC_def, sR_def, sC_1, sC_2, sR_1, sR_2, sC_st, sR_st, sR_no, sR_refuse, and_self, true_and, and_true, false_and, and_false, l_X12_doOne_116, m1, m8, w1, w8, hk, hov, K0, i_add1]) (fun f => by
        show l_X12_doOne_116 (f_X12_doAll F) (f + 1) V (Int32.ofNat lo) (Int32.ofNat (85 + 9 * lo)) (Int32.ofNat cnt) = _
        simp (maxSteps := 1000000) (disch := omega) only [ne_eq, i_lt0, i_le0, i_eq0, i_n1, i_ltl, i_lel, i_eql, i_lt, i_le, i_eq, i_in, i_tn, i_add, i_addl, i_addr, i_mul, i_mulr, i_mull, if_true, if_false, eq_self, decide_eq_true_eq, decide_true, decide_false, Option.bind_some, Option.bind_none, ↓fu_ltd, ↓reduceIte, ↓ob_ite, ↓ob_asc, ↓Option.bind_some, Bool.false_eq_true, Bool.true_eq_false, not_true_eq_false, not_false_eq_true, Nat.not_lt_zero, Nat.le_zero_eq, Nat.reduceAdd, Nat.reduceMul, Nat.reduceSub, Nat.reduceEqDiff, Nat.reduceLT, Nat.reduceLeDiff, sC_def, sR_def, sC_1, sC_2, sR_1, sR_2, sC_st, sR_st, sR_no, sR_refuse, and_self, true_and, and_true, false_and, and_false, l_X12_doOne_116, m1, w1, Nat.lt_irrefl]) (f := fu_N) (k := 0) (by omega) (fu_N_gt (by omega))
      refine ⟨U, V, D, n + 1, false, 1, e2.trans hL, h7, f1, f2, fun i _ => by rw [hq], by omega, fun _ => .inl (by omega), fun _ => ⟨?_, fun c b hb => ?_⟩, fun z => Bool.noConfusion z⟩
      · rw [show n + 1 - n = 1 by omega]; omega
      · rw [R_step hN' hN2 (by omega) (by omega) h120 h121 n4 hn, ← hU, e1]
        rfl
    · rw [if_neg he] at e1
      have hin : lo + 1 < n2 := by
        have : ¬ lo + 1 = n2 := fun z => he (hem.mp z).symm
        omega
      obtain ⟨c, rfl⟩ : ∃ c, cnt = c + 1 := ⟨cnt - 1, by omega⟩
      obtain ⟨u1, u2, D2, n3', ov2, j2, d1, d2, d3, d4, d5, d6, d7, d8⟩ := L_rounds (s1 := fu_pi U (Q + 1) l (Int32.ofNat (c + 1))) (s2 := V) (D := D) (n := n + 1) (lf := fu_N) (c := c) hQ hPL hlo hg hF hhi hin hB h119 hw hcnt (by omega) hG (by omega) (LR_q1 hQ h7) (F1_tr ff1 F1_q1) ff2 p1 (fu_N_gt (by omega))
      rw [Nat.sub_self] at d1
      have d1' : l_X12_doOne_116 (f_X12_doAll F) fu_N V (Int32.ofNat lo) (Int32.ofNat (85 + 9 * lo)) 0 = some u2 := d1
      refine ⟨u1, u2, D2, n3', ov2, 1 + j2, e2.trans d1', d2, F1_tr f1 (F1_tr F1_q1 d3), F2_tr f2 d4, fun i hi => by rw [d5 i hi, p1q (by omega), hq], by omega, fun _ => .inl (by omega), fun z => ⟨?_, fun c b hb => ?_⟩, fun z => ⟨?_, fun c b hb => ?_⟩⟩
      · have := (d7 z).1
        rw [show n3' - n = (n3' - (n + 1)) + 1 by omega, Nat.mul_succ]
        omega
      · rw [show c + (1 + j2) = (c + j2) + 1 by omega, R_step hN' hN2 (by omega) (by omega) h120 h121 n4 hn, ← hU, e1, Option.bind_some]
        dsimp only
        rw [(d7 z).2 c (b + 1) (by omega), show b + 1 + j2 = b + (1 + j2) by omega]
      · have := (d8 z).1
        rw [show n3' - n = (n3' - (n + 1)) + 1 by omega, Nat.mul_succ]
        omega
      · rw [show c + (1 + j2) = (c + j2) + 1 by omega, R_step hN' hN2 (by omega) (by omega) h120 h121 n4 hn, ← hU, e1, Option.bind_some]
        dsimp only
        rw [(d8 z).2 c (b + 1) (by omega)]
theorem dW_em {f g lo hi l e : Nat} (h : dW s1 PL s2 b D f g lo hi l e) : lo = hi ↔ l = e := by
  cases f with
  | zero => exact h.elim
  | succ f =>
    rw [dW] at h
    rcases h with ⟨h1, h2⟩ | ⟨h1, h2, -⟩
    · exact ⟨fun _ => h2, fun _ => h1⟩
    · constructor <;> intro <;> omega
theorem L_reg (hQ : P + 13 ≤ Q) (hPL : PL + 5 ≤ Q ∧ (PL + 5 ≤ P ∨ P + 13 ≤ PL)) (hN : s10.1 PL 4 = Int32.ofNat N) (hN2 : N ≤ 60) : ∀ {f g lo hi l e : Nat}, hi ≤ 30 → e ≤ N → dW s10 PL s20 0 D0 f g lo hi l e → RG Q P PL ma D0 s10 s20 g lo hi l e
  | 0, _, _, _, _, _, _, _, hd => hd.elim
  | f + 1, g, lo, hi, l, e, hh, he, hd => by
    rw [dW] at hd
    rcases hd with ⟨rfl, rfl⟩ | ⟨h1, h2, hd⟩
    · exact RG_nil
    · simp only [Nat.mul_zero, Nat.zero_add] at hd
      rcases hd with ⟨q1, q2, q3⟩ | ⟨q1, q2, n, m, r1, r2, r3, r4, r5, r6, r7, r8, r9, r10⟩
      · exact RG_of (by omega) (by omega) hh (by omega) (by omega) (RD_step hQ hPL hN hN2 (by omega) (by omega) q1) q2 (L_reg hQ hPL hN hN2 hh he q3)
      · have hin := L_reg hQ hPL hN hN2 (by omega) (by omega) r9
        have hrest := L_reg hQ hPL hN hN2 hh he r10
        have hem := dW_em r9
        refine RG_of (by omega) r2 hh (by omega) (by omega) ?_ r5 hrest
        have hB : BK PL l m N s10 := ⟨hN, hN2, r3, by omega, r6, r7, r8⟩
        rcases q1 with ⟨k1, k2, cnt, k3, k4, k5, k6⟩ | ⟨k1, k2, k3⟩
        · exact RD_loop hQ hPL (by omega) q2 (by omega) r1 hem hB k1 k2 r5 k6 k5 ⟨k3, k4⟩ hin
        · exact RD_when hQ hPL (by omega) q2 (by omega) hB k1 k2 r5 k3 hin
end LF6
