/-! trays: copyHomes -/
def wrl (s : fu_S) (P q k : Nat) (f : Nat → Int64) : fu_S := (s.1, fun a r => if a = P ∧ q ≤ r ∧ r < q + k then f (r - q) else s.2 a r)
section WRL
variable {s : fu_S} {P q k : Nat} {f : Nat → Int64}
theorem wrl_0 : wrl s P q 0 f = s := by
  unfold wrl
  have : (fun a r => if a = P ∧ q ≤ r ∧ r < q + 0 then f (r - q) else s.2 a r) = s.2 := by
    funext a r
    rw [if_neg (by omega)]
  rw [this]
theorem wrl_s : fu_pl (wrl s P q k f) P (q + k) (f k) = wrl s P q (k + 1) f := by
  unfold fu_pl wrl
  refine congrArg (Prod.mk s.1) ?_
  funext a r
  show (if a = P ∧ r = q + k then f k else (if a = P ∧ q ≤ r ∧ r < q + k then f (r - q) else s.2 a r)) = if a = P ∧ q ≤ r ∧ r < q + (k + 1) then f (r - q) else s.2 a r
  by_cases h1 : a = P ∧ r = q + k
  · rw [if_pos h1, if_pos (by omega), h1.2, Nat.add_sub_cancel_left]
  · rw [if_neg h1]
    by_cases h2 : a = P ∧ q ≤ r ∧ r < q + k
    · rw [if_pos h2, if_pos (by omega)]
    · rw [if_neg h2, if_neg (by omega)]
theorem wrl_1 : (wrl s P q k f).1 = s.1 := rfl
theorem wrl_2 {a : Nat} (h : a ≠ P) : (wrl s P q k f).2 a = s.2 a := by
  funext r
  exact if_neg (fun z => h z.1)
end WRL
theorem pi_id {s : fu_S} {a q : Nat} {x : Int32} (h : s.1 a q = x) : fu_pi s a q x = s := by
  unfold fu_pi
  have : (fun b r => if b = a ∧ r = q then x else s.1 b r) = s.1 := by
    funext b r
    by_cases z : b = a ∧ r = q
    · rw [if_pos z, z.1, z.2, h]
    · rw [if_neg z]
  rw [this]
theorem c_copyL {s : fu_S} {D : dD} {t n so : Nat} (h : dC s 11 D) (hv : dV D) (ht : t < 4) (hn : n ≤ 60) (h4 : s.1 4 t = Int32.ofNat n) (h3 : s.1 3 t = Int32.ofNat so) (hp : D 0 4 ≤ n) : l_X11_copyHomes_71 fu_N s (Int32.ofNat t) (Int32.ofNat (D 0 4)) 0 = some (wrl s 2 (t * 60) (D 0 4) (fun k => f_X12_cut (Int32.ofNat so) (Int32.toInt64 (Int32.ofNat (D 5 k))))) := by
  have hp4 := hv.1
  have hL := lp_up (l := fun f σ k => l_X11_copyHomes_71 f σ (Int32.ofNat t) (Int32.ofNat (D 0 4)) (Int32.ofNat k)) (N := D 0 4) (S := fun k => wrl s 2 (t * 60) k (fun k => f_X12_cut (Int32.ofNat so) (Int32.toInt64 (Int32.ofNat (D 5 k))))) (r := wrl s 2 (t * 60) (D 0 4) (fun k => f_X12_cut (Int32.ofNat so) (Int32.toInt64 (Int32.ofNat (D 5 k))))) (fun m k hk => by
      generalize hs : wrl s 2 (t * 60) k (fun k => f_X12_cut (Int32.ofNat so) (Int32.toInt64 (Int32.ofNat (D 5 k)))) = σ
      have hσ : σ.1 = s.1 := by rw [← hs]; rfl
      have hC : dC σ 11 D := dC_congr (fun j hj => ⟨by rw [hσ], by rw [← hs, wrl_2 (by omega)]⟩) h
      have b4 : σ.1 4 t = Int32.ofNat n := by rw [hσ]; exact h4
      have b3 : σ.1 3 t = Int32.ofNat so := by rw [hσ]; exact h3
      have m1 : t * 60 + k < 240 := by omega
      have hk' : k < n := by omega
      have e1 : fu_pl σ 2 (t * 60 + k) (f_X12_cut (Int32.ofNat so) (Int32.toInt64 (Int32.ofNat (D 5 k)))) = wrl s 2 (t * 60) (k + 1) (fun k => f_X12_cut (Int32.ofNat so) (Int32.toInt64 (Int32.ofNat (D 5 k)))) := by
        rw [← hs]
        exact wrl_s (f := fun k => f_X12_cut (Int32.ofNat so) (Int32.toInt64 (Int32.ofNat (D 5 k))))
      show l_X11_copyHomes_71 (m + 1) σ (Int32.ofNat t) (Int32.ofNat (D 0 4)) (Int32.ofNat k) = _
      simp (maxSteps := 1000000) (disch := omega) only [ne_eq, i_lt0, i_le0, i_eq0, i_n1, i_ltl, i_lel, i_eql, i_lt, i_le, i_eq, i_in, i_tn, i_add, i_addl, i_addr, i_mul, i_mulr, i_mull, if_true, if_false, eq_self, decide_eq_true_eq, decide_true, decide_false, Option.bind_some, Option.bind_none, ↓fu_ltd, ↓reduceIte, ↓ob_ite, ↓ob_asc, Bool.false_eq_true, Bool.true_eq_false, not_true_eq_false, not_false_eq_true, Nat.not_lt_zero, Nat.le_zero_eq, Nat.reduceAdd, Nat.reduceMul, Nat.reduceSub, Nat.reduceEqDiff, Nat.reduceLT, Nat.reduceLeDiff, sC_def, sR_def, sC_1, sC_2, sR_1, sR_2, sC_st, sR_st, sR_no, sR_refuse, and_self, true_and, and_true, false_and, and_false, l_X11_copyHomes_71, hk, c_homeOf hC hv hk, f_X7_put, c_hasPl1 ht hn b4, hk', ht, m1, b3, cut_eq, e1, i_add1]) (fun m => by
      show l_X11_copyHomes_71 (m + 1) (wrl s 2 (t * 60) (D 0 4) _) (Int32.ofNat t) (Int32.ofNat (D 0 4)) (Int32.ofNat (D 0 4)) = _
      simp (maxSteps := 1000000) (disch := omega) only [ne_eq, i_lt0, i_le0, i_eq0, i_n1, i_ltl, i_lel, i_eql, i_lt, i_le, i_eq, i_in, i_tn, i_add, i_addl, i_addr, i_mul, i_mulr, i_mull, if_true, if_false, eq_self, decide_eq_true_eq, decide_true, decide_false, Option.bind_some, Option.bind_none, ↓fu_ltd, ↓reduceIte, ↓ob_ite, ↓ob_asc, Bool.false_eq_true, Bool.true_eq_false, not_true_eq_false, not_false_eq_true, Nat.not_lt_zero, Nat.le_zero_eq, Nat.reduceAdd, Nat.reduceMul, Nat.reduceSub, Nat.reduceEqDiff, Nat.reduceLT, Nat.reduceLeDiff, sC_def, sR_def, sC_1, sC_2, sR_1, sR_2, sC_st, sR_st, sR_no, sR_refuse, and_self, true_and, and_true, false_and, and_false, l_X11_copyHomes_71, Nat.lt_irrefl]) (f := fu_N) (k := 0) (by omega) (fu_N_gt (by omega))
  simp only [wrl_0] at hL
  exact hL
theorem r_write {σ : fu_S} {t k n so : Nat} {v : Int64} (ht : t < 4) (hk : k < n) (hn : n ≤ 60) (h0 : σ.1 117 0 = 0) (h1 : σ.1 117 1 = 0) (b4 : σ.1 119 t = Int32.ofNat n) (b3 : σ.1 118 t = Int32.ofNat so) : f_X12_write σ (Int32.ofNat t) (Int32.ofNat k) v = some (true, fu_pl σ 120 (60 * t + k) (f_X12_cut (Int32.ofNat so) v)) := by
  have y00 : (0 : Int32) ≤ 0 := by decide
  have m1 : 60 * t + k < 240 := by omega
  have e0 : fu_pi σ 117 0 0 = σ := pi_id h0
  have e1 : fu_pi σ 117 1 0 = σ := pi_id h1
  simp (maxSteps := 1000000) (disch := omega) only [ne_eq, i_lt0, i_le0, i_eq0, i_n1, i_ltl, i_lel, i_eql, i_lt, i_le, i_eq, i_in, i_tn, i_add, i_addl, i_addr, i_mul, i_mulr, i_mull, if_true, if_false, eq_self, decide_eq_true_eq, decide_true, decide_false, Option.bind_some, Option.bind_none, ↓fu_ltd, ↓reduceIte, ↓ob_ite, ↓ob_asc, Bool.false_eq_true, Bool.true_eq_false, not_true_eq_false, not_false_eq_true, Nat.not_lt_zero, Nat.le_zero_eq, Nat.reduceAdd, Nat.reduceMul, Nat.reduceSub, Nat.reduceEqDiff, Nat.reduceLT, Nat.reduceLeDiff, sC_def, sR_def, sC_1, sC_2, sR_1, sR_2, sC_st, sR_st, sR_no, sR_refuse, and_self, true_and, and_true, false_and, and_false, f_X12_write, f_X12_placed, f_X12_trayed, e0, e1, h0, b4, b3, ht, hk, m1, y00]
theorem r_copyL {s : fu_S} {D : dD} {t n so : Nat} (h : dR s 0 D) (hv : dV D) (ht : t < 4) (hn : n ≤ 60) (h0 : s.1 117 0 = 0) (h1 : s.1 117 1 = 0) (h4 : s.1 119 t = Int32.ofNat n) (h3 : s.1 118 t = Int32.ofNat so) (hp : D 0 4 ≤ n) : l_X12_copyHomes_62 fu_N s (Int32.ofNat t) 0 = some (wrl s 120 (60 * t) (D 0 4) (fun k => f_X12_cut (Int32.ofNat so) (Int32.toInt64 (Int32.ofNat (D 5 k))))) := by
  have hp4 := hv.1
  have g1 := (dR_0 h).1.2.1
  have hL := lp_up (l := fun f σ k => l_X12_copyHomes_62 f σ (Int32.ofNat t) (Int32.ofNat k)) (N := D 0 4) (S := fun k => wrl s 120 (60 * t) k (fun k => f_X12_cut (Int32.ofNat so) (Int32.toInt64 (Int32.ofNat (D 5 k))))) (r := wrl s 120 (60 * t) (D 0 4) (fun k => f_X12_cut (Int32.ofNat so) (Int32.toInt64 (Int32.ofNat (D 5 k))))) (fun m k hk => by
      generalize hs : wrl s 120 (60 * t) k (fun k => f_X12_cut (Int32.ofNat so) (Int32.toInt64 (Int32.ofNat (D 5 k)))) = σ
      have hσ : σ.1 = s.1 := by rw [← hs]; rfl
      have m2 : 21 + k < 1775 := by omega
      have g2 := ((dR_0 h).2.2.1 k hk).2.1
      have hk' : k < n := by omega
      have e2 := r_write (σ := σ) (v := Int32.toInt64 (Int32.ofNat (D 5 k))) ht hk' hn (by rw [hσ]; exact h0) (by rw [hσ]; exact h1) (by rw [hσ]; exact h4) (by rw [hσ]; exact h3)
      have e1 : fu_pl σ 120 (60 * t + k) (f_X12_cut (Int32.ofNat so) (Int32.toInt64 (Int32.ofNat (D 5 k)))) = wrl s 120 (60 * t) (k + 1) (fun k => f_X12_cut (Int32.ofNat so) (Int32.toInt64 (Int32.ofNat (D 5 k)))) := by
        rw [← hs]
        exact wrl_s (f := fun k => f_X12_cut (Int32.ofNat so) (Int32.toInt64 (Int32.ofNat (D 5 k))))
      show l_X12_copyHomes_62 (m + 1) σ (Int32.ofNat t) (Int32.ofNat k) = _
      simp (maxSteps := 1000000) (disch := omega) only [ne_eq, i_lt0, i_le0, i_eq0, i_n1, i_ltl, i_lel, i_eql, i_lt, i_le, i_eq, i_in, i_tn, i_add, i_addl, i_addr, i_mul, i_mulr, i_mull, if_true, if_false, eq_self, decide_eq_true_eq, decide_true, decide_false, Option.bind_some, Option.bind_none, ↓fu_ltd, ↓reduceIte, ↓ob_ite, ↓ob_asc, Bool.false_eq_true, Bool.true_eq_false, not_true_eq_false, not_false_eq_true, Nat.not_lt_zero, Nat.le_zero_eq, Nat.reduceAdd, Nat.reduceMul, Nat.reduceSub, Nat.reduceEqDiff, Nat.reduceLT, Nat.reduceLeDiff, sC_def, sR_def, sC_1, sC_2, sR_1, sR_2, sC_st, sR_st, sR_no, sR_refuse, and_self, true_and, and_true, false_and, and_false, l_X12_copyHomes_62, hσ, g1, hk, m2, g2, e2, e1, i_add1]) (fun m => by
      show l_X12_copyHomes_62 (m + 1) (wrl s 120 (60 * t) (D 0 4) _) (Int32.ofNat t) (Int32.ofNat (D 0 4)) = _
      simp (maxSteps := 1000000) (disch := omega) only [ne_eq, i_lt0, i_le0, i_eq0, i_n1, i_ltl, i_lel, i_eql, i_lt, i_le, i_eq, i_in, i_tn, i_add, i_addl, i_addr, i_mul, i_mulr, i_mull, if_true, if_false, eq_self, decide_eq_true_eq, decide_true, decide_false, Option.bind_some, Option.bind_none, ↓fu_ltd, ↓reduceIte, ↓ob_ite, ↓ob_asc, Bool.false_eq_true, Bool.true_eq_false, not_true_eq_false, not_false_eq_true, Nat.not_lt_zero, Nat.le_zero_eq, Nat.reduceAdd, Nat.reduceMul, Nat.reduceSub, Nat.reduceEqDiff, Nat.reduceLT, Nat.reduceLeDiff, sC_def, sR_def, sC_1, sC_2, sR_1, sR_2, sC_st, sR_st, sR_no, sR_refuse, and_self, true_and, and_true, false_and, and_false, l_X12_copyHomes_62, wrl_1, g1, Nat.lt_irrefl]) (f := fu_N) (k := 0) (by omega) (fu_N_gt (by omega))
  simp only [wrl_0] at hL
  exact hL
theorem hd_16 : lw_E_16 dI := by
  intro s1 s2 hI a1
  obtain ⟨D, hv, hC, hR, hQ⟩ := dI_D hI
  have hp4 := hv.1
  have hT : dTr s1 s2 := hI.2.2.1
  have c4 := (dC_11 hC).1.2.2.2.2.1
  have g1 := (dR_0 hR).1.2.1
  by_cases h1 : ¬ a1 < 0 ∧ a1 < 4
  · obtain ⟨t, ht, rfl⟩ := i_is4 h1
    have ht3 : t ≤ 3 := by omega
    rcases tr_is hT ht with ⟨p1', p2'⟩ | ⟨n, so, hn, hso, q1, q2, q3, q4, q5⟩
    · refine ⟨-1, sC s1 3, sR s2 3, ?_, ?_, dI_s hI⟩
      · simp (maxSteps := 1000000) (disch := omega) only [ne_eq, i_lt0, i_le0, i_eq0, i_n1, i_ltl, i_lel, i_eql, i_lt, i_le, i_eq, i_in, i_tn, i_add, i_addl, i_addr, i_mul, i_mulr, i_mull, if_true, if_false, eq_self, decide_eq_true_eq, decide_true, decide_false, Option.bind_some, Option.bind_none, ↓fu_ltd, ↓reduceIte, ↓ob_ite, ↓ob_asc, Bool.false_eq_true, Bool.true_eq_false, not_true_eq_false, not_false_eq_true, Nat.not_lt_zero, Nat.le_zero_eq, Nat.reduceAdd, Nat.reduceMul, Nat.reduceSub, Nat.reduceEqDiff, Nat.reduceLT, Nat.reduceLeDiff, sC_def, sR_def, sC_1, sC_2, sR_1, sR_2, sC_st, sR_st, sR_no, sR_refuse, and_self, true_and, and_true, false_and, and_false, f_X11_copyHomes, c_isTray, ht, c_there0 ht p1']
        try rfl
      · simp (maxSteps := 1000000) (disch := omega) only [ne_eq, i_lt0, i_le0, i_eq0, i_n1, i_ltl, i_lel, i_eql, i_lt, i_le, i_eq, i_in, i_tn, i_add, i_addl, i_addr, i_mul, i_mulr, i_mull, if_true, if_false, eq_self, decide_eq_true_eq, decide_true, decide_false, Option.bind_some, Option.bind_none, ↓fu_ltd, ↓reduceIte, ↓ob_ite, ↓ob_asc, Bool.false_eq_true, Bool.true_eq_false, not_true_eq_false, not_false_eq_true, Nat.not_lt_zero, Nat.le_zero_eq, Nat.reduceAdd, Nat.reduceMul, Nat.reduceSub, Nat.reduceEqDiff, Nat.reduceLT, Nat.reduceLeDiff, sC_def, sR_def, sC_1, sC_2, sR_1, sR_2, sC_st, sR_st, sR_no, sR_refuse, and_self, true_and, and_true, false_and, and_false, f_X12_copyHomes, f_X12_isTray, r_isInl3, ht, ht3, p2', i_n1lt]
    · by_cases hp : D 0 4 ≤ n
      · have b4 : (sC s1 0).1 4 t = Int32.ofNat n := by rw [sC_1 (by omega)]; exact q1
        have b3 : (sC s1 0).1 3 t = Int32.ofNat so := by rw [sC_1 (by omega)]; exact q3
        have d4 : (sR s2 0).1 119 t = Int32.ofNat n := by rw [sR_1 (by omega)]; exact q2
        have d3 : (sR s2 0).1 118 t = Int32.ofNat so := by rw [sR_1 (by omega)]; exact q4
        have e1 := c_copyL (dC_s (x := 0) (by omega : (11 : Nat) ≠ 0) hC) hv ht hn b4 b3 hp
        have e2 := r_copyL (dR_s (x := 0) hv hR) hv ht hn sR_st (by unfold sR; rw [p1q (by omega), p1]) d4 d3 hp
        have hz : ¬ n < D 0 4 := by omega
        have hpl : f_X7_hasPlaces s1 (Int32.ofNat t) 0 (Int32.ofNat (D 0 4)) = some true := by
          refine (c_hasPlN (i := 0) ht hn (by omega) (by omega) q1).trans (congrArg some (decide_eq_true ?_))
          omega
        refine ⟨Int32.ofNat (D 0 4), wrl (sC s1 0) 2 (t * 60) (D 0 4) (fun k => f_X12_cut (Int32.ofNat so) (Int32.toInt64 (Int32.ofNat (D 5 k)))), wrl (sR s2 0) 120 (60 * t) (D 0 4) (fun k => f_X12_cut (Int32.ofNat so) (Int32.toInt64 (Int32.ofNat (D 5 k)))), ?_, ?_, dI_tray hI ?_ ?_ ?_ ?_ ?_ ?_ ?_ ?_⟩
        · simp (maxSteps := 1000000) (disch := omega) only [ne_eq, i_lt0, i_le0, i_eq0, i_n1, i_ltl, i_lel, i_eql, i_lt, i_le, i_eq, i_in, i_tn, i_add, i_addl, i_addr, i_mul, i_mulr, i_mull, if_true, if_false, eq_self, decide_eq_true_eq, decide_true, decide_false, Option.bind_some, Option.bind_none, ↓fu_ltd, ↓reduceIte, ↓ob_ite, ↓ob_asc, Bool.false_eq_true, Bool.true_eq_false, not_true_eq_false, not_false_eq_true, Nat.not_lt_zero, Nat.le_zero_eq, Nat.reduceAdd, Nat.reduceMul, Nat.reduceSub, Nat.reduceEqDiff, Nat.reduceLT, Nat.reduceLeDiff, sC_def, sR_def, sC_1, sC_2, sR_1, sR_2, sC_st, sR_st, sR_no, sR_refuse, and_self, true_and, and_true, false_and, and_false, f_X11_copyHomes, f_X4_people, c_isTray, ht, c_there ht hn q1, c4, hpl, e1]
        · simp (maxSteps := 1000000) (disch := omega) only [ne_eq, i_lt0, i_le0, i_eq0, i_n1, i_ltl, i_lel, i_eql, i_lt, i_le, i_eq, i_in, i_tn, i_add, i_addl, i_addr, i_mul, i_mulr, i_mull, if_true, if_false, eq_self, decide_eq_true_eq, decide_true, decide_false, Option.bind_some, Option.bind_none, ↓fu_ltd, ↓reduceIte, ↓ob_ite, ↓ob_asc, Bool.false_eq_true, Bool.true_eq_false, not_true_eq_false, not_false_eq_true, Nat.not_lt_zero, Nat.le_zero_eq, Nat.reduceAdd, Nat.reduceMul, Nat.reduceSub, Nat.reduceEqDiff, Nat.reduceLT, Nat.reduceLeDiff, sC_def, sR_def, sC_1, sC_2, sR_1, sR_2, sC_st, sR_st, sR_no, sR_refuse, and_self, true_and, and_true, false_and, and_false, f_X12_copyHomes, f_X12_isTray, r_isInl3, ht, ht3, q2, g1, hz, e2, wrl_1]
        · intro v hv'
          rw [wrl_1, wrl_1, sC_1 (by omega), sC_1 (by omega), sR_1 (by omega), sR_1 (by omega)]
          rcases hT v hv' with h | ⟨n2, so2, y1, y2, y3, y4, y5, y6, y7⟩
          · exact .inl h
          · refine .inr ⟨n2, so2, y1, y2, y3, y4, y5, y6, fun p hp' => ?_⟩
            show (if (2 : Nat) = 2 ∧ t * 60 ≤ 60 * v + p ∧ 60 * v + p < t * 60 + D 0 4 then f_X12_cut (Int32.ofNat so) (Int32.toInt64 (Int32.ofNat (D 5 (60 * v + p - t * 60)))) else s1.2 2 (60 * v + p)) = if (120 : Nat) = 120 ∧ 60 * t ≤ 60 * v + p ∧ 60 * v + p < 60 * t + D 0 4 then f_X12_cut (Int32.ofNat so) (Int32.toInt64 (Int32.ofNat (D 5 (60 * v + p - 60 * t)))) else s2.2 120 (60 * v + p)
            rw [Nat.mul_comm t 60, y7 p hp']
            simp only [true_and]
        · rw [wrl_1, wrl_1, sC_st, sR_st]
        · rfl
        · rw [wrl_2 (by omega), sC_2]
        · intro a x0 x2 x3 x4
          rw [wrl_1, wrl_2 x2, sC_1 x0, sC_2]; exact ⟨rfl, rfl⟩
        · intro q x0 x1
          rw [wrl_1]; unfold sR; rw [p1q x0, p1q x1]
        · rw [wrl_2 (by omega), sR_2]
        · intro a ha
          rw [wrl_1, wrl_2 (by omega), sR_1 (by omega), sR_2]; exact ⟨rfl, rfl⟩
      · have hz : n < D 0 4 := by omega
        have hpl : f_X7_hasPlaces s1 (Int32.ofNat t) 0 (Int32.ofNat (D 0 4)) = some false := by
          refine (c_hasPlN (i := 0) ht hn (by omega) (by omega) q1).trans (congrArg some (decide_eq_false ?_))
          omega
        refine ⟨-1, sC s1 4, sR s2 4, ?_, ?_, dI_s hI⟩
        · simp (maxSteps := 1000000) (disch := omega) only [ne_eq, i_lt0, i_le0, i_eq0, i_n1, i_ltl, i_lel, i_eql, i_lt, i_le, i_eq, i_in, i_tn, i_add, i_addl, i_addr, i_mul, i_mulr, i_mull, if_true, if_false, eq_self, decide_eq_true_eq, decide_true, decide_false, Option.bind_some, Option.bind_none, ↓fu_ltd, ↓reduceIte, ↓ob_ite, ↓ob_asc, Bool.false_eq_true, Bool.true_eq_false, not_true_eq_false, not_false_eq_true, Nat.not_lt_zero, Nat.le_zero_eq, Nat.reduceAdd, Nat.reduceMul, Nat.reduceSub, Nat.reduceEqDiff, Nat.reduceLT, Nat.reduceLeDiff, sC_def, sR_def, sC_1, sC_2, sR_1, sR_2, sC_st, sR_st, sR_no, sR_refuse, and_self, true_and, and_true, false_and, and_false, f_X11_copyHomes, f_X4_people, c_isTray, ht, c_there ht hn q1, c4, hpl]
          try rfl
        · simp (maxSteps := 1000000) (disch := omega) only [ne_eq, i_lt0, i_le0, i_eq0, i_n1, i_ltl, i_lel, i_eql, i_lt, i_le, i_eq, i_in, i_tn, i_add, i_addl, i_addr, i_mul, i_mulr, i_mull, if_true, if_false, eq_self, decide_eq_true_eq, decide_true, decide_false, Option.bind_some, Option.bind_none, ↓fu_ltd, ↓reduceIte, ↓ob_ite, ↓ob_asc, Bool.false_eq_true, Bool.true_eq_false, not_true_eq_false, not_false_eq_true, Nat.not_lt_zero, Nat.le_zero_eq, Nat.reduceAdd, Nat.reduceMul, Nat.reduceSub, Nat.reduceEqDiff, Nat.reduceLT, Nat.reduceLeDiff, sC_def, sR_def, sC_1, sC_2, sR_1, sR_2, sC_st, sR_st, sR_no, sR_refuse, and_self, true_and, and_true, false_and, and_false, f_X12_copyHomes, f_X12_isTray, r_isInl3, ht, ht3, q2, g1, hz]
  · refine ⟨-1, sC s1 1, sR s2 1, ?_, ?_, dI_s hI⟩
    · simp (maxSteps := 1000000) (disch := omega) only [ne_eq, i_lt0, i_le0, i_eq0, i_n1, i_ltl, i_lel, i_eql, i_lt, i_le, i_eq, i_in, i_tn, i_add, i_addl, i_addr, i_mul, i_mulr, i_mull, if_true, if_false, eq_self, decide_eq_true_eq, decide_true, decide_false, Option.bind_some, Option.bind_none, ↓fu_ltd, ↓reduceIte, ↓ob_ite, ↓ob_asc, Bool.false_eq_true, Bool.true_eq_false, not_true_eq_false, not_false_eq_true, Nat.not_lt_zero, Nat.le_zero_eq, Nat.reduceAdd, Nat.reduceMul, Nat.reduceSub, Nat.reduceEqDiff, Nat.reduceLT, Nat.reduceLeDiff, sC_def, sR_def, sC_1, sC_2, sR_1, sR_2, sC_st, sR_st, sR_no, sR_refuse, and_self, true_and, and_true, false_and, and_false, f_X11_copyHomes, c_isTray, h1]
      try rfl
    · have h2 : ¬ (¬ a1 < 0 ∧ a1 ≤ 3) := fun z => h1 ⟨z.1, i_le3.mp z.2⟩
      simp (maxSteps := 1000000) (disch := omega) only [ne_eq, i_lt0, i_le0, i_eq0, i_n1, i_ltl, i_lel, i_eql, i_lt, i_le, i_eq, i_in, i_tn, i_add, i_addl, i_addr, i_mul, i_mulr, i_mull, if_true, if_false, eq_self, decide_eq_true_eq, decide_true, decide_false, Option.bind_some, Option.bind_none, ↓fu_ltd, ↓reduceIte, ↓ob_ite, ↓ob_asc, Bool.false_eq_true, Bool.true_eq_false, not_true_eq_false, not_false_eq_true, Nat.not_lt_zero, Nat.le_zero_eq, Nat.reduceAdd, Nat.reduceMul, Nat.reduceSub, Nat.reduceEqDiff, Nat.reduceLT, Nat.reduceLeDiff, sC_def, sR_def, sC_1, sC_2, sR_1, sR_2, sC_st, sR_st, sR_no, sR_refuse, and_self, true_and, and_true, false_and, and_false, f_X12_copyHomes, f_X12_isTray, r_isInl3, h2]
