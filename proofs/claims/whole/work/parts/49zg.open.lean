/-! texts: opened on both sides -/
section OPN
variable {s t : fu_S} {u : Nat → Nat} {n p q e f k i g v j m : Nat} {x y : Int32} {z : Int64}
theorem tW_V (hq : q < n) (h : tG u n q = 2 ∨ tG u n q = 3) : tW u n q = Int64.ofNat (tV u n q) := by
  have hnq : ¬ n ≤ q := by omega
  unfold tG at h
  unfold tW tV
  rw [if_neg hnq] at h ⊢
  cases hL : c_L (u q)
  · rw [hL, if_neg Bool.false_ne_true] at h
    rw [if_neg Bool.false_ne_true, if_neg Bool.false_ne_true]
    cases hD : c_D (u q)
    · rw [hD, if_neg Bool.false_ne_true] at h
      split at h <;> omega
    · rw [hD, if_pos rfl] at h
      rw [if_pos rfl, if_pos rfl]
      by_cases h4 : d_en c_D u n q - q ≤ 4
      · rw [if_pos h4]
      · rw [if_neg h4] at h; omega
  · rw [hL, if_pos rfl] at h
    rw [if_pos rfl, if_pos rfl]
    by_cases h8 : d_en c_L u n q - q ≤ 8
    · exact if_pos h8
    · rw [if_neg h8] at h; omega
theorem cA_ad (h : cA s u n m) (hq : tq u n m = q) (hz : (tG u n q = 2 ∨ tG u n q = 3) → z = Int64.ofNat (tV u n q)) : cA (adT s m (Int32.ofNat (tG u n q)) (Int32.ofNat q) z) u n (m + 1) := by
  refine ⟨p1, fun j hj => ?_⟩
  have r8 : ∀ j, (adT s m (Int32.ofNat (tG u n q)) (Int32.ofNat q) z).1 8 j = if j = m then Int32.ofNat (tG u n q) else s.1 8 j := fun j => by
    unfold adT
    rw [p1n (by omega), l1, p1n (by omega), p1r]
    by_cases e : j = m
    · rw [if_pos ⟨rfl, e⟩, if_pos e]
    · rw [if_neg (fun z => e z.2), if_neg e]
  have r9 : ∀ j, (adT s m (Int32.ofNat (tG u n q)) (Int32.ofNat q) z).1 9 j = if j = m then Int32.ofNat q else s.1 9 j := fun j => by
    unfold adT
    rw [p1n (by omega), l1, p1r]
    by_cases e : j = m
    · rw [if_pos ⟨rfl, e⟩, if_pos e]
    · rw [if_neg (fun z => e z.2), if_neg e, p1n (by omega)]
  have r10 : ∀ j, (adT s m (Int32.ofNat (tG u n q)) (Int32.ofNat q) z).2 10 j = if j = m then z else s.2 10 j := fun j => by
    unfold adT
    rw [p2, l2r]
    by_cases e : j = m
    · rw [if_pos ⟨rfl, e⟩, if_pos e]
    · rw [if_neg (fun z => e z.2), if_neg e]; rfl
  rw [r8, r9, r10]
  by_cases e : j = m
  · rw [if_pos e, if_pos e, if_pos e, e, hq]
    exact ⟨rfl, rfl, hz⟩
  · rw [if_neg e, if_neg e, if_neg e]
    exact h.2 j (by omega)
theorem c_open38 : ∀ {k p m r f : Nat} {s : fu_S}, cT s u n → n - p ≤ k → p ≤ n → m ≤ p → r ≤ p → k < f → cA s u n m → d_en c_B u n p = tq u n m → (∀ j, j < m → tq u n j < n) → ∃ s' m', l_X8_open_38 f s (Int32.ofNat n) (Int32.ofNat p) (Int32.ofNat r) = some s' ∧ fO s s' ∧ cA s' u n m' ∧ m' ≤ n ∧ tq u n m' = n ∧ ∀ j, j < m' → tq u n j < n
  | k, p, m, r, 0, s, _, _, _, _, _, hf, _, _, _ => absurd hf (by omega)
  | k, p, m, r, f + 1, s, hT, hk, hp, hm, hr, hf, hA, hd, hj => by
    have hn := hT.1
    by_cases hpn : p < n
    · have hp9 : p < 900 := by omega
      have hr9 : r < 900 := by omega
      obtain ⟨k', rfl⟩ : ∃ k', k = k' + 1 := ⟨k - 1, by omega⟩
      obtain ⟨hu, hb⟩ := hT.2.1 p hpn
      have hc := c_isBx hb
      cases hz : c_B (u p)
      · rw [hz] at hc
        rw [d_en_no hpn hz] at hd
        have e1 := c_tok hT hpn hA.1 (by omega)
        have hE := tE_bd (u := u) hpn
        obtain ⟨s', m', a1, a2, a3, a4, a5, a6⟩ := c_open38 (k := k') (p := tE u n p) (m := m + 1) (r := r + 1) (f := f) (cT_O hT (fO_ad (m := m) (x := Int32.ofNat (tG u n p)) (y := Int32.ofNat p) (z := tW u n p))) (by omega) hE.2 (by omega) (by omega) (by omega) (cA_ad hA hd.symm (tW_V hpn)) (by rw [hd]; rfl) (fun j hj' => by
          by_cases e : j = m
          · rw [e, ← hd]; exact hpn
          · exact hj j (by omega))
        refine ⟨s', m', ?_, fO_tr fO_ad a2, a3, a4, a5, a6⟩
        rw [← a1]
        generalize adT s m (Int32.ofNat (tG u n p)) (Int32.ofNat p) (tW u n p) = Z at *
        generalize tE u n p = E at *
        simp (maxSteps := 1000000) (disch := omega) only [ne_eq, i_lt0, i_le0, i_eq0, i_n1, i_ltl, i_lel, i_eql, i_lt, i_le, i_eq, i_in, i_tn, i_add, i_addl, i_addr, i_mul, i_mulr, i_mull, if_true, if_false, eq_self, decide_eq_true_eq, decide_true, decide_false, Option.bind_some, Option.bind_none, ↓fu_ltd, ↓reduceIte, ↓ob_ite, ↓ob_asc, Bool.false_eq_true, Bool.true_eq_false, not_true_eq_false, not_false_eq_true, Nat.not_lt_zero, Nat.le_zero_eq, Nat.reduceAdd, Nat.reduceMul, Nat.reduceSub, Nat.reduceEqDiff, Nat.reduceLT, Nat.reduceLeDiff, sC_def, sR_def, sC_1, sC_2, sR_1, sR_2, sC_st, sR_st, sR_no, sR_refuse, and_self, true_and, and_true, false_and, and_false, l_X8_open_38, hr9, hpn, hp9, hc, e1, i_add1]
      · rw [hz] at hc
        rw [d_en_y hpn hz] at hd
        obtain ⟨s', m', a1, a2⟩ := c_open38 (k := k') (p := p + 1) (m := m) (r := r + 1) (f := f) hT (by omega) (by omega) (by omega) (by omega) (by omega) hA hd hj
        refine ⟨s', m', ?_, a2⟩
        rw [← a1]
        simp (maxSteps := 1000000) (disch := omega) only [ne_eq, i_lt0, i_le0, i_eq0, i_n1, i_ltl, i_lel, i_eql, i_lt, i_le, i_eq, i_in, i_tn, i_add, i_addl, i_addr, i_mul, i_mulr, i_mull, if_true, if_false, eq_self, decide_eq_true_eq, decide_true, decide_false, Option.bind_some, Option.bind_none, ↓fu_ltd, ↓reduceIte, ↓ob_ite, ↓ob_asc, Bool.false_eq_true, Bool.true_eq_false, not_true_eq_false, not_false_eq_true, Nat.not_lt_zero, Nat.le_zero_eq, Nat.reduceAdd, Nat.reduceMul, Nat.reduceSub, Nat.reduceEqDiff, Nat.reduceLT, Nat.reduceLeDiff, sC_def, sR_def, sC_1, sC_2, sR_1, sR_2, sC_st, sR_st, sR_no, sR_refuse, and_self, true_and, and_true, false_and, and_false, l_X8_open_38, hr9, hpn, hp9, hc, i_add1]
    · refine ⟨s, m, ?_, fO_rf, hA, by omega, by rw [← hd, d_en_n (by omega)], hj⟩
      simp (maxSteps := 1000000) (disch := omega) only [ne_eq, i_lt0, i_le0, i_eq0, i_n1, i_ltl, i_lel, i_eql, i_lt, i_le, i_eq, i_in, i_tn, i_add, i_addl, i_addr, i_mul, i_mulr, i_mull, if_true, if_false, eq_self, decide_eq_true_eq, decide_true, decide_false, Option.bind_some, Option.bind_none, ↓fu_ltd, ↓reduceIte, ↓ob_ite, ↓ob_asc, Bool.false_eq_true, Bool.true_eq_false, not_true_eq_false, not_false_eq_true, Nat.not_lt_zero, Nat.le_zero_eq, Nat.reduceAdd, Nat.reduceMul, Nat.reduceSub, Nat.reduceEqDiff, Nat.reduceLT, Nat.reduceLeDiff, sC_def, sR_def, sC_1, sC_2, sR_1, sR_2, sC_st, sR_st, sR_no, sR_refuse, and_self, true_and, and_true, false_and, and_false, l_X8_open_38, hpn]
      exact ite_self _
/-- all tokens stand, the m-th is the end -/
def cM (s : fu_S) (u : Nat → Nat) (n m : Nat) : Prop := cA s u n (m + 1) ∧ m ≤ n ∧ n ≤ 900 ∧ tq u n m = n ∧ ∀ j, j < m → tq u n j < n
theorem c_open (hT : cT s u n) (h52 : s.1 5 2 = Int32.ofNat k) (hk : n ≤ k) (hk9 : k ≤ 900) : ∃ s' m', f_X8_open s (Int32.ofNat n) = some s' ∧ cM s' u n m' ∧ s'.1 5 7 = 0 ∧ s'.1 5 8 = 0 ∧ s'.1 5 9 = -1 ∧ (∀ a, a ≠ 5 → a ≠ 8 → a ≠ 9 → s'.1 a = s.1 a) ∧ (∀ q, ¬ (6 ≤ q ∧ q ≤ 9) → s'.1 5 q = s.1 5 q) ∧ ∀ a, a ≠ 10 → s'.2 a = s.2 a := by
  obtain ⟨Z, hZ⟩ : ∃ Z, Z = fu_pi (fu_pi (fu_pi (fu_pi s 5 6 0) 5 7 0) 5 8 0) 5 9 (-1) := ⟨_, rfl⟩
  have zn : ∀ a, a ≠ 5 → Z.1 a = s.1 a := fun a h => by rw [hZ, p1n h, p1n h, p1n h, p1n h]
  have z2 : Z.2 = s.2 := by rw [hZ]; rfl
  have z6 : Z.1 5 6 = Int32.ofNat 0 := by rw [hZ, p1q (by omega), p1q (by omega), p1q (by omega), p1]; rfl
  have z7 : Z.1 5 7 = 0 := by rw [hZ, p1q (by omega), p1q (by omega), p1]
  have z8 : Z.1 5 8 = 0 := by rw [hZ, p1q (by omega), p1]
  have z9 : Z.1 5 9 = -1 := by rw [hZ, p1]
  have zq : ∀ q, ¬ (6 ≤ q ∧ q ≤ 9) → Z.1 5 q = s.1 5 q := fun q h => by rw [hZ, p1q (by omega), p1q (by omega), p1q (by omega), p1q (by omega)]
  have TZ : cT Z u n := ⟨hT.1, fun i hi => by rw [zn 7 (by omega)]; exact hT.2.1 i hi, fun w hw => by rw [z2]; exact hT.2.2 w hw⟩
  obtain ⟨s', m', a1, a2, a3, a4, a5, a6⟩ := c_open38 (k := n) (p := 0) (m := 0) (r := 0) (f := fu_N) TZ (by omega) (Nat.zero_le _) (Nat.le_refl _) (Nat.le_refl _) (fu_N_gt (by omega)) ⟨z6, fun j hj => absurd hj (by omega)⟩ rfl (fun j hj => absurd hj (by omega))
  have hn := hT.1
  have lim : fu_mx (0 : Int32) (fu_mn (Int32.ofNat n) (s.1 5 2)) = Int32.ofNat n := by
    rw [h52, i_mn (by omega) (by omega), show (0 : Int32) = Int32.ofNat 0 from rfl, i_mx (by omega) (by omega)]
    congr 1
    omega
  have G0 : tG u n n = 0 := if_pos (Nat.le_refl _)
  have b1 := c_add1 (x := Int32.ofNat (tG u n n)) (y := Int32.ofNat n) (z := 0) a3.1 (by omega)
  have a3' := cA_ad (q := n) (z := 0) a3 a5 (fun h => by rw [G0] at h; omega)
  obtain ⟨Y, hY⟩ : ∃ Y, Y = adT s' m' (Int32.ofNat (tG u n n)) (Int32.ofNat n) 0 := ⟨_, rfl⟩
  have fY : fO s' Y := by rw [hY]; exact fO_ad
  rw [← hY] at b1 a3'
  have f2 := fO_tr a2 fY
  refine ⟨Y, m', ?_, ⟨a3', a4, hT.1, a5, a6⟩, (f2.2.1 7 (by omega)).trans z7, (f2.2.1 8 (by omega)).trans z8, (f2.2.1 9 (by omega)).trans z9, fun a h1 h2 h3 => (f2.1 a h1 h2 h3).trans (zn a h1), fun q hq => (f2.2.1 q (by omega)).trans (zq q hq), fun a ha => (f2.2.2 a ha).trans (by rw [z2])⟩
  rw [G0] at b1
  have a1' : l_X8_open_38 fu_N Z (Int32.ofNat n) 0 0 = some s' := a1
  have b1' : f_X8_add s' 0 (Int32.ofNat n) 0 = some Y := b1
  unfold f_X8_open fu_lt
  dsimp only
  rw [lim, ← hZ, a1', Option.bind_some, b1', Option.bind_some]
end OPN
/-- both at the i-th token, no fault yet -/
def OK (u : Nat → Nat) (n T : Nat) (s1 s2 : fu_S) (i : Nat) : Prop := cM s1 u n T ∧ i ≤ T ∧ s1.1 5 7 = Int32.ofNat i ∧ (s1.1 5 8 = 0 ∧ s1.1 5 9 = -1) ∧ rT s2 u n ∧ rS s2 (tG u n (tq u n i)) (tV u n (tq u n i)) (tq u n i) (tE u n (tq u n i)) ∧ s2.1 117 12 = 0
/-- both faulted, alike -/
def BA (s1 s2 : fu_S) : Prop := ∃ f pl, (1 ≤ f ∧ f ≤ 7) ∧ pl ≤ 900 ∧ s1.1 5 8 = Int32.ofNat f ∧ s1.1 5 9 = Int32.ofNat pl ∧ s2.1 117 12 = Int32.ofNat f ∧ s2.1 117 13 = Int32.ofNat pl
/-- what a token more, or a fault, leaves -/
def f5 (s t : fu_S) : Prop := (∀ a, a ≠ 5 → t.1 a = s.1 a) ∧ t.2 = s.2 ∧ ∀ q, q ≠ 7 → q ≠ 8 → q ≠ 9 → t.1 5 q = s.1 5 q
def f7 (s t : fu_S) : Prop := (∀ a, a ≠ 117 → t.1 a = s.1 a ∧ t.2 a = s.2 a) ∧ (∀ q, ¬ (12 ≤ q ∧ q ≤ 18) → t.1 117 q = s.1 117 q) ∧ ∀ q, q ≠ 19 → t.2 117 q = s.2 117 q
section OKS
variable {s t r s1 s2 t1 t2 : fu_S} {u : Nat → Nat} {n T p q e f k i g v j m lo hi : Nat} {x y : Int32} {z : Int64} {b : Bool}
theorem f5_rf : f5 s s := ⟨fun _ _ => rfl, rfl, fun _ _ _ _ => rfl⟩
theorem f7_rf : f7 s s := ⟨fun _ _ => ⟨rfl, rfl⟩, fun _ _ => rfl, fun _ _ => rfl⟩
theorem f5_tr (h : f5 s t) (g : f5 t r) : f5 s r := ⟨fun a ha => (g.1 a ha).trans (h.1 a ha), g.2.1.trans h.2.1, fun q h1 h2 h3 => (g.2.2 q h1 h2 h3).trans (h.2.2 q h1 h2 h3)⟩
theorem f7_tr (h : f7 s t) (g : f7 t r) : f7 s r := ⟨fun a ha => ⟨(g.1 a ha).1.trans (h.1 a ha).1, (g.1 a ha).2.trans (h.1 a ha).2⟩, fun q hq => (g.2.1 q hq).trans (h.2.1 q hq), fun q hq => (g.2.2 q hq).trans (h.2.2 q hq)⟩
theorem f5_q (hq : q = 7 ∨ q = 8 ∨ q = 9) : f5 s (fu_pi s 5 q x) := ⟨fun a ha => p1n ha, rfl, fun r h1 h2 h3 => p1q (by omega)⟩
theorem f7_q (hq : 12 ≤ q ∧ q ≤ 18) : f7 s (fu_pi s 117 q x) := ⟨fun a ha => ⟨p1n ha, rfl⟩, fun r hr => p1q (by omega), fun _ _ => rfl⟩
theorem f7_A (h : fA s t) : f7 s t := ⟨h.1, fun q hq => h.2.1 q (by omega), h.2.2⟩
theorem cM_5 (h : cM s u n T) (hf : f5 s t) : cM t u n T := by
  obtain ⟨⟨h1, h2⟩, h3⟩ := h
  refine ⟨⟨(hf.2.2 6 (by omega) (by omega) (by omega)).trans h1, fun j hj => ?_⟩, h3⟩
  rw [hf.1 8 (by omega), hf.1 9 (by omega), hf.2.1]
  exact h2 j hj
theorem OK_sort (h : OK u n T s1 s2 i) : f_X8_sortHere s1 = some (Int32.ofNat (tG u n (tq u n i))) := by
  obtain ⟨⟨⟨h6, hA⟩, h2, h3, -⟩, h4, h5, -⟩ := h
  have e := (hA i (by omega)).1
  have m1 : i < 901 := by omega
  have m2 : i < T + 1 := by omega
  simp (maxSteps := 1000000) (disch := omega) only [ne_eq, i_lt0, i_le0, i_eq0, i_n1, i_ltl, i_lel, i_eql, i_lt, i_le, i_eq, i_in, i_tn, i_add, i_addl, i_addr, i_mul, i_mulr, i_mull, if_true, if_false, eq_self, decide_eq_true_eq, decide_true, decide_false, Option.bind_some, Option.bind_none, ↓fu_ltd, ↓reduceIte, ↓ob_ite, ↓ob_asc, Bool.false_eq_true, Bool.true_eq_false, not_true_eq_false, not_false_eq_true, Nat.not_lt_zero, Nat.le_zero_eq, Nat.reduceAdd, Nat.reduceMul, Nat.reduceSub, Nat.reduceEqDiff, Nat.reduceLT, Nat.reduceLeDiff, sC_def, sR_def, sC_1, sC_2, sR_1, sR_2, sC_st, sR_st, sR_no, sR_refuse, and_self, true_and, and_true, false_and, and_false, f_X8_sortHere, h5, h6, m1, m2, e]
theorem OK_val (h : OK u n T s1 s2 i) (hg : tG u n (tq u n i) = 2 ∨ tG u n (tq u n i) = 3) : f_X8_valueHere s1 = some (Int64.ofNat (tV u n (tq u n i))) := by
  obtain ⟨⟨⟨h6, hA⟩, h2, h3, -⟩, h4, h5, -⟩ := h
  have e := (hA i (by omega)).2.2 hg
  have m1 : i < 901 := by omega
  have m2 : i < T + 1 := by omega
  simp (maxSteps := 1000000) (disch := omega) only [ne_eq, i_lt0, i_le0, i_eq0, i_n1, i_ltl, i_lel, i_eql, i_lt, i_le, i_eq, i_in, i_tn, i_add, i_addl, i_addr, i_mul, i_mulr, i_mull, if_true, if_false, eq_self, decide_eq_true_eq, decide_true, decide_false, Option.bind_some, Option.bind_none, ↓fu_ltd, ↓reduceIte, ↓ob_ite, ↓ob_asc, Bool.false_eq_true, Bool.true_eq_false, not_true_eq_false, not_false_eq_true, Nat.not_lt_zero, Nat.le_zero_eq, Nat.reduceAdd, Nat.reduceMul, Nat.reduceSub, Nat.reduceEqDiff, Nat.reduceLT, Nat.reduceLeDiff, sC_def, sR_def, sC_1, sC_2, sR_1, sR_2, sC_st, sR_st, sR_no, sR_refuse, and_self, true_and, and_true, false_and, and_false, f_X8_valueHere, h5, h6, m1, m2, e]
theorem OK_valS (h : OK u n T s1 s2 i) : ∃ y, f_X8_valueHere s1 = some y := by
  obtain ⟨⟨⟨h6, hA⟩, h2, h3, -⟩, h4, h5, -⟩ := h
  have m1 : i < 901 := by omega
  have m2 : i < T + 1 := by omega
  exact ⟨s1.2 10 i, by simp (maxSteps := 1000000) (disch := omega) only [ne_eq, i_lt0, i_le0, i_eq0, i_n1, i_ltl, i_lel, i_eql, i_lt, i_le, i_eq, i_in, i_tn, i_add, i_addl, i_addr, i_mul, i_mulr, i_mull, if_true, if_false, eq_self, decide_eq_true_eq, decide_true, decide_false, Option.bind_some, Option.bind_none, ↓fu_ltd, ↓reduceIte, ↓ob_ite, ↓ob_asc, Bool.false_eq_true, Bool.true_eq_false, not_true_eq_false, not_false_eq_true, Nat.not_lt_zero, Nat.le_zero_eq, Nat.reduceAdd, Nat.reduceMul, Nat.reduceSub, Nat.reduceEqDiff, Nat.reduceLT, Nat.reduceLeDiff, sC_def, sR_def, sC_1, sC_2, sR_1, sR_2, sC_st, sR_st, sR_no, sR_refuse, and_self, true_and, and_true, false_and, and_false, f_X8_valueHere, h5, h6, m1, m2]⟩
theorem OK_lt (h : OK u n T s1 s2 i) (hg : tG u n (tq u n i) ≠ 0) : i < T := by
  obtain ⟨⟨-, -, -, h3, -⟩, h4, -⟩ := h
  refine Classical.byContradiction fun z => hg ?_
  rw [show i = T by omega, h3]
  exact if_pos (Nat.le_refl _)
/-- to the next token -/
theorem OK_next (h : OK u n T s1 s2 i) (hg : tG u n (tq u n i) ≠ 0) : ∃ t1 t2, f_X8_next s1 = t1 ∧ f_X12_advance s2 = some t2 ∧ OK u n T t1 t2 (i + 1) ∧ f5 s1 t1 ∧ f7 s2 t2 := by
  have hlt := OK_lt h hg
  obtain ⟨hM, h4, h5, h8, hT, hS, h12⟩ := h
  have h6 := hM.1.1
  have hTn := hM.2.1
  have hn := hM.2.2.1
  obtain ⟨t2, a1, a2, a3⟩ := r_advance (p := tE u n (tq u n i)) hT (tE_le tq_le) hS.2.1
  have e1 : f_X8_next s1 = fu_pi s1 5 7 (Int32.ofNat (i + 1)) := by
    simp (maxSteps := 1000000) (disch := omega) only [ne_eq, i_lt0, i_le0, i_eq0, i_n1, i_ltl, i_lel, i_eql, i_lt, i_le, i_eq, i_in, i_tn, i_add, i_addl, i_addr, i_mul, i_mulr, i_mull, if_true, if_false, eq_self, decide_eq_true_eq, decide_true, decide_false, Option.bind_some, Option.bind_none, ↓fu_ltd, ↓reduceIte, ↓ob_ite, ↓ob_asc, Bool.false_eq_true, Bool.true_eq_false, not_true_eq_false, not_false_eq_true, Nat.not_lt_zero, Nat.le_zero_eq, Nat.reduceAdd, Nat.reduceMul, Nat.reduceSub, Nat.reduceEqDiff, Nat.reduceLT, Nat.reduceLeDiff, sC_def, sR_def, sC_1, sC_2, sR_1, sR_2, sC_st, sR_st, sR_no, sR_refuse, and_self, true_and, and_true, false_and, and_false, f_X8_next, h5, h6, i_add1s, hlt, i_add1]
  refine ⟨_, t2, e1, a1, ⟨cM_5 hM (f5_q (by omega)), by omega, p1, ⟨?_, ?_⟩, rT_A hT a3, a2, ?_⟩, f5_q (by omega), f7_A a3⟩
  · rw [p1q (by omega)]; exact h8.1
  · rw [p1q (by omega)]; exact h8.2
  · rw [a3.2.1 12 (by omega)]; exact h12
/-- a fault of kind k is told of the token here -/
theorem OK_ref (h : OK u n T s1 s2 i) (hk : k < 100) : f_X8_refuse s1 (Int32.ofNat k) = some (false, fu_pi (fu_pi s1 5 8 (Int32.ofNat (if tG u n (tq u n i) = 1 then 1 else k))) 5 9 (Int32.ofNat (tq u n i))) := by
  have e0 := OK_sort h
  obtain ⟨⟨⟨h6, hA⟩, h2, h3, -⟩, h4, h5, -⟩ := h
  have e := (hA i (by omega)).2.1
  have m1 : i < 901 := by omega
  have m2 : i < T + 1 := by omega
  have r7 : ∀ x, (fu_pi s1 5 8 x).1 5 7 = Int32.ofNat i := fun x => by rw [p1q (by omega)]; exact h5
  have r6 : ∀ x, (fu_pi s1 5 8 x).1 5 6 = Int32.ofNat (T + 1) := fun x => by rw [p1q (by omega)]; exact h6
  have r9 : ∀ x, (fu_pi s1 5 8 x).1 9 i = Int32.ofNat (tq u n i) := fun x => by rw [p1n (by omega)]; exact e
  have hg : tG u n (tq u n i) < 2147483648 := by
    unfold tG
    split
    · omega
    · split
      · split
        · rcases d_ws_ok (c := d_cw u (tq u n i) (d_en c_L u n (tq u n i) - tq u n i)) (w := 22) (Nat.le_refl _) with ⟨z, -⟩ | ⟨j, z1, z2, -⟩ <;> omega
        · omega
      · split
        · split <;> omega
        · split <;> omega
  generalize tG u n (tq u n i) = G at *
  by_cases h1 : G = 1
  · rw [if_pos h1]
    have n1 : (1 : Int32) = Int32.ofNat 1 := rfl
    simp (maxSteps := 1000000) (disch := omega) only [ne_eq, i_lt0, i_le0, i_eq0, i_n1, i_ltl, i_lel, i_eql, i_lt, i_le, i_eq, i_in, i_tn, i_add, i_addl, i_addr, i_mul, i_mulr, i_mull, if_true, if_false, eq_self, decide_eq_true_eq, decide_true, decide_false, Option.bind_some, Option.bind_none, ↓fu_ltd, ↓reduceIte, ↓ob_ite, ↓ob_asc, Bool.false_eq_true, Bool.true_eq_false, not_true_eq_false, not_false_eq_true, Nat.not_lt_zero, Nat.le_zero_eq, Nat.reduceAdd, Nat.reduceMul, Nat.reduceSub, Nat.reduceEqDiff, Nat.reduceLT, Nat.reduceLeDiff, sC_def, sR_def, sC_1, sC_2, sR_1, sR_2, sC_st, sR_st, sR_no, sR_refuse, and_self, true_and, and_true, false_and, and_false, f_X8_refuse, e0, h1, r7, r6, r9, m1, m2, ← n1]
  · rw [if_neg h1]
    simp (maxSteps := 1000000) (disch := omega) only [ne_eq, i_lt0, i_le0, i_eq0, i_n1, i_ltl, i_lel, i_eql, i_lt, i_le, i_eq, i_in, i_tn, i_add, i_addl, i_addr, i_mul, i_mulr, i_mull, if_true, if_false, eq_self, decide_eq_true_eq, decide_true, decide_false, Option.bind_some, Option.bind_none, ↓fu_ltd, ↓reduceIte, ↓ob_ite, ↓ob_asc, Bool.false_eq_true, Bool.true_eq_false, not_true_eq_false, not_false_eq_true, Nat.not_lt_zero, Nat.le_zero_eq, Nat.reduceAdd, Nat.reduceMul, Nat.reduceSub, Nat.reduceEqDiff, Nat.reduceLT, Nat.reduceLeDiff, sC_def, sR_def, sC_1, sC_2, sR_1, sR_2, sC_st, sR_st, sR_no, sR_refuse, and_self, true_and, and_true, false_and, and_false, f_X8_refuse, e0, h1, r7, r6, r9, m1, m2]
/-- one fault on both sides -/
theorem BA_of (hf : 1 ≤ f ∧ f ≤ 7) (hp : p ≤ 900) : BA (fu_pi (fu_pi s1 5 8 (Int32.ofNat f)) 5 9 (Int32.ofNat p)) (fu_pi (fu_pi s2 117 12 (Int32.ofNat f)) 117 13 (Int32.ofNat p)) := ⟨f, p, hf, hp, by rw [p1q (by omega), p1], p1, by rw [p1q (by omega), p1], p1⟩
theorem OK_fail (h : OK u n T s1 s2 i) : f_X12_fail s2 x (s2.1 117 15) = fu_pi (fu_pi s2 117 12 x) 117 13 (Int32.ofNat (tq u n i)) := by
  obtain ⟨-, -, -, -, -, hS, h12⟩ := h
  unfold f_X12_fail fu_lt
  rw [h12, if_pos (Int32.le_refl _), hS.1]
theorem OK_tok (h : OK u n T s1 s2 i) : (s2.1 117 14 = 4 ↔ tG u n (tq u n i) = 1) ∧ (s2.1 117 14 = 2 ↔ tG u n (tq u n i) = 2) ∧ (s2.1 117 14 = 0 ↔ tG u n (tq u n i) = 0) ∧ (s2.1 117 14 = 3 ↔ (59 ≤ tG u n (tq u n i) ∧ tG u n (tq u n i) ≤ 62)) ∧ (s2.1 117 14 = 1 ↔ (tG u n (tq u n i) = 3 ∨ tG u n (tq u n i) = 4 ∨ 100 ≤ tG u n (tq u n i))) := by
  obtain ⟨-, -, -, -, -, hS, -⟩ := h
  generalize tG u n (tq u n i) = G at *
  rcases hS.2.2 with ⟨z1, z2⟩ | ⟨z1, z2⟩ | ⟨z1, z2, -⟩ | ⟨z1, z2, -⟩ | ⟨z1, z2, -⟩ | ⟨z1, z2, -⟩ | ⟨z1, z2, -⟩ <;> rw [z2]
  · rw [z1]; decide
  · rw [z1]; decide
  · rw [z1]; decide
  · rw [z1]; decide
  · rw [z1]; decide
  · exact ⟨⟨fun h => absurd h (by decide), fun h => by omega⟩, ⟨fun h => absurd h (by decide), fun h => by omega⟩, ⟨fun h => absurd h (by decide), fun h => by omega⟩, ⟨fun _ => z1, fun _ => rfl⟩, ⟨fun h => absurd h (by decide), fun h => by omega⟩⟩
  · exact ⟨⟨fun h => absurd h (by decide), fun h => by omega⟩, ⟨fun h => absurd h (by decide), fun h => by omega⟩, ⟨fun h => absurd h (by decide), fun h => by omega⟩, ⟨fun h => absurd h (by decide), fun h => by omega⟩, ⟨fun _ => by omega, fun _ => rfl⟩⟩
end OKS
