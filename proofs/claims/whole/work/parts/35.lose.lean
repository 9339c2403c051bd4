/-! what is done: lose -/
/-- a thing more -/
def dthing (D : dD) (p k w : Nat) : dD := fun a b => if a = 0 ∧ b = 5 then D 0 5 + 1 else if a = 7 ∧ b = D 0 5 then p else if a = 8 ∧ b = D 0 5 then k else if a = 9 ∧ b = D 0 5 then w else if a = 10 ∧ b = D 0 5 then D 0 2 else if a = 11 ∧ b = D 0 5 then 0 else if a = 12 ∧ b = D 0 5 then 0 else D a b
section THG
variable {D : dD} {p k w : Nat}
theorem dthing_0 {b : Nat} (h : b ≠ 5) : dthing D p k w 0 b = D 0 b := by simp [dthing, h]
theorem dthing_05 : dthing D p k w 0 5 = D 0 5 + 1 := by simp [dthing]
theorem dthing_l {a b : Nat} (h : 1 ≤ a ∧ a ≤ 6) : dthing D p k w a b = D a b := by
  have h0 : a ≠ 0 := by omega
  have h7 : a ≠ 7 := by omega
  have h8 : a ≠ 8 := by omega
  have h9 : a ≠ 9 := by omega
  have h10 : a ≠ 10 := by omega
  have h11 : a ≠ 11 := by omega
  have h12 : a ≠ 12 := by omega
  simp [dthing, h0, h7, h8, h9, h10, h11, h12]
theorem dthing_o {a b : Nat} (h : a ≠ 0) (hb : b ≠ D 0 5) : dthing D p k w a b = D a b := by simp [dthing, h, hb]
theorem dthing_7 : dthing D p k w 7 (D 0 5) = p := by simp [dthing]
theorem dthing_8 : dthing D p k w 8 (D 0 5) = k := by simp [dthing]
theorem dthing_9 : dthing D p k w 9 (D 0 5) = w := by simp [dthing]
theorem dthing_10 : dthing D p k w 10 (D 0 5) = D 0 2 := by simp [dthing]
theorem dthing_11 : dthing D p k w 11 (D 0 5) = 0 := by simp [dthing]
theorem dthing_12 : dthing D p k w 12 (D 0 5) = 0 := by simp [dthing]
theorem dV_thing (hv : dV D) (hn : D 0 5 < 8) (hp : p < D 0 4) (hk : k < D 0 3) (hw : 1 ≤ w ∧ w ≤ 9) : dV (dthing D p k w) := by
  obtain ⟨v0, vk, vp, vt⟩ := hv
  refine ⟨?_, ?_, ?_, ?_⟩
  · rw [dthing_0 (by omega), dthing_0 (by omega), dthing_0 (by omega), dthing_0 (by omega), dthing_0 (by omega), dthing_05]; omega
  · intro j hj
    rw [dthing_0 (by omega)] at hj
    rw [dthing_l (by omega), dthing_l (by omega), dthing_l (by omega)]
    exact vk j hj
  · intro j hj
    rw [dthing_0 (by omega)] at hj
    rw [dthing_l (by omega), dthing_l (by omega), dthing_l (by omega)]
    exact vp j hj
  · intro t ht
    rw [dthing_05] at ht
    rw [dthing_0 (by omega), dthing_0 (by omega)]
    by_cases e : t = D 0 5
    · subst e
      rw [dthing_7, dthing_8, dthing_9, dthing_10, dthing_11, dthing_12]
      omega
    · rw [dthing_o (by omega) e, dthing_o (by omega) e, dthing_o (by omega) e, dthing_o (by omega) e, dthing_o (by omega) e, dthing_o (by omega) e]
      exact vt t (by omega)
theorem dC_thing {s t : fu_S} (h : dC s 11 D) (hv : dV D) (ho : ∀ a, 12 ≤ a → a < 18 → t.1 a = s.1 a ∧ t.2 a = s.2 a) (h0 : ∀ q, q < 5 → t.1 11 q = s.1 11 q) (h5 : t.1 11 5 = Int32.ofNat (D 0 5 + 1))
    (hs : ∀ a, 18 ≤ a → a < 24 → ∀ q, q ≠ D 0 5 → t.1 a q = s.1 a q) (h7 : t.1 18 (D 0 5) = Int32.ofNat p) (h8 : t.1 19 (D 0 5) = Int32.ofNat k) (h9 : t.1 20 (D 0 5) = Int32.ofNat w) (h10 : t.1 21 (D 0 5) = Int32.ofNat (D 0 2)) (h11 : t.1 22 (D 0 5) = -1) : dC t 11 (dthing D p k w) := by
  obtain ⟨⟨c0, c1, c2, c3, c4, c5⟩, ck, cp, ct⟩ := dC_11 h
  refine ⟨⟨?_, ?_, ?_, ?_, ?_, ?_⟩, fun j hj => ?_, fun j hj => ?_, fun j hj => ?_⟩
  · rw [dthing_0 (by omega), h0 _ (by omega)]; exact c0
  · rw [dthing_0 (by omega), h0 _ (by omega)]; exact c1
  · rw [dthing_0 (by omega), h0 _ (by omega)]; exact c2
  · rw [dthing_0 (by omega), h0 _ (by omega)]; exact c3
  · rw [dthing_0 (by omega), h0 _ (by omega)]; exact c4
  · rw [dthing_05]; exact h5
  · rw [dthing_0 (by omega)] at hj
    rw [dthing_l (by omega), dthing_l (by omega), dthing_l (by omega), (ho _ (by omega) (by omega)).1, (ho _ (by omega) (by omega)).1, (ho _ (by omega) (by omega)).1]
    exact ck j hj
  · rw [dthing_0 (by omega)] at hj
    rw [dthing_l (by omega), dthing_l (by omega), dthing_l (by omega), (ho _ (by omega) (by omega)).2, (ho (11 + 5) (by omega) (by omega)).1, (ho (11 + 6) (by omega) (by omega)).1]
    exact cp j hj
  · rw [dthing_05] at hj
    by_cases e : j = D 0 5
    · subst e
      rw [dthing_7, dthing_8, dthing_9, dthing_10, dthing_11]
      exact ⟨h7, h8, h9, h10, h11, fun z => absurd rfl z⟩
    · rw [dthing_o (by omega) e, dthing_o (by omega) e, dthing_o (by omega) e, dthing_o (by omega) e, dthing_o (by omega) e, dthing_o (by omega) e, hs _ (by omega) (by omega) _ e, hs _ (by omega) (by omega) _ e, hs _ (by omega) (by omega) _ e, hs _ (by omega) (by omega) _ e, hs _ (by omega) (by omega) _ e, hs _ (by omega) (by omega) _ e]
      exact ct j (by omega)
theorem dR_thing {s t : fu_S} (h : dR s 0 D) (hv : dV D) (hn : D 0 5 < 8) (h2 : t.2 124 = s.2 124) (h5 : t.1 122 2 = Int32.ofNat (D 0 5 + 1))
    (hs : ∀ q, q ≠ 2 → q ≠ 35 + D 0 5 → q ≠ 43 + D 0 5 → q ≠ 51 + D 0 5 → q ≠ 59 + D 0 5 → q ≠ 67 + D 0 5 → q ≠ 75 + D 0 5 → t.1 122 q = s.1 122 q) (h7 : t.1 122 (35 + D 0 5) = Int32.ofNat p) (h8 : t.1 122 (43 + D 0 5) = Int32.ofNat k) (h9 : t.1 122 (51 + D 0 5) = Int32.ofNat w) (h10 : t.1 122 (59 + D 0 5) = Int32.ofNat (D 0 2)) (h11 : t.1 122 (67 + D 0 5) = 0) : dR t 0 (dthing D p k w) := by
  obtain ⟨⟨c0, c1, c2, c3, c4, c5⟩, ck, cp, ct⟩ := dR_0 h
  obtain ⟨⟨v0, v1, v2, v3, v4, v5⟩, -⟩ := hv
  unfold dR
  simp only [Nat.mul_zero, Nat.zero_add]
  have hq : ∀ q, q < 35 → q ≠ 2 → t.1 122 q = s.1 122 q := fun q h1 h2 => hs q h2 (by omega) (by omega) (by omega) (by omega) (by omega) (by omega)
  refine ⟨⟨?_, ?_, ?_, ?_, ?_, ?_⟩, fun j hj => ?_, fun j hj => ?_, fun j hj => ?_⟩
  · rw [dthing_0 (by omega), hq _ (by omega) (by omega)]; exact c0
  · rw [dthing_0 (by omega), hq _ (by omega) (by omega)]; exact c1
  · rw [dthing_05]; exact h5
  · rw [dthing_0 (by omega), hq _ (by omega) (by omega)]; exact c3
  · rw [dthing_0 (by omega), hq _ (by omega) (by omega)]; exact c4
  · rw [dthing_0 (by omega), hq _ (by omega) (by omega)]; exact c5
  · rw [dthing_0 (by omega)] at hj
    rw [dthing_l (by omega), dthing_l (by omega), dthing_l (by omega), hq _ (by omega) (by omega), hq _ (by omega) (by omega), hq _ (by omega) (by omega)]
    exact ck j hj
  · rw [dthing_0 (by omega)] at hj
    rw [dthing_l (by omega), dthing_l (by omega), dthing_l (by omega), h2, hq _ (by omega) (by omega), hq _ (by omega) (by omega)]
    exact cp j hj
  · rw [dthing_05] at hj
    by_cases e : j = D 0 5
    · subst e
      rw [dthing_7, dthing_8, dthing_9, dthing_10, dthing_11]
      exact ⟨h7, h8, h9, h10, h11, fun z => absurd rfl z⟩
    · have hj8 : j < D 0 5 := by omega
      have hw : ∀ m, (m = 35 ∨ m = 43 ∨ m = 51 ∨ m = 59 ∨ m = 67 ∨ m = 75) → t.1 122 (m + j) = s.1 122 (m + j) := fun m hm => hs _ (by omega) (by omega) (by omega) (by omega) (by omega) (by omega) (by omega)
      rw [dthing_o (by omega) e, dthing_o (by omega) e, dthing_o (by omega) e, dthing_o (by omega) e, dthing_o (by omega) e, dthing_o (by omega) e, hw _ (by omega), hw _ (by omega), hw _ (by omega), hw _ (by omega), hw _ (by omega), hw _ (by omega)]
      exact ct j hj8
end THG
theorem eqC2_pi' {s u : fu_S} {a q : Nat} {x : Int32} (h : 11 ≤ a ∧ a < 24) (hu : eqC2 s u) : eqC2 s (fu_pi u a q x) := eqC2_tr hu (eqC2_pi h)
theorem eqR2_pi' {s u : fu_S} {q : Nat} {x : Int32} (h : q < 83) (hu : eqR2 s u) : eqR2 s (fu_pi u 122 q x) := eqR2_tr hu (eqR2_pi h)
theorem r_isInl19 {x : Int32} : f_X12_isIn (Int32.toInt64 x) (1 : Int64) (9 : Int64) = decide (¬ x < 1 ∧ x ≤ 9) := r_isIn1_9
theorem i_add1 {a : Nat} : Int32.ofNat a + 1 = Int32.ofNat (a + 1) := by
  rw [show (1 : Int32) = Int32.ofNat 1 from rfl, i_add]
theorem i_add1s {a : Nat} : Int32.ofNat (a + 1) - 1 = Int32.ofNat a := by
  rw [← i_add1, Int32.add_sub_cancel]
theorem hd_17 : lw_E_17 dI := by
  intro s1 s2 hI a1 a2 a3
  obtain ⟨D, hv, hC, hR, hQ⟩ := dI_D hI
  have hp4 := hv.1
  have hc := fun x => dC_s (x := x) (by omega : (11 : Nat) ≠ 0) hC
  have hr := fun x => dR_s (x := x) hv hR
  have ek := fun x y => r_isKind (x := y) (hr x) hv
  have ep := fun x y => r_isPerson (x := y) (hr x) hv
  obtain ⟨⟨c0, c1, c2, c3, c4, c5⟩, ck, cp, ct⟩ := dC_11 hC
  obtain ⟨⟨g0, g1, g2, g3, g4, g5⟩, gk, gp, gt⟩ := dR_0 hR
  by_cases h1 : ¬ a1 < 0 ∧ a1 < Int32.ofNat (D 0 4)
  · obtain ⟨p, hp, rfl⟩ := i_is (by omega) h1
    by_cases h2 : ¬ a2 < 0 ∧ a2 < Int32.ofNat (D 0 3)
    · obtain ⟨k, hk, rfl⟩ := i_is (by omega) h2
      by_cases h3 : ¬ a3 < 1 ∧ a3 ≤ 9
      · obtain ⟨w, hw1, hw9, rfl⟩ := i_in1 (n := 9) (by omega) h3
        have h3' : ¬ Int32.ofNat w < 1 := h3.1
        have h3'' : Int32.ofNat w ≤ 9 := h3.2
        by_cases h4 : D 0 5 < 8
        · have b5 : (sC s1 0).1 11 5 = Int32.ofNat (D 0 5) := by rw [sC_1 (by omega)]; exact c5
          have b2 : (sC s1 0).1 11 2 = Int32.ofNat (D 0 2) := by rw [sC_1 (by omega)]; exact c2
          have d2 : (sR s2 0).1 122 2 = Int32.ofNat (D 0 5) := by rw [sR_1 (by omega)]; exact g2
          have d5 : (sR s2 0).1 122 5 = Int32.ofNat (D 0 2) := by rw [sR_1 (by omega)]; exact g5
          have hne : ¬ D 0 5 = 8 := by omega
          generalize hn : D 0 5 = n at *
          generalize hm : D 0 2 = m at *
          refine ⟨Int32.ofNat n, fu_pi (fu_pi (fu_pi (fu_pi (fu_pi (fu_pi (fu_pi (sC s1 0) 18 n (Int32.ofNat p)) 19 n (Int32.ofNat k)) 20 n (Int32.ofNat w)) 21 n (Int32.ofNat m)) 22 n (-1)) 23 n (-1)) 11 5 (Int32.ofNat (n + 1)),
            fu_pi (fu_pi (fu_pi (fu_pi (fu_pi (fu_pi (fu_pi (sR s2 0) 122 (35 + n) (Int32.ofNat p)) 122 (43 + n) (Int32.ofNat k)) 122 (51 + n) (Int32.ofNat w)) 122 (59 + n) (Int32.ofNat m)) 122 (67 + n) 0) 122 (75 + n) 0) 122 2 (Int32.ofNat (n + 1)), ?_, ?_, dI_upd (D' := dthing D p k w) hI hQ ?_ ?_ ?_ (dV_thing hv (by omega) hp hk ⟨hw1, hw9⟩) (dC_thing (hc 0) hv ?_ ?_ ?_ ?_ ?_ ?_ ?_ ?_ ?_) (dR_thing (hr 0) hv (by omega) ?_ ?_ ?_ ?_ ?_ ?_ ?_ ?_) ?_ ?_⟩
          · have f1 : f_X4_addThing (sC s1 0) 11 (Int32.ofNat p) (Int32.ofNat k) (Int32.ofNat w) = some (Int32.ofNat n, fu_pi (fu_pi (fu_pi (fu_pi (fu_pi (fu_pi (fu_pi (sC s1 0) 18 n (Int32.ofNat p)) 19 n (Int32.ofNat k)) 20 n (Int32.ofNat w)) 21 n (Int32.ofNat m)) 22 n (-1)) 23 n (-1)) 11 5 (Int32.ofNat (n + 1))) := by
              simp (disch := omega) only [ne_eq, i_lt0, i_le0, i_eq0, i_n1, i_ltl, i_lel, i_eql, i_lt, i_le, i_eq, i_in, i_tn, i_add, i_addl, i_addr, i_mul, i_mulr, i_mull, if_true, if_false, eq_self, decide_eq_true_eq, decide_true, decide_false, Option.bind_some, Option.bind_none, fu_lt, Bool.false_eq_true, Bool.true_eq_false, not_true_eq_false, not_false_eq_true, Nat.not_lt_zero, Nat.le_zero_eq, Nat.reduceAdd, Nat.reduceMul, Nat.reduceSub, Nat.reduceEqDiff, Nat.reduceLT, Nat.reduceLeDiff, sC_def, sR_def, sC_1, sC_2, sR_1, sR_2, sC_st, sR_st, sR_no, sR_refuse, and_self, true_and, and_true, false_and, and_false, f_X4_addThing, b5, b2, h4, p1, p1n, i_add1, i_add1s]
            simp (disch := omega) only [ne_eq, i_lt0, i_le0, i_eq0, i_n1, i_ltl, i_lel, i_eql, i_lt, i_le, i_eq, i_in, i_tn, i_add, i_addl, i_addr, i_mul, i_mulr, i_mull, if_true, if_false, eq_self, decide_eq_true_eq, decide_true, decide_false, Option.bind_some, Option.bind_none, fu_lt, Bool.false_eq_true, Bool.true_eq_false, not_true_eq_false, not_false_eq_true, Nat.not_lt_zero, Nat.le_zero_eq, Nat.reduceAdd, Nat.reduceMul, Nat.reduceSub, Nat.reduceEqDiff, Nat.reduceLT, Nat.reduceLeDiff, sC_def, sR_def, sC_1, sC_2, sR_1, sR_2, sC_st, sR_st, sR_no, sR_refuse, and_self, true_and, and_true, false_and, and_false, f_X11_lose, f_X4_things, c_hasPerson hC, c_hasKind hC, hp, hk, h3', h3'', c5, h4, f1]
          · have f1 : f_X12_loses (sR s2 0) 0 (Int32.ofNat p) (Int32.ofNat k) (Int32.ofNat w) = some (fu_pi (fu_pi (fu_pi (fu_pi (fu_pi (fu_pi (fu_pi (sR s2 0) 122 (35 + n) (Int32.ofNat p)) 122 (43 + n) (Int32.ofNat k)) 122 (51 + n) (Int32.ofNat w)) 122 (59 + n) (Int32.ofNat m)) 122 (67 + n) 0) 122 (75 + n) 0) 122 2 (Int32.ofNat (n + 1))) := by
              have z : ∀ x : Int32, (355 : Int32) * 0 + x = x := fun x => by rw [show (355 : Int32) * 0 = 0 from rfl, Int32.zero_add]
              have q2 : am_in (2 : Int32) 1775 = true := by decide
              have q5 : am_in (5 : Int32) 1775 = true := by decide
              have w2 : (2 : Int32).toNatClampNeg = 2 := by decide
              have w5 : (5 : Int32).toNatClampNeg = 5 := by decide
              unfold f_X12_loses
              simp only [z, q2, q5, w2, w5, d2, if_true]
              have m1 : ∀ x, x < 76 → x + n < 1775 := fun x hx => by omega
              simp (disch := omega) only [i_addr, i_in, i_tn, decide_eq_true_eq, m1, if_true]
              dsimp only [fu_lt]
              simp (disch := omega) only [p1q, d5, d2, i_add1]
            simp (disch := omega) only [ne_eq, i_lt0, i_le0, i_eq0, i_n1, i_ltl, i_lel, i_eql, i_lt, i_le, i_eq, i_in, i_tn, i_add, i_addl, i_addr, i_mul, i_mulr, i_mull, if_true, if_false, eq_self, decide_eq_true_eq, decide_true, decide_false, Option.bind_some, Option.bind_none, fu_lt, Bool.false_eq_true, Bool.true_eq_false, not_true_eq_false, not_false_eq_true, Nat.not_lt_zero, Nat.le_zero_eq, Nat.reduceAdd, Nat.reduceMul, Nat.reduceSub, Nat.reduceEqDiff, Nat.reduceLT, Nat.reduceLeDiff, sC_def, sR_def, sC_1, sC_2, sR_1, sR_2, sC_st, sR_st, sR_no, sR_refuse, and_self, true_and, and_true, false_and, and_false, f_X12_lose, ep, ek, hp, hk, r_isInl19, h3, d2, hne, f1, p1, i_add1s]
          · exact eqC2_pi' (by omega) (eqC2_pi' (by omega) (eqC2_pi' (by omega) (eqC2_pi' (by omega) (eqC2_pi' (by omega) (eqC2_pi' (by omega) (eqC2_pi' (by omega) (eqC2_of eqC_sC)))))))
          · exact eqR2_pi' (by omega) (eqR2_pi' (by omega) (eqR2_pi' (by omega) (eqR2_pi' (by omega) (eqR2_pi' (by omega) (eqR2_pi' (by omega) (eqR2_pi' (by omega) (eqR2_of eqR_sR)))))))
          · rw [p1n (by omega), p1n (by omega), p1n (by omega), p1n (by omega), p1n (by omega), p1n (by omega), p1n (by omega), sC_st, p1n (by omega), p1n (by omega), p1n (by omega), p1n (by omega), p1n (by omega), p1n (by omega), p1n (by omega), sR_st]
          · exact fun a h1 h2 => ⟨by rw [p1n (by omega), p1n (by omega), p1n (by omega), p1n (by omega), p1n (by omega), p1n (by omega), p1n (by omega)], rfl⟩
          · exact fun q hq => by rw [p1q (by omega), p1n (by omega), p1n (by omega), p1n (by omega), p1n (by omega), p1n (by omega), p1n (by omega)]
          · rw [hn]; exact p1
          · intro a h1 h2 q hq
            rw [hn] at hq
            have ha : a ≠ 11 := by omega
            simp [fu_pi, hq, ha]
          · rw [hn]; simp [fu_pi]
          · rw [hn]; simp [fu_pi]
          · rw [hn]; simp [fu_pi]
          · rw [hn, hm]; simp [fu_pi]
          · rw [hn]; simp [fu_pi]
          · rfl
          · rw [hn]; exact p1
          · rw [hn]; exact fun q x0 x1 x2 x3 x4 x5 x6 => by rw [p1q (by omega), p1q (by omega), p1q (by omega), p1q (by omega), p1q (by omega), p1q (by omega), p1q (by omega)]
          · rw [hn, p1q (by omega), p1q (by omega), p1q (by omega), p1q (by omega), p1q (by omega), p1q (by omega), p1]
          · rw [hn, p1q (by omega), p1q (by omega), p1q (by omega), p1q (by omega), p1q (by omega), p1]
          · rw [hn, p1q (by omega), p1q (by omega), p1q (by omega), p1q (by omega), p1]
          · rw [hn, hm, p1q (by omega), p1q (by omega), p1q (by omega), p1]
          · rw [hn, p1q (by omega), p1q (by omega), p1]
          · rw [dthing_0 (by omega)]; exact Nat.le_refl _
          · rw [dthing_0 (by omega)]; exact Nat.le_refl _
        · have h48 : D 0 5 = 8 := by omega
          refine ⟨-1, sC s1 7, sR s2 7, ?_, ?_, dI_s hI⟩
          · simp (disch := omega) only [ne_eq, i_lt0, i_le0, i_eq0, i_n1, i_ltl, i_lel, i_eql, i_lt, i_le, i_eq, i_in, i_tn, i_add, i_addl, i_addr, i_mul, i_mulr, i_mull, if_true, if_false, eq_self, decide_eq_true_eq, decide_true, decide_false, Option.bind_some, Option.bind_none, fu_lt, Bool.false_eq_true, Bool.true_eq_false, not_true_eq_false, not_false_eq_true, Nat.not_lt_zero, Nat.le_zero_eq, Nat.reduceAdd, Nat.reduceMul, Nat.reduceSub, Nat.reduceEqDiff, Nat.reduceLT, Nat.reduceLeDiff, sC_def, sR_def, sC_1, sC_2, sR_1, sR_2, sC_st, sR_st, sR_no, sR_refuse, and_self, true_and, and_true, false_and, and_false, f_X11_lose, f_X4_things, c_hasPerson hC, c_hasKind hC, hp, hk, h3', h3'', c5, h4]
            try rfl
          · simp (disch := omega) only [ne_eq, i_lt0, i_le0, i_eq0, i_n1, i_ltl, i_lel, i_eql, i_lt, i_le, i_eq, i_in, i_tn, i_add, i_addl, i_addr, i_mul, i_mulr, i_mull, if_true, if_false, eq_self, decide_eq_true_eq, decide_true, decide_false, Option.bind_some, Option.bind_none, fu_lt, Bool.false_eq_true, Bool.true_eq_false, not_true_eq_false, not_false_eq_true, Nat.not_lt_zero, Nat.le_zero_eq, Nat.reduceAdd, Nat.reduceMul, Nat.reduceSub, Nat.reduceEqDiff, Nat.reduceLT, Nat.reduceLeDiff, sC_def, sR_def, sC_1, sC_2, sR_1, sR_2, sC_st, sR_st, sR_no, sR_refuse, and_self, true_and, and_true, false_and, and_false, f_X12_lose, ep, ek, hp, hk, r_isInl19, h3, g2, h48]
      · refine ⟨-1, sC s1 5, sR s2 5, ?_, ?_, dI_s hI⟩
        · have h3' : ∀ A : Option Int32, (if a3 < 1 then some (5 : Int32) else if a3 ≤ 9 then A else some 5) = some 5 := fun A => by
            by_cases z1 : a3 < 1
            · rw [if_pos z1]
            · rw [if_neg z1, if_neg (fun z => h3 ⟨z1, z⟩)]
          simp (disch := omega) only [ne_eq, i_lt0, i_le0, i_eq0, i_n1, i_ltl, i_lel, i_eql, i_lt, i_le, i_eq, i_in, i_tn, i_add, i_addl, i_addr, i_mul, i_mulr, i_mull, if_true, if_false, eq_self, decide_eq_true_eq, decide_true, decide_false, Option.bind_some, Option.bind_none, fu_lt, Bool.false_eq_true, Bool.true_eq_false, not_true_eq_false, not_false_eq_true, Nat.not_lt_zero, Nat.le_zero_eq, Nat.reduceAdd, Nat.reduceMul, Nat.reduceSub, Nat.reduceEqDiff, Nat.reduceLT, Nat.reduceLeDiff, sC_def, sR_def, sC_1, sC_2, sR_1, sR_2, sC_st, sR_st, sR_no, sR_refuse, and_self, true_and, and_true, false_and, and_false, f_X11_lose, c_hasPerson hC, c_hasKind hC, hp, hk, h3']
          try rfl
        · simp (disch := omega) only [ne_eq, i_lt0, i_le0, i_eq0, i_n1, i_ltl, i_lel, i_eql, i_lt, i_le, i_eq, i_in, i_tn, i_add, i_addl, i_addr, i_mul, i_mulr, i_mull, if_true, if_false, eq_self, decide_eq_true_eq, decide_true, decide_false, Option.bind_some, Option.bind_none, fu_lt, Bool.false_eq_true, Bool.true_eq_false, not_true_eq_false, not_false_eq_true, Nat.not_lt_zero, Nat.le_zero_eq, Nat.reduceAdd, Nat.reduceMul, Nat.reduceSub, Nat.reduceEqDiff, Nat.reduceLT, Nat.reduceLeDiff, sC_def, sR_def, sC_1, sC_2, sR_1, sR_2, sC_st, sR_st, sR_no, sR_refuse, and_self, true_and, and_true, false_and, and_false, f_X12_lose, ep, ek, hp, hk, r_isInl19, h3]
    · refine ⟨-1, sC s1 2, sR s2 2, ?_, ?_, dI_s hI⟩
      · simp (disch := omega) only [ne_eq, i_lt0, i_le0, i_eq0, i_n1, i_ltl, i_lel, i_eql, i_lt, i_le, i_eq, i_in, i_tn, i_add, i_addl, i_addr, i_mul, i_mulr, i_mull, if_true, if_false, eq_self, decide_eq_true_eq, decide_true, decide_false, Option.bind_some, Option.bind_none, fu_lt, Bool.false_eq_true, Bool.true_eq_false, not_true_eq_false, not_false_eq_true, Nat.not_lt_zero, Nat.le_zero_eq, Nat.reduceAdd, Nat.reduceMul, Nat.reduceSub, Nat.reduceEqDiff, Nat.reduceLT, Nat.reduceLeDiff, sC_def, sR_def, sC_1, sC_2, sR_1, sR_2, sC_st, sR_st, sR_no, sR_refuse, and_self, true_and, and_true, false_and, and_false, f_X11_lose, c_hasPerson hC, c_hasKind hC, hp, h2]
        try rfl
      · simp (disch := omega) only [ne_eq, i_lt0, i_le0, i_eq0, i_n1, i_ltl, i_lel, i_eql, i_lt, i_le, i_eq, i_in, i_tn, i_add, i_addl, i_addr, i_mul, i_mulr, i_mull, if_true, if_false, eq_self, decide_eq_true_eq, decide_true, decide_false, Option.bind_some, Option.bind_none, fu_lt, Bool.false_eq_true, Bool.true_eq_false, not_true_eq_false, not_false_eq_true, Nat.not_lt_zero, Nat.le_zero_eq, Nat.reduceAdd, Nat.reduceMul, Nat.reduceSub, Nat.reduceEqDiff, Nat.reduceLT, Nat.reduceLeDiff, sC_def, sR_def, sC_1, sC_2, sR_1, sR_2, sC_st, sR_st, sR_no, sR_refuse, and_self, true_and, and_true, false_and, and_false, f_X12_lose, ep, ek, hp, h2]
  · refine ⟨-1, sC s1 2, sR s2 2, ?_, ?_, dI_s hI⟩
    · simp (disch := omega) only [ne_eq, i_lt0, i_le0, i_eq0, i_n1, i_ltl, i_lel, i_eql, i_lt, i_le, i_eq, i_in, i_tn, i_add, i_addl, i_addr, i_mul, i_mulr, i_mull, if_true, if_false, eq_self, decide_eq_true_eq, decide_true, decide_false, Option.bind_some, Option.bind_none, fu_lt, Bool.false_eq_true, Bool.true_eq_false, not_true_eq_false, not_false_eq_true, Nat.not_lt_zero, Nat.le_zero_eq, Nat.reduceAdd, Nat.reduceMul, Nat.reduceSub, Nat.reduceEqDiff, Nat.reduceLT, Nat.reduceLeDiff, sC_def, sR_def, sC_1, sC_2, sR_1, sR_2, sC_st, sR_st, sR_no, sR_refuse, and_self, true_and, and_true, false_and, and_false, f_X11_lose, c_hasPerson hC, h1]
      try rfl
    · simp (disch := omega) only [ne_eq, i_lt0, i_le0, i_eq0, i_n1, i_ltl, i_lel, i_eql, i_lt, i_le, i_eq, i_in, i_tn, i_add, i_addl, i_addr, i_mul, i_mulr, i_mull, if_true, if_false, eq_self, decide_eq_true_eq, decide_true, decide_false, Option.bind_some, Option.bind_none, fu_lt, Bool.false_eq_true, Bool.true_eq_false, not_true_eq_false, not_false_eq_true, Nat.not_lt_zero, Nat.le_zero_eq, Nat.reduceAdd, Nat.reduceMul, Nat.reduceSub, Nat.reduceEqDiff, Nat.reduceLT, Nat.reduceLeDiff, sC_def, sR_def, sC_1, sC_2, sR_1, sR_2, sC_st, sR_st, sR_no, sR_refuse, and_self, true_and, and_true, false_and, and_false, f_X12_lose, ep, h1]
