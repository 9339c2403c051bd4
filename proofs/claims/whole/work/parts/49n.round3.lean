/-! rounds: the reference; round, works -/
section RW2
variable {s : fu_S} {D : dD} {t u m j k B P p w L n : Nat} {x6 : Int32}
theorem i_nand1 {a : Nat} (hp : p < 31) : Int32.ofNat a &&& (((1 : Int32) <<< (Int32.ofNat p &&& 31)) ^^^ -1) = Int32.ofNat (d_nb a (2 ^ p)) := by
  rw [i_shl hp]; exact i_nand
/-- who could, of those who are left -/
theorem r_left (h : dR s 0 D) (hv : dV D) (ht : t < D 0 5) (hL : ∀ p, p < D 0 4 → L.testBit p = !B.testBit p) (hL7 : L < 128) : ∃ x6, (∀ {β : Type} (K : Int32 → Option β), (Option.bind (f_X12_isUp s (Int32.ofNat t)) fun r => Option.bind (if r = true then Option.bind (f_X12_whoCould s (Int32.ofNat t)) fun r9 => some (r9 &&& Int32.ofNat L) else some (0 : Int32)) K) = K x6) ∧ ∀ p, p < D 0 4 → f_X12_has x6 (Int32.ofNat p) = d_cd (d_av D) t B p := by
  have hp4 := hv.1
  have e1 := r_isUp h hv ht
  have e2 := r_who h hv ht
  cases hu : d_isUp D t
  · rw [hu] at e1
    refine ⟨0, fun K => ?_, fun p hp => ?_⟩
    · rw [e1]; rfl
    · rw [show (0 : Int32) = Int32.ofNat 0 from rfl, r_has (by omega) (by omega), Nat.zero_testBit]
      unfold d_cd
      rw [show d_av D t = 0 from if_neg (fun z => by rw [hu] at z; exact Bool.noConfusion z.2), Nat.zero_testBit, Bool.false_and]
  · rw [hu] at e1
    have ha : d_av D t = d_set (fun p => d_able D p t) (D 0 4) := if_pos ⟨ht, hu⟩
    have hl := d_av_lt (t := t) hv
    rw [← ha] at e2
    refine ⟨Int32.ofNat (d_av D t &&& L), fun K => ?_, fun p hp => ?_⟩
    · rw [e1, e2]
      show K (Int32.ofNat (d_av D t) &&& Int32.ofNat L) = _
      rw [i_and]
    · have : d_av D t &&& L ≤ d_av D t := Nat.and_le_left
      rw [r_has (by omega) (by omega), Nat.testBit_and, hL p hp]
      rfl
theorem r_w2 (h : dR s 0 D) (hv : dV D) : ∀ {n t L B}, t ≤ D 0 5 → D 0 5 - t < n → L < 128 → (∀ p, p < D 0 4 → L.testBit p = !B.testBit p) → f_X12_works2 n s (Int32.ofNat t) (Int32.ofNat L) = some (Int32.ofNat (d_v (d_av D) (8 - t) B))
  | 0, _, _, _, _, hf, _, _ => absurd hf (by omega)
  | n + 1, t, L, B, ht, hf, hL7, hL => by
    have hp4 := hv.1
    have c1 := (dR_0 h).1.2.1
    have c2 := (dR_0 h).1.2.2.1
    have hN : ∀ t, D 0 5 ≤ t → d_av D t = 0 := fun t ht => d_av_t ht
    have hvl : ∀ t B, t ≤ 8 → d_v (d_av D) (8 - t) B ≤ D 0 5 - t := fun t B ht => by
      have := d_v_le hN (by omega) (j := 8 - t) (B := B) (by omega)
      omega
    rw [f_X12_works2]
    by_cases he : t = D 0 5
    · have h0 : d_v (d_av D) (8 - t) B = 0 := by have := hvl t B (by omega); omega
      rw [h0]
      have ht31 : t < 2147483648 := by omega
      simp (maxSteps := 1000000) (disch := omega) only [ne_eq, i_lt0, i_le0, i_eq0, i_n1, i_ltl, i_lel, i_eql, i_lt, i_le, i_eq, i_in, i_tn, i_add, i_addl, i_addr, i_mul, i_mulr, i_mull, if_true, if_false, eq_self, decide_eq_true_eq, decide_true, decide_false, Option.bind_some, Option.bind_none, ↓fu_ltd, ↓reduceIte, ↓ob_ite, ↓ob_asc, Bool.false_eq_true, Bool.true_eq_false, not_true_eq_false, not_false_eq_true, Nat.not_lt_zero, Nat.le_zero_eq, Nat.reduceAdd, Nat.reduceMul, Nat.reduceSub, Nat.reduceEqDiff, Nat.reduceLT, Nat.reduceLeDiff, sC_def, sR_def, sC_1, sC_2, sR_1, sR_2, sC_st, sR_st, sR_no, sR_refuse, and_self, true_and, and_true, false_and, and_false, fb_X12_works2, c2, he]
      rfl
    · have hK : ∀ L B, L < 128 → (∀ p, p < D 0 4 → L.testBit p = !B.testBit p) → f_X12_works2 n s (Int32.ofNat (t + 1)) (Int32.ofNat L) = some (Int32.ofNat (d_v (d_av D) (7 - t) B)) := fun L B h1 h2 => by
        have := r_w2 h hv (n := n) (t := t + 1) (L := L) (B := B) (by omega) (by omega) h1 h2
        rw [show 8 - (t + 1) = 7 - t by omega] at this
        exact this
      have e1 := hK L B hL7 hL
      obtain ⟨x6, e2, e3⟩ := r_left (t := t) h hv (by omega) hL hL7
      have htop := d_v_s (av := d_av D) (B := B) (t := t) (by omega)
      have hbnd := hvl t B (by omega)
      have h7 : d_mf (d_vp (d_av D) t B) (d_v (d_av D) (7 - t) B) 7 = d_mf (d_vp (d_av D) t B) (d_v (d_av D) (7 - t) B) (D 0 4) := by
        have := d_mf_0 (f := d_vp (d_av D) t B) (b := d_v (d_av D) (7 - t) B) (n := D 0 4) (m := 7 - D 0 4) (fun k hk => by
          unfold d_vp
          rw [d_cd_hi hk]
          rfl)
        rw [show D 0 4 + (7 - D 0 4) = 7 by omega] at this
        exact this
      rw [htop, h7] at hbnd
      have hLL : l_X12_works2_45 (f_X12_works2 n) fu_N s (Int32.ofNat t) (Int32.ofNat L) (Int32.ofNat (d_v (d_av D) (7 - t) B)) x6 0 = some (Int32.ofNat (d_v (d_av D) (8 - t) B)) := by
        rw [htop, h7]
        exact lp_ex (l := fun f σ k => l_X12_works2_45 (f_X12_works2 n) f s (Int32.ofNat t) (Int32.ofNat L) σ x6 (Int32.ofNat k)) (N := D 0 4) (S := fun k => Int32.ofNat (d_mf (d_vp (d_av D) t B) (d_v (d_av D) (7 - t) B) k)) (r := Int32.ofNat (d_mf (d_vp (d_av D) t B) (d_v (d_av D) (7 - t) B) (D 0 4))) (fun f k hk => by
          have q1 := e3 k hk
          have hk31 : k < 31 := by omega
          have q2 := hK (d_nb L (2 ^ k)) (B ||| 2 ^ k) (Nat.lt_of_le_of_lt d_nb_le hL7) (fun p hp => by rw [d_nb_bit (by omega), Nat.testBit_or, hL p hp, Bool.not_or])
          have q3 : d_mf (d_vp (d_av D) t B) (d_v (d_av D) (7 - t) B) (k + 1) = max (d_mf (d_vp (d_av D) t B) (d_v (d_av D) (7 - t) B) k) (d_vp (d_av D) t B k) := rfl
          have q4 := d_mf_mono (f := d_vp (d_av D) t B) (b := d_v (d_av D) (7 - t) B) (n := k) (m := D 0 4 - k)
          rw [show k + (D 0 4 - k) = D 0 4 by omega] at q4
          have q5 := hvl (t + 1) (B ||| 2 ^ k) (by omega)
          rw [show 8 - (t + 1) = 7 - t by omega] at q5
          show l_X12_works2_45 (f_X12_works2 n) (f + 1) s (Int32.ofNat t) (Int32.ofNat L) (Int32.ofNat (d_mf (d_vp (d_av D) t B) (d_v (d_av D) (7 - t) B) k)) x6 (Int32.ofNat k) = l_X12_works2_45 (f_X12_works2 n) f s (Int32.ofNat t) (Int32.ofNat L) (Int32.ofNat (d_mf (d_vp (d_av D) t B) (d_v (d_av D) (7 - t) B) (k + 1))) x6 (Int32.ofNat (k + 1)) ∨ l_X12_works2_45 (f_X12_works2 n) (f + 1) s (Int32.ofNat t) (Int32.ofNat L) (Int32.ofNat (d_mf (d_vp (d_av D) t B) (d_v (d_av D) (7 - t) B) k)) x6 (Int32.ofNat k) = _
          rw [q3]
          generalize d_mf (d_vp (d_av D) t B) (d_v (d_av D) (7 - t) B) k = M at *
          generalize d_mf (d_vp (d_av D) t B) (d_v (d_av D) (7 - t) B) (D 0 4) = T at *
          have ht5 : t ≤ D 0 5 := ht
          by_cases hM : M < D 0 5 - t
          · left
            unfold d_vp
            cases hc : d_cd (d_av D) t B k
            · rw [hc] at q1
              simp (maxSteps := 1000000) (disch := omega) only [ne_eq, i_lt0, i_le0, i_eq0, i_n1, i_ltl, i_lel, i_eql, i_lt, i_le, i_eq, i_in, i_tn, i_add, i_addl, i_addr, i_mul, i_mulr, i_mull, if_true, if_false, eq_self, decide_eq_true_eq, decide_true, decide_false, Option.bind_some, Option.bind_none, ↓fu_ltd, ↓reduceIte, ↓ob_ite, ↓ob_asc, Bool.false_eq_true, Bool.true_eq_false, not_true_eq_false, not_false_eq_true, Nat.not_lt_zero, Nat.le_zero_eq, Nat.reduceAdd, Nat.reduceMul, Nat.reduceSub, Nat.reduceEqDiff, Nat.reduceLT, Nat.reduceLeDiff, sC_def, sR_def, sC_1, sC_2, sR_1, sR_2, sC_st, sR_st, sR_no, sR_refuse, and_self, true_and, and_true, false_and, and_false, l_X12_works2_45, c1, c2, hk, i_sub, ht5, hM, q1, i_add1, Nat.max_zero]
            · rw [hc] at q1
              have e6 := i_mx (a := M) (b := 1 + d_v (d_av D) (7 - t) (B ||| 2 ^ k)) (by omega) (by omega)
              generalize d_v (d_av D) (7 - t) (B ||| 2 ^ k) = V at *
              simp (maxSteps := 1000000) (disch := omega) only [ne_eq, i_lt0, i_le0, i_eq0, i_n1, i_ltl, i_lel, i_eql, i_lt, i_le, i_eq, i_in, i_tn, i_add, i_addl, i_addr, i_mul, i_mulr, i_mull, if_true, if_false, eq_self, decide_eq_true_eq, decide_true, decide_false, Option.bind_some, Option.bind_none, ↓fu_ltd, ↓reduceIte, ↓ob_ite, ↓ob_asc, Bool.false_eq_true, Bool.true_eq_false, not_true_eq_false, not_false_eq_true, Nat.not_lt_zero, Nat.le_zero_eq, Nat.reduceAdd, Nat.reduceMul, Nat.reduceSub, Nat.reduceEqDiff, Nat.reduceLT, Nat.reduceLeDiff, sC_def, sR_def, sC_1, sC_2, sR_1, sR_2, sC_st, sR_st, sR_no, sR_refuse, and_self, true_and, and_true, false_and, and_false, l_X12_works2_45, c1, c2, hk, i_sub, ht5, hM, q1, i_nand1, i_add1, q2, e6]
          · right
            have : M = T := by omega
            subst this
            simp (maxSteps := 1000000) (disch := omega) only [ne_eq, i_lt0, i_le0, i_eq0, i_n1, i_ltl, i_lel, i_eql, i_lt, i_le, i_eq, i_in, i_tn, i_add, i_addl, i_addr, i_mul, i_mulr, i_mull, if_true, if_false, eq_self, decide_eq_true_eq, decide_true, decide_false, Option.bind_some, Option.bind_none, ↓fu_ltd, ↓reduceIte, ↓ob_ite, ↓ob_asc, Bool.false_eq_true, Bool.true_eq_false, not_true_eq_false, not_false_eq_true, Nat.not_lt_zero, Nat.le_zero_eq, Nat.reduceAdd, Nat.reduceMul, Nat.reduceSub, Nat.reduceEqDiff, Nat.reduceLT, Nat.reduceLeDiff, sC_def, sR_def, sC_1, sC_2, sR_1, sR_2, sC_st, sR_st, sR_no, sR_refuse, and_self, true_and, and_true, false_and, and_false, l_X12_works2_45, c1, c2, hk, i_sub, ht5, hM]) (fun f => by
          generalize d_mf (d_vp (d_av D) t B) (d_v (d_av D) (7 - t) B) (D 0 4) = T at *
          show l_X12_works2_45 (f_X12_works2 n) (f + 1) s (Int32.ofNat t) (Int32.ofNat L) (Int32.ofNat T) x6 (Int32.ofNat (D 0 4)) = _
          simp (maxSteps := 1000000) (disch := omega) only [ne_eq, i_lt0, i_le0, i_eq0, i_n1, i_ltl, i_lel, i_eql, i_lt, i_le, i_eq, i_in, i_tn, i_add, i_addl, i_addr, i_mul, i_mulr, i_mull, if_true, if_false, eq_self, decide_eq_true_eq, decide_true, decide_false, Option.bind_some, Option.bind_none, ↓fu_ltd, ↓reduceIte, ↓ob_ite, ↓ob_asc, Bool.false_eq_true, Bool.true_eq_false, not_true_eq_false, not_false_eq_true, Nat.not_lt_zero, Nat.le_zero_eq, Nat.reduceAdd, Nat.reduceMul, Nat.reduceSub, Nat.reduceEqDiff, Nat.reduceLT, Nat.reduceLeDiff, sC_def, sR_def, sC_1, sC_2, sR_1, sR_2, sC_st, sR_st, sR_no, sR_refuse, and_self, true_and, and_true, false_and, and_false, l_X12_works2_45, c1, Nat.lt_irrefl]) (f := fu_N) (k := 0) (by omega) (fu_N_gt (by omega))
      have ht5 : t < 2147483648 := by omega
      unfold fb_X12_works2
      rw [c2, if_neg (fun z => he ((i_eq (by omega) (by omega)).mp z)), i_add1, e1]
      refine (e2 _).trans ?_
      rw [hLL]
      rfl
theorem r_works84 {x1 : Int32} (h : dR s 0 D) (hv : dV D) (hu : u < D 0 5) (hL7 : L < 128) (hL : ∀ p, p < D 0 4 → L.testBit p = !B.testBit p) (h6 : ∀ p, p < D 0 4 → f_X12_has x6 (Int32.ofNat p) = d_cd (d_av D) u B p) : l_X12_works_84 fu_N s x1 (Int32.ofNat L) (-1) (Int32.ofNat u) (Int32.ofNat (d_v (d_av D) (8 - u) B)) x6 (Int32.ofNat (D 0 4) - 1) = some (e_b (d_lo (d_wok (d_av D) u B) 7)) := by
  have hp4 := hv.1
  have hN : ∀ t, D 0 5 ≤ t → d_av D t = 0 := fun t ht => d_av_t ht
  have hvl : ∀ t B, t ≤ 8 → d_v (d_av D) (8 - t) B ≤ D 0 5 - t := fun t B ht => by
    have := d_v_le hN (by omega) (j := 8 - t) (B := B) (by omega)
    omega
  have h7 : d_lo (d_wok (d_av D) u B) 7 = d_hi (d_wok (d_av D) u B) (D 0 4) (D 0 4) := by
    rw [d_hi_lo]
    have := d_lo_hi (c := d_wok (d_av D) u B) (n := D 0 4) (m := 7 - D 0 4) (fun k hk => by
      unfold d_wok
      rw [d_cd_hi hk, Bool.false_and])
    rw [show D 0 4 + (7 - D 0 4) = 7 by omega] at this
    exact this
  rw [h7]
  have := lp_dn (l := fun f σ k => l_X12_works_84 f s x1 (Int32.ofNat L) σ (Int32.ofNat u) (Int32.ofNat (d_v (d_av D) (8 - u) B)) x6 (Int32.ofNat k - 1)) (N := D 0 4) (S := fun k => e_b (d_hi (d_wok (d_av D) u B) (D 0 4) (D 0 4 - k))) (r := e_b (d_hi (d_wok (d_av D) u B) (D 0 4) (D 0 4))) (fun n k hk => by
    have q1 := h6 k hk
    have hk31 : k < 31 := by omega
    have q2 := r_w2 h hv (n := 16) (t := u + 1) (L := d_nb L (2 ^ k)) (B := B ||| 2 ^ k) (by omega) (by omega) (Nat.lt_of_le_of_lt d_nb_le hL7) (fun p hp => by rw [d_nb_bit (by omega), Nat.testBit_or, hL p hp, Bool.not_or])
    have q5 := hvl (u + 1) (B ||| 2 ^ k) (by omega)
    have q6 := hvl u B (by omega)
    rw [show 8 - (u + 1) = 7 - u by omega] at q2 q5
    have q3 : d_hi (d_wok (d_av D) u B) (D 0 4) (D 0 4 - k) = if d_wok (d_av D) u B k = true then k + 1 else d_hi (d_wok (d_av D) u B) (D 0 4) (D 0 4 - (k + 1)) := by
      rw [show D 0 4 - k = (D 0 4 - (k + 1)) + 1 by omega, d_hi, show D 0 4 - 1 - (D 0 4 - (k + 1)) = k by omega, show D 0 4 - (D 0 4 - (k + 1)) = k + 1 by omega]
    show l_X12_works_84 (n + 1) s x1 (Int32.ofNat L) (e_b (d_hi (d_wok (d_av D) u B) (D 0 4) (D 0 4 - (k + 1)))) (Int32.ofNat u) (Int32.ofNat (d_v (d_av D) (8 - u) B)) x6 (Int32.ofNat (k + 1) - 1) = l_X12_works_84 n s x1 (Int32.ofNat L) (e_b (d_hi (d_wok (d_av D) u B) (D 0 4) (D 0 4 - k))) (Int32.ofNat u) (Int32.ofNat (d_v (d_av D) (8 - u) B)) x6 (Int32.ofNat k - 1)
    rw [q3]
    clear q3
    generalize d_hi (d_wok (d_av D) u B) (D 0 4) (D 0 4 - (k + 1)) = E
    unfold d_wok
    generalize d_v (d_av D) (7 - u) (B ||| 2 ^ k) = V at *
    generalize d_v (d_av D) (8 - u) B = W at *
    cases hc : d_cd (d_av D) u B k
    · rw [hc] at q1
      simp (maxSteps := 1000000) (disch := omega) only [ne_eq, i_lt0, i_le0, i_eq0, i_n1, i_ltl, i_lel, i_eql, i_lt, i_le, i_eq, i_in, i_tn, i_add, i_addl, i_addr, i_mul, i_mulr, i_mull, if_true, if_false, eq_self, decide_eq_true_eq, decide_true, decide_false, Option.bind_some, Option.bind_none, ↓fu_ltd, ↓reduceIte, ↓ob_ite, ↓ob_asc, Bool.false_eq_true, Bool.true_eq_false, not_true_eq_false, not_false_eq_true, Nat.not_lt_zero, Nat.le_zero_eq, Nat.reduceAdd, Nat.reduceMul, Nat.reduceSub, Nat.reduceEqDiff, Nat.reduceLT, Nat.reduceLeDiff, sC_def, sR_def, sC_1, sC_2, sR_1, sR_2, sC_st, sR_st, sR_no, sR_refuse, and_self, true_and, and_true, false_and, and_false, l_X12_works_84, i_add1s, q1, i_addm1, Bool.false_and]
    · rw [hc] at q1
      by_cases hz : 1 + V = W
      · simp (maxSteps := 1000000) (disch := omega) only [ne_eq, i_lt0, i_le0, i_eq0, i_n1, i_ltl, i_lel, i_eql, i_lt, i_le, i_eq, i_in, i_tn, i_add, i_addl, i_addr, i_mul, i_mulr, i_mull, if_true, if_false, eq_self, decide_eq_true_eq, decide_true, decide_false, Option.bind_some, Option.bind_none, ↓fu_ltd, ↓reduceIte, ↓ob_ite, ↓ob_asc, Bool.false_eq_true, Bool.true_eq_false, not_true_eq_false, not_false_eq_true, Nat.not_lt_zero, Nat.le_zero_eq, Nat.reduceAdd, Nat.reduceMul, Nat.reduceSub, Nat.reduceEqDiff, Nat.reduceLT, Nat.reduceLeDiff, sC_def, sR_def, sC_1, sC_2, sR_1, sR_2, sC_st, sR_st, sR_no, sR_refuse, and_self, true_and, and_true, false_and, and_false, l_X12_works_84, i_add1s, q1, i_addm1, i_nand1, i_add1, q2, hz, Bool.and_self]
        rfl
      · simp (maxSteps := 1000000) (disch := omega) only [ne_eq, i_lt0, i_le0, i_eq0, i_n1, i_ltl, i_lel, i_eql, i_lt, i_le, i_eq, i_in, i_tn, i_add, i_addl, i_addr, i_mul, i_mulr, i_mull, if_true, if_false, eq_self, decide_eq_true_eq, decide_true, decide_false, Option.bind_some, Option.bind_none, ↓fu_ltd, ↓reduceIte, ↓ob_ite, ↓ob_asc, Bool.false_eq_true, Bool.true_eq_false, not_true_eq_false, not_false_eq_true, Nat.not_lt_zero, Nat.le_zero_eq, Nat.reduceAdd, Nat.reduceMul, Nat.reduceSub, Nat.reduceEqDiff, Nat.reduceLT, Nat.reduceLeDiff, sC_def, sR_def, sC_1, sC_2, sR_1, sR_2, sC_st, sR_st, sR_no, sR_refuse, and_self, true_and, and_true, false_and, and_false, l_X12_works_84, i_add1s, q1, i_addm1, i_nand1, i_add1, q2, hz, Bool.and_false]) (fun n => by
    rw [Nat.sub_zero]
    generalize e_b (d_hi (d_wok (d_av D) u B) (D 0 4) (D 0 4)) = E
    show l_X12_works_84 (n + 1) s x1 (Int32.ofNat L) E (Int32.ofNat u) (Int32.ofNat (d_v (d_av D) (8 - u) B)) x6 (-1) = _
    simp (maxSteps := 1000000) (disch := omega) only [ne_eq, i_lt0, i_le0, i_eq0, i_n1, i_ltl, i_lel, i_eql, i_lt, i_le, i_eq, i_in, i_tn, i_add, i_addl, i_addr, i_mul, i_mulr, i_mull, if_true, if_false, eq_self, decide_eq_true_eq, decide_true, decide_false, Option.bind_some, Option.bind_none, ↓fu_ltd, ↓reduceIte, ↓ob_ite, ↓ob_asc, Bool.false_eq_true, Bool.true_eq_false, not_true_eq_false, not_false_eq_true, Nat.not_lt_zero, Nat.le_zero_eq, Nat.reduceAdd, Nat.reduceMul, Nat.reduceSub, Nat.reduceEqDiff, Nat.reduceLT, Nat.reduceLeDiff, sC_def, sR_def, sC_1, sC_2, sR_1, sR_2, sC_st, sR_st, sR_no, sR_refuse, and_self, true_and, and_true, false_and, and_false, l_X12_works_84, i_n1lt]) (k := D 0 4) (f := fu_N) (by omega) (fu_N_gt (by omega))
  rw [Nat.sub_self] at this
  exact this
def d_who (D : dD) (u : Nat) : Int32 := if u = 0 then -1 else e_b (d_wk (d_av D) (u - 1))
theorem r_works34 (h : dR s 0 D) (hv : dV D) (ht : t < D 0 5) : l_X12_works_34 fu_N s (Int32.ofNat t) (f_X12_everybody s) (-1) 0 = some (e_b (d_wk (d_av D) t)) := by
  have hp4 := hv.1
  have c1 := (dR_0 h).1.2.1
  have c2 := (dR_0 h).1.2.2.1
  have ev : f_X12_everybody s = Int32.ofNat (d_lf (d_av D) (D 0 4) 0) := by
    unfold f_X12_everybody
    rw [c1, i_shl (by omega)]
    exact i_sub (b := 1) (Nat.two_pow_pos _)
  rw [ev]
  exact lp_up (l := fun f (σ : Int32 × Int32) k => l_X12_works_34 f s (Int32.ofNat t) σ.1 σ.2 (Int32.ofNat k)) (N := t + 1) (S := fun u => (Int32.ofNat (d_lf (d_av D) (D 0 4) u), d_who D u)) (r := e_b (d_wk (d_av D) t)) (fun n u hu => by
    have hL7 : d_lf (d_av D) (D 0 4) u < 128 := d_lf_lt (by omega)
    have hL : ∀ p, p < D 0 4 → (d_lf (d_av D) (D 0 4) u).testBit p = !(d_bz (d_av D) u).testBit p := fun p hp => d_lf_bit (by omega) hp
    have q1 := r_w2 h hv (n := 16) (t := u) (L := d_lf (d_av D) (D 0 4) u) (B := d_bz (d_av D) u) (by omega) (by omega) hL7 hL
    obtain ⟨x6, e2, e3⟩ := r_left (t := u) h hv (by omega) hL hL7
    have q2 := r_works84 (x1 := Int32.ofNat t) (u := u) h hv (by omega) hL7 hL e3
    rw [show d_lo (d_wok (d_av D) u (d_bz (d_av D) u)) 7 = d_wk (d_av D) u from rfl] at q2
    have q3 : d_who D (u + 1) = e_b (d_wk (d_av D) u) := rfl
    have q4 : d_lf (d_av D) (D 0 4) (u + 1) = if d_wk (d_av D) u = 0 then d_lf (d_av D) (D 0 4) u else d_nb (d_lf (d_av D) (D 0 4) u) (2 ^ (d_wk (d_av D) u - 1)) := rfl
    have q7 : d_wk (d_av D) u ≤ 7 := d_lo_le
    have hut : u ≤ t := by omega
    show l_X12_works_34 (n + 1) s (Int32.ofNat t) (Int32.ofNat (d_lf (d_av D) (D 0 4) u)) (d_who D u) (Int32.ofNat u) = l_X12_works_34 n s (Int32.ofNat t) (Int32.ofNat (d_lf (d_av D) (D 0 4) (u + 1))) (d_who D (u + 1)) (Int32.ofNat (u + 1))
    rw [q3, q4]
    generalize d_lf (d_av D) (D 0 4) u = L at *
    generalize d_wk (d_av D) u = W at *
    generalize d_v (d_av D) (8 - u) (d_bz (d_av D) u) = V at *
    rw [l_X12_works_34, if_pos ((i_le (by omega) (by omega)).mpr hut), q1]
    refine (e2 _).trans ?_
    rw [c1, q2]
    have hn := e_b_neg (b := W) (by omega)
    by_cases hW : W = 0
    · have z2 := hn.mpr hW
      rw [if_pos hW]
      simp (maxSteps := 1000000) (disch := omega) only [ne_eq, i_lt0, i_le0, i_eq0, i_n1, i_ltl, i_lel, i_eql, i_lt, i_le, i_eq, i_in, i_tn, i_add, i_addl, i_addr, i_mul, i_mulr, i_mull, if_true, if_false, eq_self, decide_eq_true_eq, decide_true, decide_false, Option.bind_some, Option.bind_none, ↓fu_ltd, ↓reduceIte, ↓ob_ite, ↓ob_asc, Bool.false_eq_true, Bool.true_eq_false, not_true_eq_false, not_false_eq_true, Nat.not_lt_zero, Nat.le_zero_eq, Nat.reduceAdd, Nat.reduceMul, Nat.reduceSub, Nat.reduceEqDiff, Nat.reduceLT, Nat.reduceLeDiff, sC_def, sR_def, sC_1, sC_2, sR_1, sR_2, sC_st, sR_st, sR_no, sR_refuse, and_self, true_and, and_true, false_and, and_false, z2, i_add1]
    · have z2 : ¬ _ := fun z => hW (hn.mp z)
      rw [if_neg hW]
      have z3 := e_b_of hW
      rw [z3] at z2 ⊢
      simp (maxSteps := 1000000) (disch := omega) only [ne_eq, i_lt0, i_le0, i_eq0, i_n1, i_ltl, i_lel, i_eql, i_lt, i_le, i_eq, i_in, i_tn, i_add, i_addl, i_addr, i_mul, i_mulr, i_mull, if_true, if_false, eq_self, decide_eq_true_eq, decide_true, decide_false, Option.bind_some, Option.bind_none, ↓fu_ltd, ↓reduceIte, ↓ob_ite, ↓ob_asc, Bool.false_eq_true, Bool.true_eq_false, not_true_eq_false, not_false_eq_true, Nat.not_lt_zero, Nat.le_zero_eq, Nat.reduceAdd, Nat.reduceMul, Nat.reduceSub, Nat.reduceEqDiff, Nat.reduceLT, Nat.reduceLeDiff, sC_def, sR_def, sC_1, sC_2, sR_1, sR_2, sC_st, sR_st, sR_no, sR_refuse, and_self, true_and, and_true, false_and, and_false, z2, i_nand1, i_add1]) (fun n => by
    have hut : ¬ t + 1 ≤ t := by omega
    have q3 : d_who D (t + 1) = e_b (d_wk (d_av D) t) := rfl
    show l_X12_works_34 (n + 1) s (Int32.ofNat t) (Int32.ofNat (d_lf (d_av D) (D 0 4) (t + 1))) (d_who D (t + 1)) (Int32.ofNat (t + 1)) = _
    rw [q3]
    generalize d_lf (d_av D) (D 0 4) (t + 1) = L at *
    simp (maxSteps := 1000000) (disch := omega) only [ne_eq, i_lt0, i_le0, i_eq0, i_n1, i_ltl, i_lel, i_eql, i_lt, i_le, i_eq, i_in, i_tn, i_add, i_addl, i_addr, i_mul, i_mulr, i_mull, if_true, if_false, eq_self, decide_eq_true_eq, decide_true, decide_false, Option.bind_some, Option.bind_none, ↓fu_ltd, ↓reduceIte, ↓ob_ite, ↓ob_asc, Bool.false_eq_true, Bool.true_eq_false, not_true_eq_false, not_false_eq_true, Nat.not_lt_zero, Nat.le_zero_eq, Nat.reduceAdd, Nat.reduceMul, Nat.reduceSub, Nat.reduceEqDiff, Nat.reduceLT, Nat.reduceLeDiff, sC_def, sR_def, sC_1, sC_2, sR_1, sR_2, sC_st, sR_st, sR_no, sR_refuse, and_self, true_and, and_true, false_and, and_false, l_X12_works_34, hut]) (f := fu_N) (k := 0) (by omega) (fu_N_gt (by omega))
end RW2
theorem eqC_asg {s u : fu_S} (h2 : u.2 = s.2) (h1 : ∀ a, a ≠ 111 → a ≠ 112 → a ≠ 113 → u.1 a = s.1 a) (h3 : ∀ i, 1024 ≤ i → u.1 113 i = s.1 113 i) : eqC s u := ⟨by rw [h1 0 (by omega) (by omega) (by omega)], by rw [h2], by rw [h1 5 (by omega) (by omega) (by omega)], by rw [h1 5 (by omega) (by omega) (by omega)], ⟨by rw [h1 5 (by omega) (by omega) (by omega)], h3⟩, fun a ha => ⟨h1 a (by omega) (by omega) (by omega), by rw [h2]⟩⟩
theorem hd_26 : lw_E_26 dI := by
  intro s1 s2 hI
  obtain ⟨D, hv, hC, hR, -⟩ := dI_D hI
  have hp4 := hv.1
  have hm := (dI_s (x := 0) hI).2.2.2.2.1.2
  obtain ⟨u, e1, e2, e3, e4, e5⟩ := c_asg (dC_s (x := 0) (by omega : (11 : Nat) ≠ 0) hC) hv (by omega) hm
  have e6 := r_w2 (dR_s (x := 0) hv hR) hv (n := 16) (t := 0) (L := 2 ^ D 0 4 - 1) (B := 0) (by omega) (by omega) (d_lf_lt (av := d_av D) (t := 0) (by omega)) (fun p hp => d_lf_bit (av := d_av D) (t := 0) (m := D 0 4) (by omega) hp)
  have e7 : f_X12_everybody (sR s2 0) = Int32.ofNat (2 ^ D 0 4 - 1) := by
    unfold f_X12_everybody
    rw [sR_1 (by omega), (dR_0 hR).1.2.1, i_shl (by omega)]
    exact i_sub (b := 1) (Nat.two_pow_pos _)
  refine ⟨Int32.ofNat (d_v (d_av D) 8 0), u, sR s2 0, ?_, ?_, dI_eq hI (eqC_tr eqC_sC (eqC_asg e3 e4 e5)) eqR_sR ?_⟩
  · simp (maxSteps := 1000000) (disch := omega) only [ne_eq, i_lt0, i_le0, i_eq0, i_n1, i_ltl, i_lel, i_eql, i_lt, i_le, i_eq, i_in, i_tn, i_add, i_addl, i_addr, i_mul, i_mulr, i_mull, if_true, if_false, eq_self, decide_eq_true_eq, decide_true, decide_false, Option.bind_some, Option.bind_none, ↓fu_ltd, ↓reduceIte, ↓ob_ite, ↓ob_asc, Bool.false_eq_true, Bool.true_eq_false, not_true_eq_false, not_false_eq_true, Nat.not_lt_zero, Nat.le_zero_eq, Nat.reduceAdd, Nat.reduceMul, Nat.reduceSub, Nat.reduceEqDiff, Nat.reduceLT, Nat.reduceLeDiff, sC_def, sR_def, sC_1, sC_2, sR_1, sR_2, sC_st, sR_st, sR_no, sR_refuse, and_self, true_and, and_true, false_and, and_false, f_X11_round, e1]
  · have e6' : f_X12_works2 16 (sR s2 0) 0 (Int32.ofNat (2 ^ D 0 4 - 1)) = some (Int32.ofNat (d_v (d_av D) 8 0)) := e6
    simp (maxSteps := 1000000) (disch := omega) only [ne_eq, i_lt0, i_le0, i_eq0, i_n1, i_ltl, i_lel, i_eql, i_lt, i_le, i_eq, i_in, i_tn, i_add, i_addl, i_addr, i_mul, i_mulr, i_mull, if_true, if_false, eq_self, decide_eq_true_eq, decide_true, decide_false, Option.bind_some, Option.bind_none, ↓fu_ltd, ↓reduceIte, ↓ob_ite, ↓ob_asc, Bool.false_eq_true, Bool.true_eq_false, not_true_eq_false, not_false_eq_true, Nat.not_lt_zero, Nat.le_zero_eq, Nat.reduceAdd, Nat.reduceMul, Nat.reduceSub, Nat.reduceEqDiff, Nat.reduceLT, Nat.reduceLeDiff, sC_def, sR_def, sC_1, sC_2, sR_1, sR_2, sC_st, sR_st, sR_no, sR_refuse, and_self, true_and, and_true, false_and, and_false, f_X12_round, e7, e6']
  · rw [e4 0 (by omega) (by omega) (by omega), sC_st, sR_st]
theorem hd_27 : lw_E_27 dI := by
  intro s1 s2 hI a1
  obtain ⟨D, hv, hC, hR, -⟩ := dI_D hI
  have hp4 := hv.1
  have hm := (dI_s (x := 0) hI).2.2.2.2.1.2
  have hr := fun x => dR_s (x := x) hv hR
  by_cases h1 : ¬ a1 < 0 ∧ a1 < Int32.ofNat (D 0 5)
  · obtain ⟨t, ht, rfl⟩ := i_is (by omega) h1
    have ht8 : t < 8 := by omega
    obtain ⟨u, e1, e2, e3, e4, e5⟩ := c_asg (dC_s (x := 0) (by omega : (11 : Nat) ≠ 0) hC) hv (by omega) hm
    have e6 := r_works34 (hr 0) hv ht
    have e7 := e2 t ht8
    have q7 : d_wk (d_av D) t ≤ 7 := d_lo_le
    have hc1 : eqC s1 u := eqC_tr eqC_sC (eqC_asg e3 e4 e5)
    have ep := fun x => r_isThing (x := Int32.ofNat t) (hr x) hv
    generalize d_wk (d_av D) t = W at *
    have hn := e_b_neg (b := W) (by omega)
    have hn1 := e_b_n1 (a := W) (by omega)
    by_cases hW : W = 0
    · have z1 := hn.mpr hW
      have z2 := hn1.mpr hW
      refine ⟨-1, fu_pi u 0 15 8, sR s2 8, ?_, ?_, dI_eq hI (eqC_tr hc1 eqC_st) eqR_sR (p1.trans sR_st.symm)⟩
      · simp (maxSteps := 1000000) (disch := omega) only [ne_eq, i_lt0, i_le0, i_eq0, i_n1, i_ltl, i_lel, i_eql, i_lt, i_le, i_eq, i_in, i_tn, i_add, i_addl, i_addr, i_mul, i_mulr, i_mull, if_true, if_false, eq_self, decide_eq_true_eq, decide_true, decide_false, Option.bind_some, Option.bind_none, ↓fu_ltd, ↓reduceIte, ↓ob_ite, ↓ob_asc, Bool.false_eq_true, Bool.true_eq_false, not_true_eq_false, not_false_eq_true, Nat.not_lt_zero, Nat.le_zero_eq, Nat.reduceAdd, Nat.reduceMul, Nat.reduceSub, Nat.reduceEqDiff, Nat.reduceLT, Nat.reduceLeDiff, sC_def, sR_def, sC_1, sC_2, sR_1, sR_2, sC_st, sR_st, sR_no, sR_refuse, and_self, true_and, and_true, false_and, and_false, f_X11_works, c_hasThing hC, ht, ht8, e1, f_X10_workerOn, e7, z2]
        try rfl
      · simp (maxSteps := 1000000) (disch := omega) only [ne_eq, i_lt0, i_le0, i_eq0, i_n1, i_ltl, i_lel, i_eql, i_lt, i_le, i_eq, i_in, i_tn, i_add, i_addl, i_addr, i_mul, i_mulr, i_mull, if_true, if_false, eq_self, decide_eq_true_eq, decide_true, decide_false, Option.bind_some, Option.bind_none, ↓fu_ltd, ↓reduceIte, ↓ob_ite, ↓ob_asc, Bool.false_eq_true, Bool.true_eq_false, not_true_eq_false, not_false_eq_true, Nat.not_lt_zero, Nat.le_zero_eq, Nat.reduceAdd, Nat.reduceMul, Nat.reduceSub, Nat.reduceEqDiff, Nat.reduceLT, Nat.reduceLeDiff, sC_def, sR_def, sC_1, sC_2, sR_1, sR_2, sC_st, sR_st, sR_no, sR_refuse, and_self, true_and, and_true, false_and, and_false, f_X12_works, ep, ht, e6, z1]
    · have z1 : ¬ _ := fun z => hW (hn.mp z)
      have z2 : ¬ _ := fun z => hW (hn1.mp z)
      refine ⟨e_b W, fu_pi u 0 15 0, sR s2 0, ?_, ?_, dI_eq hI (eqC_tr hc1 eqC_st) eqR_sR (p1.trans sR_st.symm)⟩
      · simp (maxSteps := 1000000) (disch := omega) only [ne_eq, i_lt0, i_le0, i_eq0, i_n1, i_ltl, i_lel, i_eql, i_lt, i_le, i_eq, i_in, i_tn, i_add, i_addl, i_addr, i_mul, i_mulr, i_mull, if_true, if_false, eq_self, decide_eq_true_eq, decide_true, decide_false, Option.bind_some, Option.bind_none, ↓fu_ltd, ↓reduceIte, ↓ob_ite, ↓ob_asc, Bool.false_eq_true, Bool.true_eq_false, not_true_eq_false, not_false_eq_true, Nat.not_lt_zero, Nat.le_zero_eq, Nat.reduceAdd, Nat.reduceMul, Nat.reduceSub, Nat.reduceEqDiff, Nat.reduceLT, Nat.reduceLeDiff, sC_def, sR_def, sC_1, sC_2, sR_1, sR_2, sC_st, sR_st, sR_no, sR_refuse, and_self, true_and, and_true, false_and, and_false, f_X11_works, c_hasThing hC, ht, ht8, e1, f_X10_workerOn, e7, z2]
        try rfl
      · simp (maxSteps := 1000000) (disch := omega) only [ne_eq, i_lt0, i_le0, i_eq0, i_n1, i_ltl, i_lel, i_eql, i_lt, i_le, i_eq, i_in, i_tn, i_add, i_addl, i_addr, i_mul, i_mulr, i_mull, if_true, if_false, eq_self, decide_eq_true_eq, decide_true, decide_false, Option.bind_some, Option.bind_none, ↓fu_ltd, ↓reduceIte, ↓ob_ite, ↓ob_asc, Bool.false_eq_true, Bool.true_eq_false, not_true_eq_false, not_false_eq_true, Nat.not_lt_zero, Nat.le_zero_eq, Nat.reduceAdd, Nat.reduceMul, Nat.reduceSub, Nat.reduceEqDiff, Nat.reduceLT, Nat.reduceLeDiff, sC_def, sR_def, sC_1, sC_2, sR_1, sR_2, sC_st, sR_st, sR_no, sR_refuse, and_self, true_and, and_true, false_and, and_false, f_X12_works, ep, ht, e6, z1]
  · have ep := fun x => r_isThing (x := a1) (hr x) hv
    refine ⟨-1, sC s1 2, sR s2 2, ?_, ?_, dI_s hI⟩
    · simp (maxSteps := 1000000) (disch := omega) only [ne_eq, i_lt0, i_le0, i_eq0, i_n1, i_ltl, i_lel, i_eql, i_lt, i_le, i_eq, i_in, i_tn, i_add, i_addl, i_addr, i_mul, i_mulr, i_mull, if_true, if_false, eq_self, decide_eq_true_eq, decide_true, decide_false, Option.bind_some, Option.bind_none, ↓fu_ltd, ↓reduceIte, ↓ob_ite, ↓ob_asc, Bool.false_eq_true, Bool.true_eq_false, not_true_eq_false, not_false_eq_true, Nat.not_lt_zero, Nat.le_zero_eq, Nat.reduceAdd, Nat.reduceMul, Nat.reduceSub, Nat.reduceEqDiff, Nat.reduceLT, Nat.reduceLeDiff, sC_def, sR_def, sC_1, sC_2, sR_1, sR_2, sC_st, sR_st, sR_no, sR_refuse, and_self, true_and, and_true, false_and, and_false, f_X11_works, c_hasThing hC, h1]
      try rfl
    · simp (maxSteps := 1000000) (disch := omega) only [ne_eq, i_lt0, i_le0, i_eq0, i_n1, i_ltl, i_lel, i_eql, i_lt, i_le, i_eq, i_in, i_tn, i_add, i_addl, i_addr, i_mul, i_mulr, i_mull, if_true, if_false, eq_self, decide_eq_true_eq, decide_true, decide_false, Option.bind_some, Option.bind_none, ↓fu_ltd, ↓reduceIte, ↓ob_ite, ↓ob_asc, Bool.false_eq_true, Bool.true_eq_false, not_true_eq_false, not_false_eq_true, Nat.not_lt_zero, Nat.le_zero_eq, Nat.reduceAdd, Nat.reduceMul, Nat.reduceSub, Nat.reduceEqDiff, Nat.reduceLT, Nat.reduceLeDiff, sC_def, sR_def, sC_1, sC_2, sR_1, sR_2, sC_st, sR_st, sR_no, sR_refuse, and_self, true_and, and_true, false_and, and_false, f_X12_works, ep, h1]
