/-! days -/
section SEQ
variable {s t r s1 s2 t1 t2 r1 r2 a b : fu_S} {u : Nat → Nat} {n T p q e f k i g v j m l lo hi w P V W R G d c B : Nat} {x y : Int32} {z : Int64} {D : dD}
theorem S_seq (hd : 1 ≤ d) (hStep : StepP u n T D d) : SeqP u n T D d := by
  intro m
  induction m using Nat.strongRecOn with
  | _ m ih =>
  intro i s1 s2 lo l g f2 x4 h hP hg hm hf
  obtain ⟨f2, rfl⟩ : ∃ f3, f2 = f3 + 1 := ⟨f2 - 1, by omega⟩
  have hK : Int32.ofNat (d - 1) + 1 = Int32.ofNat d := by rw [i_add1, Nat.sub_add_cancel hd]
  rw [l_X12_readStep_140, if_pos rfl, if_pos (OK_0 h), wd_20 h]
  by_cases h1 : tG u n (tq u n i) = 120
  · rw [decide_eq_true h1, if_pos rfl]
    exact .inl ⟨s1, s2, i, lo, l, 0, fun f c _ => rfl, rfl, h, Nat.le_refl _, hP, ⟨h1, Nat.le_refl _, Nat.le_refl _, dW_nil⟩, KC_rf, KR_rf⟩
  · rw [decide_eq_false h1, if_neg Bool.false_ne_true, hK]
    rcases hStep h hP hg (.inr ⟨hd, h1⟩) with ⟨t1, t2, i', hi, e, L, e1, e2, e3, e4, e5, ⟨e6, e7⟩, e8, e9⟩ | ⟨X, t2, L, e0, e1, e2, e3, e4⟩
    · rw [e2, Option.bind_some]
      have hT := e3.2.1
      rcases ih (T - i') (by omega) (f2 := f2) (x4 := x4) e3 e5 hg rfl (by omega) with ⟨r1, r2, i2, h2, e', L', d1, d2, d3, d4, d5, ⟨d6, d7, d8, d9⟩, d10, d11⟩ | ⟨X, r2, L', d0, d1, d2, d3, d4⟩
      · refine .inl ⟨r1, r2, i2, h2, e', L + L', fun f c hc => ?_, d2, d3, by omega, d5, ⟨d6, by have := e7.1; omega, by have := e7.2.1; omega, HD_dW (HD_kp (fun k i x1 x2 x3 => d10.2.2.2.1 k i x1 x2 x3) (fun i hi => d11.2.2.2.2 i (by omega)) e7) d7 d8 d9⟩, KC_tr (by have := e7.2.1; omega) (Nat.le_refl _) e8 d10, KR_tr (by have := e7.1; omega) e9 d11⟩
        rw [show f + (L + L') = (f + L') + L by omega, e1 (f + L') c hc, d1 f (c + L) (by omega), Nat.add_assoc]
      · refine .inr ⟨X, r2, L + L', by omega, fun f c hc => ?_, d2, FL_tr (KC_0 e8) d3, KR_tr (Nat.le_refl _) (KR_le (by omega) e9) d4⟩
        rw [show f + (L + L') = (f + L') + L by omega, e1 (f + L') c hc]
        exact d1 f (c + L) (by omega)
    · rw [e2, Option.bind_some]
      refine .inr ⟨X, t2, L, e0, e1, ?_, e3, e4⟩
      obtain ⟨f2, rfl⟩ : ∃ f3, f2 = f3 + 1 := ⟨f2 - 1, by omega⟩
      rw [l_X12_readStep_140, if_pos rfl, if_neg (bd_eq (FL_bd e3))]
theorem S_all : StepP u n T D 0 := by
  have s3 : StepP u n T D 3 := S_step (fun z => absurd z (by omega))
  have s2 : StepP u n T D 2 := S_step (fun _ => S_seq (by omega) s3)
  have s1 : StepP u n T D 1 := S_step (fun _ => S_seq (by omega) s2)
  have s0 : StepP u n T D 0 := S_step (fun _ => S_seq (by omega) s1)
  exact @s0
theorem S_top : ∀ {m i : Nat} {s1 s2 : fu_S} {lo l f2 : Nat}, OK u n T s1 s2 i → PI s1 s2 D 0 lo l → T - i = m → m + 1 < f2 → (∃ t1 t2 i' hi e L, L ≤ T - i + 1 ∧ (∀ f c, c ≤ i → l_X6_takeAll_14 (f + L) s1 (Int32.ofNat c) = some (.inr t1)) ∧ l_X12_days_28 f2 s2 = some t2 ∧ OK u n T t1 t2 i' ∧ PI t1 t2 D 0 hi e ∧ (lo ≤ hi ∧ l ≤ e ∧ ∀ f, hi - lo < f → dW t1 42 t2 4 D f (3 - 0) lo hi l e) ∧ KC s1 t1 l 0 ∧ KR s2 t2 (1505 + 9 * lo)) ∨
  (∃ X t2 L, L ≤ T - i + 1 ∧ (∀ f c, c ≤ i → l_X6_takeAll_14 (f + L) s1 (Int32.ofNat c) = some X) ∧ l_X12_days_28 f2 s2 = some t2 ∧ FL X s1 t2 ∧ KR s2 t2 1505) := by
  intro m
  induction m using Nat.strongRecOn with
  | _ m ih =>
  intro i s1 s2 lo l f2 h hP hm hf
  obtain ⟨f2, rfl⟩ : ∃ f3, f2 = f3 + 1 := ⟨f2 - 1, by omega⟩
  have htk := (OK_tok h).2.2.1
  rw [l_X12_days_28, if_pos (OK_0 h)]
  by_cases h0 : tG u n (tq u n i) = 0
  · rw [if_pos (htk.mpr h0)]
    exact .inl ⟨s1, s2, i, lo, l, 1, by omega, fun f c _ => it_e h h0, rfl, h, hP, ⟨Nat.le_refl _, Nat.le_refl _, dW_nil⟩, KC_rf, KR_rf⟩
  · rw [if_neg (fun z => h0 (htk.mp z))]
    rcases S_all h hP (g := 15) (by omega) (.inl ⟨rfl, h0⟩) with ⟨t1, t2, i', hi, e, L, e1, e2, e3, e4, e5, ⟨e6, e7⟩, e8, e9⟩ | ⟨X, t2, L, e0, e1, e2, e3, e4⟩
    · have e2' : f_X12_readStep 16 s2 0 = some t2 := e2
      rw [e2', Option.bind_some]
      have hT := e3.2.1
      rcases ih (T - i') (by omega) (f2 := f2) e3 e5 rfl (by omega) with ⟨r1, r2, i2, h2, e', L', d0, d1, d2, d3, d5, ⟨d7, d8, d9⟩, d10, d11⟩ | ⟨X, r2, L', d0, d1, d2, d3, d4⟩
      · refine .inl ⟨r1, r2, i2, h2, e', L + L', by omega, fun f c hc => ?_, d2, d3, d5, ⟨by have := e7.1; omega, by have := e7.2.1; omega, HD_dW (HD_kp (fun k i x1 x2 x3 => d10.2.2.2.1 k i x1 x2 x3) (fun i hi => d11.2.2.2.2 i (by omega)) e7) d7 d8 d9⟩, KC_tr (by have := e7.2.1; omega) (Nat.le_refl _) e8 d10, KR_tr (by have := e7.1; omega) e9 d11⟩
        rw [show f + (L + L') = (f + L') + L by omega, e1 (f + L') c hc]
        exact d1 f (c + L) (by omega)
      · refine .inr ⟨X, r2, L + L', by omega, fun f c hc => ?_, d2, FL_tr (KC_0 e8) d3, KR_tr (Nat.le_refl _) (KR_le (by omega) e9) d4⟩
        rw [show f + (L + L') = (f + L') + L by omega, e1 (f + L') c hc]
        exact d1 f (c + L) (by omega)
    · have e2' : f_X12_readStep 16 s2 0 = some t2 := e2
      rw [e2', Option.bind_some]
      refine .inr ⟨X, t2, L, e0, e1, ?_, e3, e4⟩
      obtain ⟨f2, rfl⟩ : ∃ f3, f2 = f3 + 1 := ⟨f2 - 1, by omega⟩
      rw [l_X12_days_28, if_neg (bd_eq (FL_bd e3))]
/-- the days brought to their place -/
theorem dW_to : ∀ {f g lo hi l e : Nat}, (∀ k i, 1 ≤ k → k < 5 → i < 60 → t1.1 (24 + k) i = s1.1 (42 + k) i) → (∀ i, i < 9 * hi → t2.1 122 (355 * 0 + 85 + i) = s2.1 122 (355 * 4 + 85 + i)) → e ≤ 60 → dW s1 42 s2 4 D f g lo hi l e → dW t1 24 t2 0 D f g lo hi l e
  | 0, _, _, _, _, _, _, _, _, hd => hd
  | f + 1, g, lo, hi, l, e, h, hw, he, hd => by
    rw [dW] at hd ⊢
    rcases hd with hd | ⟨h1, h2, hd⟩
    · exact .inl hd
    · refine .inr ⟨h1, h2, ?_⟩
      have hw9 : ∀ i, i < 9 → t2.1 122 (355 * 0 + 85 + 9 * lo + i) = s2.1 122 (355 * 4 + 85 + 9 * lo + i) := fun i hi => by
        have := hw (9 * lo + i) (by omega)
        rw [← Nat.add_assoc, ← Nat.add_assoc] at this
        exact this
      have hl4 : ∀ k, 1 ≤ k → k < 4 → t1.1 (24 + k) l = s1.1 (42 + k) l := fun k k1 k2 => h k l k1 (by omega) (by omega)
      rcases hd with ⟨q1, q2, q3⟩ | ⟨q1, q2, n, m, r1, r2, r3, r4, r5, r6, r7, r8, r9, r10⟩
      · refine .inl ⟨dS_mv hl4 hw9 q1, ?_, dW_to h hw he q3⟩
        rw [hw9 8 (by omega)]; exact q2
      · refine .inr ⟨dT_mv hl4 hw9 q1, q2, n, m, r1, r2, r3, r4, ?_, ?_, ?_, ?_, dW_to h (fun i hi => hw i (by omega)) (by omega) r9, dW_to h hw he r10⟩
        · rw [hw9 8 (by omega)]; exact r5
        · rw [h 4 l (by omega) (by omega) (by omega)]; exact r6
        · rw [h 1 m (by omega) (by omega) (by omega)]; exact r7
        · rw [h 4 m (by omega) (by omega) (by omega)]; exact r8
theorem r_d80 (h25 : s.1 117 25 = Int32.ofNat hi) (hh : hi ≤ 30) : l_X12_days_80 fu_N s 0 = some (cps s 1505 85 (9 * hi)) := by
  have h1 := lp_up (l := fun f σ k => l_X12_days_80 f σ (Int32.ofNat k)) (N := 9 * hi) (S := fun k => cps s 1505 85 k) (r := cps s 1505 85 (9 * hi)) (fun n k hk => by
    have m1 : 1505 + k < 1775 := by omega
    have m2 : 85 + k < 1775 := by omega
    have e0 : (cps s 1505 85 k).1 117 25 = Int32.ofNat hi := by rw [cps_n (by omega)]; exact h25
    have e1 : (cps s 1505 85 k).1 122 (1505 + k) = s.1 122 (1505 + k) := cps_o (by omega)
    have e2 := cps_s (s := s) (A := 1505) (B := 85) (n := k)
    show l_X12_days_80 (n + 1) (cps s 1505 85 k) (Int32.ofNat k) = l_X12_days_80 n (cps s 1505 85 (k + 1)) (Int32.ofNat (k + 1))
    generalize cps s 1505 85 (k + 1) = V at *
    generalize cps s 1505 85 k = U at *
    simp (maxSteps := 1000000) (disch := omega) only [ne_eq, i_lt0, i_le0, i_eq0, i_n1, i_ltl, i_lel, i_eql, i_lt, i_le, i_eq, i_in, i_tn, i_add, i_addl, i_addr, i_mul, i_mulr, i_mull, if_true, if_false, eq_self, decide_eq_true_eq, decide_true, decide_false, Option.bind_some, Option.bind_none, ↓fu_ltd, ↓reduceIte, ↓ob_ite, ↓ob_asc, Bool.false_eq_true, Bool.true_eq_false, not_true_eq_false, not_false_eq_true, Nat.not_lt_zero, Nat.le_zero_eq, Nat.reduceAdd, Nat.reduceMul, Nat.reduceSub, Nat.reduceEqDiff, Nat.reduceLT, Nat.reduceLeDiff, sC_def, sR_def, sC_1, sC_2, sR_1, sR_2, sC_st, sR_st, sR_no, sR_refuse, and_self, true_and, and_true, false_and, and_false, l_X12_days_80, e0, hk, m1, m2, e1, e2, i_add1]) (fun n => by
    have e0 : (cps s 1505 85 (9 * hi)).1 117 25 = Int32.ofNat hi := by rw [cps_n (by omega)]; exact h25
    show l_X12_days_80 (n + 1) (cps s 1505 85 (9 * hi)) (Int32.ofNat (9 * hi)) = _
    generalize cps s 1505 85 (9 * hi) = U at *
    simp (maxSteps := 1000000) (disch := omega) only [ne_eq, i_lt0, i_le0, i_eq0, i_n1, i_ltl, i_lel, i_eql, i_lt, i_le, i_eq, i_in, i_tn, i_add, i_addl, i_addr, i_mul, i_mulr, i_mull, if_true, if_false, eq_self, decide_eq_true_eq, decide_true, decide_false, Option.bind_some, Option.bind_none, ↓fu_ltd, ↓reduceIte, ↓ob_ite, ↓ob_asc, Bool.false_eq_true, Bool.true_eq_false, not_true_eq_false, not_false_eq_true, Nat.not_lt_zero, Nat.le_zero_eq, Nat.reduceAdd, Nat.reduceMul, Nat.reduceSub, Nat.reduceEqDiff, Nat.reduceLT, Nat.reduceLeDiff, sC_def, sR_def, sC_1, sC_2, sR_1, sR_2, sC_st, sR_st, sR_no, sR_refuse, and_self, true_and, and_true, false_and, and_false, l_X12_days_80, e0, Nat.lt_irrefl]) (f := fu_N) (k := 0) (by omega) (fu_N_gt (by omega))
  rw [cps_0] at h1
  exact h1
end SEQ
