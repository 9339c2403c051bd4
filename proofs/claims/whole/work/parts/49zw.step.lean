/-! days: one step, with its block -/
def SO (u : Nat → Nat) (n T : Nat) (D : dD) (d i : Nat) (s1 s2 : fu_S) (lo l : Nat) (A : Option fu_S) (W : fu_S → fu_S → Nat → Nat → Nat → Prop) : Prop :=
  (∃ t1 t2 i' hi e L, (∀ f c, c ≤ i → l_X6_takeAll_14 (f + L) s1 (Int32.ofNat c) = l_X6_takeAll_14 f t1 (Int32.ofNat (c + L))) ∧ A = some t2 ∧ OK u n T t1 t2 i' ∧ i + L ≤ i' ∧ PI t1 t2 D d hi e ∧ W t1 t2 i' hi e ∧ KC s1 t1 l d ∧ KR s2 t2 (1505 + 9 * lo)) ∨
  (∃ X t2 L, L ≤ T - i + 1 ∧ (∀ f c, c ≤ i → l_X6_takeAll_14 (f + L) s1 (Int32.ofNat c) = some X) ∧ A = some t2 ∧ FL X s1 t2 ∧ KR s2 t2 1505)
def StepP (u : Nat → Nat) (n T : Nat) (D : dD) (d : Nat) : Prop := ∀ {i : Nat} {s1 s2 : fu_S} {lo l g : Nat}, OK u n T s1 s2 i → PI s1 s2 D d lo l → 4 - d ≤ g + 1 → ((d = 0 ∧ tG u n (tq u n i) ≠ 0) ∨ (1 ≤ d ∧ tG u n (tq u n i) ≠ 120)) → SO u n T D d i s1 s2 lo l (f_X12_readStep (g + 1) s2 (Int32.ofNat d)) (fun t1 t2 i' hi e => i < i' ∧ HD t1 t2 D d lo hi l e)
def SeqP (u : Nat → Nat) (n T : Nat) (D : dD) (d : Nat) : Prop := ∀ {m i : Nat} {s1 s2 : fu_S} {lo l g f2 : Nat} {x4 : Int32}, OK u n T s1 s2 i → PI s1 s2 D d lo l → 4 - d ≤ g + 1 → T - i = m → m + 1 < f2 → SO u n T D d i s1 s2 lo l (l_X12_readStep_140 (f_X12_readStep (g + 1)) f2 s2 (Int32.ofNat (d - 1)) true x4) (fun t1 t2 i' hi e => tG u n (tq u n i') = 120 ∧ lo ≤ hi ∧ l ≤ e ∧ ∀ f, hi - lo < f → dW t1 42 t2 4 D f (3 - d) lo hi l e)
section STW
variable {s t r s1 s2 t1 t2 r1 r2 a b : fu_S} {u : Nat → Nat} {n T p q e f k i g v j m l lo hi w P V W R G d c B : Nat} {x y : Int32} {z : Int64} {D : dD}
theorem dS_m8 (h : ∀ k, 1 ≤ k → k < 4 → t1.1 (42 + k) l = s1.1 (42 + k) l) (hw : ∀ i, i < 8 → t2.1 122 (w + i) = s2.1 122 (w + i)) (hd : dS s1 42 s2 w D l) : dS t1 42 t2 w D l := by
  have h0 : t2.1 122 w = s2.1 122 w := hw 0 (by omega)
  unfold dS at hd ⊢
  rw [h 1 (by omega) (by omega), h 2 (by omega) (by omega), h 3 (by omega) (by omega), h0, hw 1 (by omega), hw 2 (by omega)]
  exact hd
theorem dT_m8 (h : ∀ k, 1 ≤ k → k < 4 → t1.1 (42 + k) l = s1.1 (42 + k) l) (hw : ∀ i, i < 8 → t2.1 122 (w + i) = s2.1 122 (w + i)) (hd : dT s1 42 s2 w l) : dT t1 42 t2 w l := by
  have h0 : t2.1 122 w = s2.1 122 w := hw 0 (by omega)
  unfold dT at hd ⊢
  rw [h 1 (by omega) (by omega), h 2 (by omega) (by omega), h 3 (by omega) (by omega), h0, hw 1 (by omega), hw 5 (by omega), hw 6 (by omega), hw 7 (by omega)]
  exact hd
theorem FL_bd {X : (Bool × fu_S) ⊕ fu_S} (h : FL X s1 t2) : bd t2 := by
  rcases h with ⟨c1, h1, h2, h3⟩ | ⟨c0, c1, h1, h2, h3, h4, h5⟩
  · exact bd_BA h2
  · exact bd_BA h4
theorem FL_r {X : (Bool × fu_S) ⊕ fu_S} (h : FL X s1 t2) : FL X s1 (fu_pi t2 122 q x) := by
  rcases h with ⟨c1, h1, h2, h3⟩ | ⟨c0, c1, h1, h2, h3, h4, h5⟩
  · exact .inl ⟨c1, h1, BA_r h2, h3⟩
  · exact .inr ⟨c0, c1, h1, h2, h3, BA_r h4, h5⟩
theorem l140_f {K : fu_S → Int32 → Option fu_S} : l_X12_readStep_140 K fu_N s x false y = some s := by
  show l_X12_readStep_140 K (4095 + 1) s x false y = some s
  rw [l_X12_readStep_140, if_neg Bool.false_ne_true]
theorem l140_b {K : fu_S → Int32 → Option fu_S} {o : Bool} (h : bd s) : l_X12_readStep_140 K fu_N s x o y = some s := by
  show l_X12_readStep_140 K (4095 + 1) s x o y = some s
  rw [l_X12_readStep_140]
  cases o
  · rw [if_neg Bool.false_ne_true]
  · rw [if_pos rfl, if_neg (bd_eq h)]
/-- the end of a block, laid into the class's plan -/
theorem c_addE (h4 : s.1 42 4 = Int32.ofNat e) (hl : l < e) (he : e < 60) : ∃ t, f_X5_addEnd s 42 (Int32.ofNat l) = some t ∧ t.1 43 e = 120 ∧ t.1 46 e = Int32.ofNat l ∧ t.1 46 l = Int32.ofNat e ∧ t.1 42 4 = Int32.ofNat (e + 1) ∧ (∀ q, q ≠ 4 → t.1 42 q = s.1 42 q) ∧ (∀ a, ¬ (42 ≤ a ∧ a < 47) → t.1 a = s.1 a) ∧ t.2 = s.2 ∧ (∀ k i, 1 ≤ k → k < 5 → i ≠ e → (k = 4 → i ≠ l) → t.1 (42 + k) i = s.1 (42 + k) i) := by
  refine ⟨fu_pi (fu_pi (fu_pi (fu_pi (fu_pi (fu_pi s 43 e 120) 44 e 0) 45 e 0) 46 e (Int32.ofNat l)) 42 4 (Int32.ofNat (e + 1))) 46 l (Int32.ofNat e), ?_, ?_, ?_, ?_, ?_, ?_, ?_, rfl, ?_⟩
  · have hl60 : l < 60 := by omega
    simp (disch := omega) only [ne_eq, i_lt0, i_le0, i_eq0, i_n1, i_ltl, i_lel, i_eql, i_lt, i_le, i_eq, i_in, i_tn, i_add, i_addl, i_addr, i_mul, i_mulr, i_mull, if_true, if_false, eq_self, decide_eq_true_eq, decide_true, decide_false, Option.bind_some, Option.bind_none, fu_lt, Bool.false_eq_true, Bool.true_eq_false, not_true_eq_false, not_false_eq_true, Nat.not_lt_zero, Nat.le_zero_eq, Nat.reduceAdd, Nat.reduceMul, Nat.reduceSub, Nat.reduceEqDiff, Nat.reduceLT, Nat.reduceLeDiff, sC_def, sR_def, sC_1, sC_2, sR_1, sR_2, sC_st, sR_st, sR_no, sR_refuse, and_self, true_and, and_true, false_and, and_false, f_X5_addEnd, f_X5_addLine, h4, hl, he, hl60, p1, p1q, p1n, i_add1, i_add1s]
  · rw [p1n (by omega), p1n (by omega), p1n (by omega), p1n (by omega), p1n (by omega), p1]
  · rw [p1q (by omega), p1n (by omega), p1]
  · exact p1
  · rw [p1n (by omega), p1]
  · exact fun q hq => by rw [p1n (by omega), p1q hq, p1n (by omega), p1n (by omega), p1n (by omega), p1n (by omega)]
  · exact fun a ha => by rw [p1n (by omega), p1n (by omega), p1n (by omega), p1n (by omega), p1n (by omega), p1n (by omega)]
  · intro k i h1 h2 h3 h5
    have : k = 1 ∨ k = 2 ∨ k = 3 ∨ k = 4 := by omega
    rcases this with rfl | rfl | rfl | rfl
    · rw [p1n (by omega), p1n (by omega), p1n (by omega), p1n (by omega), p1n (by omega), p1q h3]
    · rw [p1n (by omega), p1n (by omega), p1n (by omega), p1n (by omega), p1q h3, p1n (by omega)]
    · rw [p1n (by omega), p1n (by omega), p1n (by omega), p1q h3, p1n (by omega), p1n (by omega)]
    · rw [p1q (h5 rfl), p1n (by omega), p1q h3, p1n (by omega), p1n (by omega), p1n (by omega)]
theorem sw_in (h7 : d_sw G ≠ 7) : G = 112 ∨ G = 111 ∨ G = 113 ∨ G = 114 ∨ G = 115 ∨ G = 119 ∨ G = 121 := by
  refine Classical.byContradiction fun z => h7 ?_
  unfold d_sw
  rw [if_neg (by omega), if_neg (by omega), if_neg (by omega), if_neg (by omega), if_neg (by omega), if_neg (by omega), if_neg (by omega)]
/-- no deed -/
theorem S_no (h : OK u n T s1 s2 i) (hP : PI s1 s2 D d lo l) (hc : (d = 0 ∧ tG u n (tq u n i) ≠ 0) ∨ (1 ≤ d ∧ tG u n (tq u n i) ≠ 120)) (h7 : d_sw (tG u n (tq u n i)) = 7) {W : fu_S → fu_S → Nat → Nat → Nat → Prop} : SO u n T D d i s1 s2 lo l (f_X12_readStep (g + 1) s2 (Int32.ofNat d)) W := by
  have hst := wd_step h
  rw [h7] at hst
  replace hst : f_X12_stepWord s2 = -1 := hst
  have hG := tG_lt (u := u) (n := n) (q := tq u n i)
  have e0 := OK_sort h
  obtain ⟨t1, t2, a1, a2, a3, a4, a5⟩ := L_amiss h
  have hbd := bd_BA a3
  have hr : f_X12_readStep (g + 1) s2 (Int32.ofNat d) = some t2 := by
    show fb_X12_readStep (f_X12_readStep g) s2 (Int32.ofNat d) = some t2
    unfold fb_X12_readStep
    rw [hst, if_neg (show ¬ (-1 : Int32) = 4 from by decide), if_neg (show ¬ (-1 : Int32) = 5 from by decide), Option.bind_some, if_pos (show (-1 : Int32) < 0 from by decide), a2]
    unfold fu_lt
    rw [Option.bind_some, if_neg (bd_eq hbd), Option.bind_some, if_neg (bd_eq hbd), Option.bind_some, if_neg (bd_le hbd)]
  by_cases h0 : tG u n (tq u n i) = 0
  · refine .inr ⟨.inr s1, t2, 1, by omega, fun f c _ => it_e h h0, hr, .inr ⟨s1, t1, rfl, ?_, a1, a3, KC_5 a4⟩, KR_7 a5⟩
    rw [hP.2.1.1]
    exact fun z => by have := (i_eq0 (by have := hP.2.2.2.2; omega)).mp z; omega
  · refine .inr ⟨.inl (false, t1), t2, 1, by omega, fun f c hcc => it_b1 h h0 hcc ?_, hr, .inl ⟨t1, rfl, a3, KC_5 a4⟩, KR_7 a5⟩
    unfold itJ
    by_cases h1 : tG u n (tq u n i) = 120
    · have hd : d = 0 := by omega
      rw [if_pos h1]
      unfold f_X6_takeEnd
      rw [hP.2.1.1, hd, if_pos (show Int32.ofNat 0 ≤ 0 from by decide), a1, Option.bind_some]
    · rw [if_neg h1]
      unfold f_X6_takeStep
      rw [e0, Option.bind_some, deed_ok _ hG, h7, decide_eq_false (by omega), if_neg Bool.false_ne_true, a1, Option.bind_some]
/-- a deed too much -/
theorem S_much (h : OK u n T s1 s2 i) (hP : PI s1 s2 D d lo l) (h7 : d_sw (tG u n (tq u n i)) ≠ 7) (hm : lo = 30 ∨ ((tG u n (tq u n i) = 115 ∨ tG u n (tq u n i) = 119) ∧ d = 3)) {W : fu_S → fu_S → Nat → Nat → Nat → Prop} : SO u n T D d i s1 s2 lo l (f_X12_readStep (g + 1) s2 (Int32.ofNat d)) W := by
  have hst := wd_step h
  have hG := tG_lt (u := u) (n := n) (q := tq u n i)
  have e0 := OK_sort h
  have hin := sw_in h7
  have h12 := OK_0 h
  obtain ⟨-, ⟨p48, p4, p5, p25⟩, hlo, hl, hd3⟩ := hP
  have hst' : f_X12_stepWord s2 = Int32.ofNat (d_sw (tG u n (tq u n i))) := by rw [hst]; exact if_neg h7
  have hsw : d_sw (tG u n (tq u n i)) < 7 := by
    rcases hin with z | z | z | z | z | z | z <;> rw [z] <;> decide
  have hn0 : ¬ Int32.ofNat (d_sw (tG u n (tq u n i))) < 0 := fun z => (i_lt0 (by omega)).mp z
  have ez : ∃ o, (if Int32.ofNat (d_sw (tG u n (tq u n i))) = 4 then some true else if Int32.ofNat (d_sw (tG u n (tq u n i))) = 5 then some true else some false) = some o := by
    split
    · exact ⟨_, rfl⟩
    · split
      · exact ⟨_, rfl⟩
      · exact ⟨_, rfl⟩
  by_cases h30 : lo = 30
  · subst h30
    obtain ⟨t1, t2, a1, a2, a3, a4, a5⟩ := L_fail h (k := 6) (by omega) (by omega)
    have a1' : f_X8_refuse s1 6 = some (false, t1) := a1
    have a2' : f_X12_fail s2 6 (s2.1 117 15) = t2 := a2
    have hbd := bd_BA a3
    have p30 : s2.1 117 25 = 30 := p25
    refine .inr ⟨.inl (false, t1), t2, 1, by omega, fun f c hcc => it_b1 h (by omega) hcc ?_, ?_, .inl ⟨t1, rfl, a3, KC_5 a4⟩, KR_7 a5⟩
    · unfold itJ
      rw [if_neg (by omega)]
      unfold f_X6_takeStep f_X5_steps
      rw [e0, Option.bind_some, deed_ok _ hG, decide_eq_true h7, if_pos rfl, p5, if_neg (show ¬ Int32.ofNat 30 < 30 from by decide), a1', Option.bind_some]
    · obtain ⟨o, ho⟩ := ez
      show fb_X12_readStep (f_X12_readStep g) s2 (Int32.ofNat d) = some t2
      unfold fb_X12_readStep
      rw [hst', ho, Option.bind_some, if_neg hn0, Option.bind_some, if_pos h12, if_pos p30]
      unfold fu_lt
      rw [a2', Option.bind_some, if_neg (bd_eq hbd), Option.bind_some, if_neg (bd_le hbd)]
  · obtain ⟨ho, rfl⟩ : (tG u n (tq u n i) = 115 ∨ tG u n (tq u n i) = 119) ∧ d = 3 := by
      rcases hm with hm | hm
      · exact absurd hm h30
      · exact hm
    obtain ⟨t1, t2, a1, a2, a3, a4, a5⟩ := L_fail h (k := 7) (by omega) (by omega)
    have a1' : f_X8_refuse s1 7 = some (false, t1) := a1
    have a2' : f_X12_fail s2 7 (s2.1 117 15) = t2 := a2
    have hbd := bd_BA a3
    have p30 : ¬ s2.1 117 25 = 30 := by
      rw [p25]
      exact fun z => h30 ((i_eq (b := 30) (by omega) (by omega)).mp z)
    have l30 : Int32.ofNat lo < 30 := (i_ltl (n := 30) (by omega) (show (30 : Nat) < 2147483648 by omega)).mpr (show lo < 30 by omega)
    refine .inr ⟨.inl (false, t1), t2, 1, by omega, fun f c hcc => it_b1 h (by omega) hcc ?_, ?_, .inl ⟨t1, rfl, a3, KC_5 a4⟩, KR_7 a5⟩
    · unfold itJ
      rw [if_neg (by omega)]
      unfold f_X6_takeStep f_X5_steps
      have hj : (if Int32.ofNat (tG u n (tq u n i)) = (115 : Int32) then some true else if Int32.ofNat (tG u n (tq u n i)) = (119 : Int32) then some true else some false) = some true := by
        rcases ho with z | z <;> rw [z] <;> decide
      rw [e0, Option.bind_some, deed_ok _ hG, decide_eq_true h7, if_pos rfl, p5, if_pos l30, hj, Option.bind_some, if_pos rfl, p48, if_neg (show ¬ Int32.ofNat 3 < 3 from by decide), a1', Option.bind_some]
    · have hj : (if Int32.ofNat (d_sw (tG u n (tq u n i))) = 4 then some true else if Int32.ofNat (d_sw (tG u n (tq u n i))) = 5 then some true else some false) = some true := by
        rcases ho with z | z <;> rw [z] <;> decide
      show fb_X12_readStep (f_X12_readStep g) s2 (Int32.ofNat 3) = some t2
      unfold fb_X12_readStep
      rw [hst', hj, Option.bind_some, if_neg hn0, Option.bind_some, if_pos h12, if_neg p30, Option.bind_some, if_pos h12, if_pos rfl, if_pos (show Int32.ofNat 3 = 3 from rfl)]
      unfold fu_lt
      rw [a2', Option.bind_some, if_neg (bd_le hbd)]
end STW
