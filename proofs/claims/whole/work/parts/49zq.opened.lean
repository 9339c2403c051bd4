/-! a text opened; what the reading of a text leaves -/
theorem by_all : ∀ k : Fin 256, (fun y : Int32 => ((y &&& 255).toNatClampNeg < 256 ∧ y &&& 255 = Int32.ofNat (y &&& 255).toNatClampNeg ∧ (((y &&& 255).toNatClampNeg < 128 ∧ y = Int32.ofNat (y &&& 255).toNatClampNeg) ∨ (128 ≤ (y &&& 255).toNatClampNeg ∧ y < 0)))) (Int8.ofUInt8 ⟨⟨k⟩⟩).toInt32 := by decide +kernel
theorem by_b {x : Int32} (h : fu_by x = x) : (x &&& 255).toNatClampNeg < 256 ∧ x &&& 255 = Int32.ofNat (x &&& 255).toNatClampNeg ∧ (((x &&& 255).toNatClampNeg < 128 ∧ x = Int32.ofNat (x &&& 255).toNatClampNeg) ∨ (128 ≤ (x &&& 255).toNatClampNeg ∧ x < 0)) := by
  have h' : x.toInt8.toInt32 = x := h
  rw [← h']
  generalize x.toInt8 = y
  obtain ⟨⟨⟨k⟩⟩⟩ := y
  exact by_all k
theorem wc_in : ∀ w, w < 22 → (6, w, Int64.ofNat (wc w)) ∈ ini_ll := by decide +kernel
def fZ1 (s t : fu_S) : Prop := ∀ a, ¬ (a = 5 ∨ a = 8 ∨ a = 9 ∨ a = 10 ∨ (29 ≤ a ∧ a < 51)) → t.1 a = s.1 a ∧ t.2 a = s.2 a
def fZ2 (s t : fu_S) : Prop := (∀ a, a ≠ 117 → a ≠ 122 → a ≠ 124 → t.1 a = s.1 a ∧ t.2 a = s.2 a) ∧ (∀ q, (q = 0 ∨ q = 10 ∨ q = 11 ∨ q = 23 ∨ q = 31) → t.1 117 q = s.1 117 q) ∧ (∀ i, i < 1420 → t.1 122 i = s.1 122 i) ∧ (∀ q, q ≠ 19 → t.2 117 q = s.2 117 q) ∧ ∀ i, i < 28 → t.2 124 i = s.2 124 i
section OPN
variable {s t r s1 s2 t1 t2 : fu_S} {u : Nat → Nat} {n T p q e f k i g v j m lo w P V W R a b lim : Nat} {x y : Int32} {z : Int64} {D : dD}
theorem fZ1_tr (h : fZ1 s t) (g : fZ1 t r) : fZ1 s r := fun a ha => ⟨(g a ha).1.trans (h a ha).1, (g a ha).2.trans (h a ha).2⟩
theorem fZ2_tr (h : fZ2 s t) (g : fZ2 t r) : fZ2 s r := ⟨fun a h1 h2 h3 => ⟨(g.1 a h1 h2 h3).1.trans (h.1 a h1 h2 h3).1, (g.1 a h1 h2 h3).2.trans (h.1 a h1 h2 h3).2⟩, fun q hq => (g.2.1 q hq).trans (h.2.1 q hq), fun i hi => (g.2.2.1 i hi).trans (h.2.2.1 i hi), fun q hq => (g.2.2.2.1 q hq).trans (h.2.2.2.1 q hq), fun i hi => (g.2.2.2.2 i hi).trans (h.2.2.2.2 i hi)⟩
theorem fZ1_Q (h : fQ1 s t) : fZ1 s t := fun a ha => h.1 a (by omega) (by omega) (by omega)
theorem fZ2_Q (h : fQ2 s t) : fZ2 s t := ⟨fun a h1 h2 h3 => ⟨h.1 a h1 h2, h.2.2.2.1 a h1 h3⟩, fun q hq => h.2.1 q (by omega) (by omega) (by omega), fun i hi => h.2.2.1 i (.inl hi), h.2.2.2.2.1, h.2.2.2.2.2⟩
theorem fZ2_7 (h : f7 s t) : fZ2 s t := ⟨fun a h1 _ _ => h.1 a h1, fun q hq => h.2.1 q (by omega), fun i _ => by rw [(h.1 122 (by omega)).1], h.2.2, fun i _ => by rw [(h.1 124 (by omega)).2]⟩
theorem op_ok (hW : dWd s1) (hk9 : k ≤ 900) (g1 : s1.1 5 2 = Int32.ofNat k) (g2 : s2.1 117 8 = Int32.ofNat k) (g3 : ∀ i, i < k → s1.1 7 i = s2.1 121 i ∧ fu_by (s1.1 7 i) = s1.1 7 i) (hn : n ≤ k) (hl : n ≤ lim) (hlim : lim < 2147483648) : ∃ u T t1 t2, f_X8_open s1 (Int32.ofNat n) = some t1 ∧ f_X12_starts s2 (Int32.ofNat n) (Int32.ofNat lim) = some (true, t2) ∧ OK u n T t1 t2 0 ∧ fZ1 s1 t1 ∧ fZ2 s2 t2 ∧ t2.1 117 8 = 0 := by
  obtain ⟨u, hu⟩ : ∃ u : Nat → Nat, u = fun i => (s2.1 121 i &&& 255).toNatClampNeg := ⟨_, rfl⟩
  have hb : ∀ i, i < n → u i < 256 ∧ s2.1 121 i &&& 255 = Int32.ofNat (u i) ∧ ((u i < 128 ∧ s1.1 7 i = Int32.ofNat (u i)) ∨ (128 ≤ u i ∧ s1.1 7 i < 0)) := fun i hi => by
    obtain ⟨x1, x2⟩ := g3 i (by omega)
    have := by_b x2
    rw [x1] at this ⊢
    rw [hu]
    exact this
  have hT : cT s1 u n := ⟨by omega, fun i hi => ⟨(hb i hi).1, (hb i hi).2.2⟩, fun w hw => hW.1 _ (wc_in w hw) rfl⟩
  obtain ⟨t1, T, a1, a2, a3, a4, a5, a6, a7, a8⟩ := c_open hT g1 hn hk9
  obtain ⟨X, hX⟩ : ∃ X, X = fu_pi (fu_pi (fu_pi (fu_pi s2 117 9 (Int32.ofNat n)) 117 8 0) 117 16 0) 117 12 0 := ⟨_, rfl⟩
  have xn : ∀ a, a ≠ 117 → X.1 a = s2.1 a := fun a ha => by rw [hX, p1n ha, p1n ha, p1n ha, p1n ha]
  have x2 : X.2 = s2.2 := by rw [hX]; rfl
  have xq : ∀ q, q ≠ 8 → q ≠ 9 → q ≠ 12 → q ≠ 16 → X.1 117 q = s2.1 117 q := fun q b1 b2 b3 b4 => by rw [hX, p1q b3, p1q b4, p1q b1, p1q b2]
  have x9 : X.1 117 9 = Int32.ofNat n := by rw [hX, p1q (by omega), p1q (by omega), p1q (by omega), p1]
  have x8 : X.1 117 8 = 0 := by rw [hX, p1q (by omega), p1q (by omega), p1]
  have x16 : X.1 117 16 = Int32.ofNat 0 := by rw [hX, p1q (by omega), p1]; rfl
  have x12 : X.1 117 12 = 0 := by rw [hX, p1]
  have hT2 : rT X u n := ⟨by omega, x9, fun i hi => ⟨(hb i hi).1, by rw [xn 121 (by omega)]; exact (hb i hi).2.1⟩⟩
  obtain ⟨t2, b1, b2, b3⟩ := r_advance (p := 0) hT2 (by omega) x16
  refine ⟨u, T, t1, t2, a1, ?_, ⟨a2, by omega, a3, ⟨a4, a5⟩, rT_A hT2 b3, b2, by rw [b3.2.1 12 (by omega)]; exact x12⟩, ?_, ?_, by rw [b3.2.1 8 (by omega)]; exact x8⟩
  · unfold f_X12_starts fu_lt
    rw [if_neg (fun z => (i_lt0 (by omega)).mp z), g2, if_pos ((i_le (by omega) (by omega)).mpr hn), if_pos ((i_le (by omega) (by omega)).mpr hl)]
    dsimp only
    rw [← hX, b1, Option.bind_some]
  · exact fun a ha => ⟨a6 a (by omega) (by omega) (by omega), a8 a (by omega)⟩
  · refine ⟨fun a h1 _ _ => ⟨(b3.1 a h1).1.trans (xn a h1), (b3.1 a h1).2.trans (by rw [x2])⟩, fun q hq => (b3.2.1 q (by omega)).trans (xq q (by omega) (by omega) (by omega) (by omega)), fun i _ => ?_, fun q hq => (b3.2.2 q hq).trans (by rw [x2]), fun i _ => ?_⟩
    · rw [(b3.1 122 (by omega)).1, xn 122 (by omega)]
    · rw [(b3.1 124 (by omega)).2, x2]
/-- a block emptied -/
def zrs (s : fu_S) (b k : Nat) : fu_S := (fun x r => if x = 122 ∧ 355 * b ≤ r ∧ r < 355 * b + k then 0 else s.1 x r, s.2)
theorem zrs_s : fu_pi (zrs s b k) 122 (355 * b + k) 0 = zrs s b (k + 1) := by
  refine Prod.ext ?_ rfl
  funext x r
  show (if x = 122 ∧ r = 355 * b + k then 0 else (if x = 122 ∧ 355 * b ≤ r ∧ r < 355 * b + k then 0 else s.1 x r)) = (if x = 122 ∧ 355 * b ≤ r ∧ r < 355 * b + (k + 1) then 0 else s.1 x r)
  by_cases h1 : x = 122 ∧ r = 355 * b + k
  · rw [if_pos h1, if_pos ⟨h1.1, by omega, by omega⟩]
  · rw [if_neg h1]
    by_cases h2 : x = 122 ∧ 355 * b ≤ r ∧ r < 355 * b + k
    · rw [if_pos h2, if_pos ⟨h2.1, h2.2.1, by omega⟩]
    · rw [if_neg h2, if_neg (fun z => by omega)]
theorem zrs_0 : zrs s b 0 = s := by
  refine Prod.ext ?_ rfl
  funext x r
  exact if_neg (fun z => by omega)
theorem r_emp (hb : b < 5) : ∃ t, f_X12_empties s (Int32.ofNat b) = some t ∧ (∀ a, a ≠ 122 → t.1 a = s.1 a) ∧ t.2 = s.2 ∧ (∀ i, ¬ (355 * b ≤ i ∧ i < 355 * b + 355) → t.1 122 i = s.1 122 i) ∧ ∀ i, i < 355 → t.1 122 (355 * b + i) = if i = 3 then 4 else if i = 4 then 5 else 0 := by
  have h1 := lp_up (l := fun f σ k => l_X12_empties_2 f σ (Int32.ofNat b) (Int32.ofNat k)) (N := 355) (S := fun k => zrs s b k) (r := zrs s b 355) (fun n k hk => by
    have m1 : 355 * b + k < 1775 := by omega
    have e2 := zrs_s (s := s) (b := b) (k := k)
    show l_X12_empties_2 (n + 1) (zrs s b k) (Int32.ofNat b) (Int32.ofNat k) = l_X12_empties_2 n (zrs s b (k + 1)) (Int32.ofNat b) (Int32.ofNat (k + 1))
    generalize zrs s b (k + 1) = V at *
    generalize zrs s b k = U at *
    simp (maxSteps := 1000000) (disch := omega) only [ne_eq, i_lt0, i_le0, i_eq0, i_n1, i_ltl, i_lel, i_eql, i_lt, i_le, i_eq, i_in, i_tn, i_add, i_addl, i_addr, i_mul, i_mulr, i_mull, if_true, if_false, eq_self, decide_eq_true_eq, decide_true, decide_false, Option.bind_some, Option.bind_none, ↓fu_ltd, ↓reduceIte, ↓ob_ite, ↓ob_asc, Bool.false_eq_true, Bool.true_eq_false, not_true_eq_false, not_false_eq_true, Nat.not_lt_zero, Nat.le_zero_eq, Nat.reduceAdd, Nat.reduceMul, Nat.reduceSub, Nat.reduceEqDiff, Nat.reduceLT, Nat.reduceLeDiff, sC_def, sR_def, sC_1, sC_2, sR_1, sR_2, sC_st, sR_st, sR_no, sR_refuse, and_self, true_and, and_true, false_and, and_false, l_X12_empties_2, hk, m1, e2, i_add1]) (fun n => by
    show l_X12_empties_2 (n + 1) (zrs s b 355) (Int32.ofNat b) (Int32.ofNat 355) = _
    generalize zrs s b 355 = U at *
    simp (maxSteps := 1000000) (disch := omega) only [ne_eq, i_lt0, i_le0, i_eq0, i_n1, i_ltl, i_lel, i_eql, i_lt, i_le, i_eq, i_in, i_tn, i_add, i_addl, i_addr, i_mul, i_mulr, i_mull, if_true, if_false, eq_self, decide_eq_true_eq, decide_true, decide_false, Option.bind_some, Option.bind_none, ↓fu_ltd, ↓reduceIte, ↓ob_ite, ↓ob_asc, Bool.false_eq_true, Bool.true_eq_false, not_true_eq_false, not_false_eq_true, Nat.not_lt_zero, Nat.le_zero_eq, Nat.reduceAdd, Nat.reduceMul, Nat.reduceSub, Nat.reduceEqDiff, Nat.reduceLT, Nat.reduceLeDiff, sC_def, sR_def, sC_1, sC_2, sR_1, sR_2, sC_st, sR_st, sR_no, sR_refuse, and_self, true_and, and_true, false_and, and_false, l_X12_empties_2, Nat.lt_irrefl]) (f := fu_N) (k := 0) (by omega) (fu_N_gt (by omega))
  rw [zrs_0] at h1
  have h1' : l_X12_empties_2 fu_N s (Int32.ofNat b) 0 = some (zrs s b 355) := h1
  have m3 : 355 * b + 3 < 1775 := by omega
  have m4 : 355 * b + 4 < 1775 := by omega
  have zv : ∀ i, (zrs s b 355).1 122 i = if 355 * b ≤ i ∧ i < 355 * b + 355 then 0 else s.1 122 i := fun i => by
    show (if 122 = 122 ∧ 355 * b ≤ i ∧ i < 355 * b + 355 then 0 else s.1 122 i) = _
    by_cases z : 355 * b ≤ i ∧ i < 355 * b + 355
    · rw [if_pos ⟨rfl, z⟩, if_pos z]
    · rw [if_neg (fun y => z y.2), if_neg z]
  have zn : ∀ a, a ≠ 122 → (zrs s b 355).1 a = s.1 a := fun a ha => by funext r; exact if_neg (fun z => ha z.1)
  have z2 : (zrs s b 355).2 = s.2 := rfl
  generalize zrs s b 355 = U at *
  refine ⟨fu_pi (fu_pi U 122 (355 * b + 3) 4) 122 (355 * b + 4) 5, ?_, fun a ha => by rw [p1n ha, p1n ha]; exact zn a ha, z2, fun i hi => ?_, fun i hi => ?_⟩
  · simp (maxSteps := 1000000) (disch := omega) only [ne_eq, i_lt0, i_le0, i_eq0, i_n1, i_ltl, i_lel, i_eql, i_lt, i_le, i_eq, i_in, i_tn, i_add, i_addl, i_addr, i_mul, i_mulr, i_mull, if_true, if_false, eq_self, decide_eq_true_eq, decide_true, decide_false, Option.bind_some, Option.bind_none, ↓fu_ltd, ↓reduceIte, ↓ob_ite, ↓ob_asc, Bool.false_eq_true, Bool.true_eq_false, not_true_eq_false, not_false_eq_true, Nat.not_lt_zero, Nat.le_zero_eq, Nat.reduceAdd, Nat.reduceMul, Nat.reduceSub, Nat.reduceEqDiff, Nat.reduceLT, Nat.reduceLeDiff, sC_def, sR_def, sC_1, sC_2, sR_1, sR_2, sC_st, sR_st, sR_no, sR_refuse, and_self, true_and, and_true, false_and, and_false, f_X12_empties, h1', m3, m4]
  · rw [p1q (by omega), p1q (by omega), zv, if_neg hi]
  · by_cases i4 : i = 4
    · rw [i4, p1]; rfl
    · rw [p1q (by omega)]
      by_cases i3 : i = 3
      · rw [i3, p1]; rfl
      · rw [p1q (by omega), zv, if_pos (by omega), if_neg i3, if_neg i4]
end OPN
