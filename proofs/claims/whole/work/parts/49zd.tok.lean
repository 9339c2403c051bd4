/-! texts: tokens, in words of both -/
def c_B (x : Nat) : Bool := decide (x = 10) || decide (x = 32)
def c_L (x : Nat) : Bool := decide (97 ≤ x) && decide (x ≤ 122)
def c_D (x : Nat) : Bool := decide (48 ≤ x) && decide (x ≤ 57)
def d_e (c : Nat → Bool) (u : Nat → Nat) (n : Nat) : Nat → Nat
  | 0 => n
  | k + 1 => if c (u (n - (k + 1))) = true then d_e c u n k else n - (k + 1)
/-- where a run of such bytes ends -/
def d_en (c : Nat → Bool) (u : Nat → Nat) (n p : Nat) : Nat := d_e c u n (n - p)
def wcs : List Nat := [495763, 1613, 370116, 643248, 639476, 777297172, 542723566, 277925, 19039336, 21243335, 24627848, 409189, 754996, 20520685672, 1497, 762030, 6804932, 688, 446125701, 409072, 5572, 643568]
def wc (w : Nat) : Nat := wcs.getD w 0
def d_ws (c : Nat) : Nat → Nat
  | 0 => 3
  | w + 1 => if wc w = c then 100 + w else d_ws c w
def d_cw (u : Nat → Nat) (p : Nat) : Nat → Nat
  | 0 => 0
  | m + 1 => d_cw u p m * 32 + (u (p + m) - 96)
def d_nu (u : Nat → Nat) (p : Nat) : Nat → Nat
  | 0 => 0
  | m + 1 => d_nu u p m * 10 + (u (p + m) - 48)
def d_ci (u : Nat → Nat) (p m : Nat) : Int64 := if m ≤ 8 then Int64.ofNat (d_cw u p m) else -1
def tE (u : Nat → Nat) (n q : Nat) : Nat := if n ≤ q then n else if c_L (u q) = true then d_en c_L u n q else if c_D (u q) = true then d_en c_D u n q else q + 1
def tG (u : Nat → Nat) (n q : Nat) : Nat := if n ≤ q then 0 else if c_L (u q) = true then (if d_en c_L u n q - q ≤ 8 then d_ws (d_cw u q (d_en c_L u n q - q)) 22 else 4) else if c_D (u q) = true then (if d_en c_D u n q - q ≤ 4 then 2 else 1) else if 59 ≤ u q ∧ u q ≤ 62 then u q else 1
def tV (u : Nat → Nat) (n q : Nat) : Nat := if n ≤ q then 0 else if c_L (u q) = true then d_cw u q (d_en c_L u n q - q) else if c_D (u q) = true then d_nu u q (d_en c_D u n q - q) else 0
def rS (s : fu_S) (g v pl e : Nat) : Prop := s.1 117 15 = Int32.ofNat pl ∧ s.1 117 16 = Int32.ofNat e ∧ ((g = 0 ∧ s.1 117 14 = 0) ∨ (g = 1 ∧ s.1 117 14 = 4) ∨ (g = 2 ∧ s.1 117 14 = 2 ∧ s.1 117 17 = Int32.ofNat v ∧ v ≤ 9999) ∨ (g = 3 ∧ s.1 117 14 = 1 ∧ s.2 117 19 = Int64.ofNat v ∧ v < 2 ^ 45 ∧ (∃ m, m ≤ 8 ∧ s.1 117 18 = Int32.ofNat m) ∧ ∀ w, w < 22 → wc w ≠ v) ∨ (g = 4 ∧ s.1 117 14 = 1 ∧ s.2 117 19 = -1 ∧ ∃ m, 8 < m ∧ m ≤ 900 ∧ s.1 117 18 = Int32.ofNat m) ∨ ((59 ≤ g ∧ g ≤ 62) ∧ s.1 117 14 = 3 ∧ s.1 117 17 = Int32.ofNat g) ∨ ((100 ≤ g ∧ g < 122) ∧ s.1 117 14 = 1 ∧ s.2 117 19 = Int64.ofNat (wc (g - 100)) ∧ ∃ m, m ≤ 8 ∧ s.1 117 18 = Int32.ofNat m))
/-- the reference's text -/
def rT (s : fu_S) (u : Nat → Nat) (n : Nat) : Prop := n ≤ 900 ∧ s.1 117 9 = Int32.ofNat n ∧ ∀ i, i < n → u i < 256 ∧ s.1 121 i &&& 255 = Int32.ofNat (u i)
/-- what an advance leaves -/
def fA (s t : fu_S) : Prop := (∀ a, a ≠ 117 → t.1 a = s.1 a ∧ t.2 a = s.2 a) ∧ (∀ q, ¬ (14 ≤ q ∧ q ≤ 18) → t.1 117 q = s.1 117 q) ∧ ∀ q, q ≠ 19 → t.2 117 q = s.2 117 q
section TOK
variable {s t : fu_S} {u : Nat → Nat} {c : Nat → Bool} {n p q e f k i g v : Nat} {x : Int32}
theorem d_en_s (h : p < n) : d_en c u n p = if c (u p) = true then d_en c u n (p + 1) else p := by
  unfold d_en
  rw [show n - p = (n - (p + 1)) + 1 by omega, d_e, show n - (n - (p + 1) + 1) = p by omega]
theorem d_en_n (h : n ≤ p) : d_en c u n p = n := by
  unfold d_en
  rw [show n - p = 0 by omega]
  rfl
theorem d_en_y (h : p < n) (hc : c (u p) = true) : d_en c u n p = d_en c u n (p + 1) := by rw [d_en_s h, if_pos hc]
theorem d_en_no (h : p < n) (hc : c (u p) = false) : d_en c u n p = p := by rw [d_en_s h, hc, if_neg Bool.false_ne_true]
theorem d_en_le : ∀ {k p}, n - p = k → p ≤ n → p ≤ d_en c u n p ∧ d_en c u n p ≤ n
  | 0, p, hk, hp => by rw [d_en_n (by omega)]; omega
  | k + 1, p, hk, hp => by
    rw [d_en_s (by omega)]
    split
    · have := d_en_le (k := k) (p := p + 1) (by omega) (by omega)
      omega
    · omega
theorem d_en_bd (hp : p ≤ n) : p ≤ d_en c u n p ∧ d_en c u n p ≤ n := d_en_le rfl hp
theorem d_en_end : ∀ {k p}, n - p = k → p ≤ n → d_en c u n p < n → c (u (d_en c u n p)) = false
  | 0, p, hk, hp, h => by rw [d_en_n (by omega)] at h; omega
  | k + 1, p, hk, hp, h => by
    rw [d_en_s (by omega)] at h ⊢
    cases hc : c (u p)
    · rw [hc] at h
      rw [if_neg Bool.false_ne_true] at h ⊢
      exact hc
    · rw [hc] at h
      rw [if_pos rfl] at h ⊢
      exact d_en_end (k := k) (p := p + 1) (by omega) (by omega) h
theorem d_en_in : ∀ {k p i}, n - p = k → p ≤ n → p ≤ i → i < d_en c u n p → c (u i) = true
  | 0, p, i, hk, hp, h1, h2 => by rw [d_en_n (by omega)] at h2; omega
  | k + 1, p, i, hk, hp, h1, h2 => by
    rw [d_en_s (by omega)] at h2
    cases hc : c (u p)
    · rw [hc, if_neg Bool.false_ne_true] at h2; omega
    · rw [hc, if_pos rfl] at h2
      by_cases e : i = p
      · rw [e]; exact hc
      · exact d_en_in (k := k) (p := p + 1) (by omega) (by omega) (by omega) h2
theorem wc_pos : ∀ w, w < 22 → 0 < wc w ∧ wc w < 2 ^ 36 := by decide
theorem wc_inj : ∀ w, w < 22 → ∀ w', w' < 22 → wc w = wc w' → w = w' := by decide
theorem d_ws_ok {c : Nat} : ∀ {w}, w ≤ 22 → (d_ws c w = 3 ∧ ∀ j, j < w → wc j ≠ c) ∨ ∃ j, j < w ∧ d_ws c w = 100 + j ∧ wc j = c
  | 0, _ => .inl ⟨rfl, fun j hj => absurd hj (by omega)⟩
  | w + 1, hw => by
    rw [d_ws]
    by_cases h : wc w = c
    · rw [if_pos h]; exact .inr ⟨w, by omega, rfl, h⟩
    · rw [if_neg h]
      rcases d_ws_ok (c := c) (w := w) (by omega) with ⟨h1, h2⟩ | ⟨j, h1, h2, h3⟩
      · refine .inl ⟨h1, fun j hj => ?_⟩
        by_cases e : j = w
        · rw [e]; exact h
        · exact h2 j (by omega)
      · exact .inr ⟨j, by omega, h2, h3⟩
theorem d_cw_lt (hL : ∀ i, i < k → u (p + i) < 256 ∧ c_L (u (p + i)) = true) (hk : k ≤ 8) : d_cw u p k < 32 ^ k := by
  induction k with
  | zero => show 0 < 1; omega
  | succ k ih =>
    have h1 := ih (fun i hi => hL i (by omega)) (by omega)
    have h2 := (hL k (by omega)).2
    unfold c_L at h2
    rw [Bool.and_eq_true, decide_eq_true_eq, decide_eq_true_eq] at h2
    rw [d_cw, Nat.pow_succ]
    omega
theorem d_nu_lt (hL : ∀ i, i < k → c_D (u (p + i)) = true) : d_nu u p k < 10 ^ k := by
  induction k with
  | zero => show 0 < 1; omega
  | succ k ih =>
    have h1 := ih (fun i hi => hL i (by omega))
    have h2 := hL k (by omega)
    unfold c_D at h2
    rw [Bool.and_eq_true, decide_eq_true_eq, decide_eq_true_eq] at h2
    rw [d_nu, Nat.pow_succ]
    omega
theorem fA_rf : fA s s := ⟨fun _ _ => ⟨rfl, rfl⟩, fun _ _ => rfl, fun _ _ => rfl⟩
theorem fA_tr {r : fu_S} (h : fA s t) (g : fA t r) : fA s r := ⟨fun a ha => ⟨(g.1 a ha).1.trans (h.1 a ha).1, (g.1 a ha).2.trans (h.1 a ha).2⟩, fun q hq => (g.2.1 q hq).trans (h.2.1 q hq), fun q hq => (g.2.2 q hq).trans (h.2.2 q hq)⟩
theorem fA_q (hq : 14 ≤ q ∧ q ≤ 18) : fA s (fu_pi s 117 q x) := ⟨fun a ha => ⟨p1n ha, rfl⟩, fun r hr => p1q (by omega), fun _ _ => rfl⟩
theorem fA_l {y : Int64} : fA s (fu_pl s 117 19 y) := ⟨fun a ha => ⟨rfl, l2n ha⟩, fun _ _ => rfl, fun r hr => l2q hr⟩
theorem rT_A (h : rT s u n) (hf : fA s t) : rT t u n := ⟨h.1, (hf.2.1 9 (by omega)).trans h.2.1, fun i hi => by rw [(hf.1 121 (by omega)).1]; exact h.2.2 i hi⟩
theorem r_look (h : rT s u n) (hi : i < 2147483648) : f_X12_look2 s (Int32.ofNat i) = some (Int32.ofNat (if i < n then u i else 0)) := by
  obtain ⟨h1, h2, h3⟩ := h
  by_cases hn : i < n
  · have h9 : i < 900 := by omega
    have h4 := (h3 i hn).2
    rw [if_pos hn]
    simp (maxSteps := 1000000) (disch := omega) only [ne_eq, i_lt0, i_le0, i_eq0, i_n1, i_ltl, i_lel, i_eql, i_lt, i_le, i_eq, i_in, i_tn, i_add, i_addl, i_addr, i_mul, i_mulr, i_mull, if_true, if_false, eq_self, decide_eq_true_eq, decide_true, decide_false, Option.bind_some, Option.bind_none, ↓fu_ltd, ↓reduceIte, ↓ob_ite, ↓ob_asc, Bool.false_eq_true, Bool.true_eq_false, not_true_eq_false, not_false_eq_true, Nat.not_lt_zero, Nat.le_zero_eq, Nat.reduceAdd, Nat.reduceMul, Nat.reduceSub, Nat.reduceEqDiff, Nat.reduceLT, Nat.reduceLeDiff, sC_def, sR_def, sC_1, sC_2, sR_1, sR_2, sC_st, sR_st, sR_no, sR_refuse, and_self, true_and, and_true, false_and, and_false, f_X12_look2, h2, hn, h9, h4]
  · rw [if_neg hn]
    simp (maxSteps := 1000000) (disch := omega) only [ne_eq, i_lt0, i_le0, i_eq0, i_n1, i_ltl, i_lel, i_eql, i_lt, i_le, i_eq, i_in, i_tn, i_add, i_addl, i_addr, i_mul, i_mulr, i_mull, if_true, if_false, eq_self, decide_eq_true_eq, decide_true, decide_false, Option.bind_some, Option.bind_none, ↓fu_ltd, ↓reduceIte, ↓ob_ite, ↓ob_asc, Bool.false_eq_true, Bool.true_eq_false, not_true_eq_false, not_false_eq_true, Nat.not_lt_zero, Nat.le_zero_eq, Nat.reduceAdd, Nat.reduceMul, Nat.reduceSub, Nat.reduceEqDiff, Nat.reduceLT, Nat.reduceLeDiff, sC_def, sR_def, sC_1, sC_2, sR_1, sR_2, sC_st, sR_st, sR_no, sR_refuse, and_self, true_and, and_true, false_and, and_false, f_X12_look2, h2, hn]
    rfl
theorem r_isL (hk : k < 256) : f_X12_isLetter (Int32.ofNat k) = c_L k := by
  unfold f_X12_isLetter fu_lt c_L
  rw [show (97 : Int32) = Int32.ofNat 97 from rfl, show (122 : Int32) = Int32.ofNat 122 from rfl]
  by_cases h1 : k < 97
  · rw [if_pos ((i_lt (by omega) (by omega)).mpr h1), decide_eq_false (by omega), Bool.false_and]
  · rw [if_neg (fun z => h1 ((i_lt (by omega) (by omega)).mp z)), decide_eq_true (by omega), Bool.true_and]
    by_cases h2 : k ≤ 122
    · rw [if_pos ((i_le (by omega) (by omega)).mpr h2), decide_eq_true h2]
    · rw [if_neg (fun z => h2 ((i_le (by omega) (by omega)).mp z)), decide_eq_false h2]
theorem r_isD (hk : k < 256) : f_X12_isDigit (Int32.ofNat k) = c_D k := by
  unfold f_X12_isDigit fu_lt c_D
  rw [show (48 : Int32) = Int32.ofNat 48 from rfl, show (57 : Int32) = Int32.ofNat 57 from rfl]
  by_cases h1 : k < 48
  · rw [if_pos ((i_lt (by omega) (by omega)).mpr h1), decide_eq_false (by omega), Bool.false_and]
  · rw [if_neg (fun z => h1 ((i_lt (by omega) (by omega)).mp z)), decide_eq_true (by omega), Bool.true_and]
    by_cases h2 : k ≤ 57
    · rw [if_pos ((i_le (by omega) (by omega)).mpr h2), decide_eq_true h2]
    · rw [if_neg (fun z => h2 ((i_le (by omega) (by omega)).mp z)), decide_eq_false h2]
theorem pin_id {a q : Nat} (h : s.1 a q = x) : fu_pi s a q x = s := by
  refine Prod.ext ?_ rfl
  funext b r
  show (if b = a ∧ r = q then x else s.1 b r) = s.1 b r
  by_cases e : b = a ∧ r = q
  · rw [if_pos e, e.1, e.2, h]
  · rw [if_neg e]
theorem pln_id {a q : Nat} {y : Int64} (h : s.2 a q = y) : fu_pl s a q y = s := by
  refine Prod.ext rfl ?_
  funext b r
  show (if b = a ∧ r = q then y else s.2 b r) = s.2 b r
  by_cases e : b = a ∧ r = q
  · rw [if_pos e, e.1, e.2, h]
  · rw [if_neg e]
/-- blanks are gone by -/
theorem r_adv8 : ∀ {k p s f}, rT s u n → n - p = k → p ≤ n → k < f → s.1 117 15 = Int32.ofNat p → l_X12_advance_8 f s = some (fu_pi s 117 15 (Int32.ofNat (d_en c_B u n p)))
  | k, p, s, 0, _, _, _, hf, _ => absurd hf (by omega)
  | 0, p, s, f + 1, hT, hk, hp, hf, h15 => by
    have h9 := hT.2.1
    have hn := hT.1
    have hpn : ¬ p < n := by omega
    rw [d_en_n (by omega), pin_id (by rw [h15, show p = n by omega])]
    simp (maxSteps := 1000000) (disch := omega) only [ne_eq, i_lt0, i_le0, i_eq0, i_n1, i_ltl, i_lel, i_eql, i_lt, i_le, i_eq, i_in, i_tn, i_add, i_addl, i_addr, i_mul, i_mulr, i_mull, if_true, if_false, eq_self, decide_eq_true_eq, decide_true, decide_false, Option.bind_some, Option.bind_none, ↓fu_ltd, ↓reduceIte, ↓ob_ite, ↓ob_asc, Bool.false_eq_true, Bool.true_eq_false, not_true_eq_false, not_false_eq_true, Nat.not_lt_zero, Nat.le_zero_eq, Nat.reduceAdd, Nat.reduceMul, Nat.reduceSub, Nat.reduceEqDiff, Nat.reduceLT, Nat.reduceLeDiff, sC_def, sR_def, sC_1, sC_2, sR_1, sR_2, sC_st, sR_st, sR_no, sR_refuse, and_self, true_and, and_true, false_and, and_false, l_X12_advance_8, h15, h9, hpn]
  | k + 1, p, s, f + 1, hT, hk, hp, hf, h15 => by
    have h9 := hT.2.1
    have hn := hT.1
    have hpn : p < n := by omega
    have hu := (hT.2.2 p hpn).1
    have hl := r_look hT (i := p) (by omega)
    rw [if_pos hpn] at hl
    have ih := r_adv8 (k := k) (p := p + 1) (s := fu_pi s 117 15 (Int32.ofNat (p + 1))) (f := f) (rT_A hT (fA_q (by omega))) (by omega) (by omega) (by omega) p1
    rw [pp] at ih
    by_cases h1 : u p = 10
    · rw [d_en_y hpn (by unfold c_B; rw [h1]; rfl), ← ih]
      simp (maxSteps := 1000000) (disch := omega) only [ne_eq, i_lt0, i_le0, i_eq0, i_n1, i_ltl, i_lel, i_eql, i_lt, i_le, i_eq, i_in, i_tn, i_add, i_addl, i_addr, i_mul, i_mulr, i_mull, if_true, if_false, eq_self, decide_eq_true_eq, decide_true, decide_false, Option.bind_some, Option.bind_none, ↓fu_ltd, ↓reduceIte, ↓ob_ite, ↓ob_asc, Bool.false_eq_true, Bool.true_eq_false, not_true_eq_false, not_false_eq_true, Nat.not_lt_zero, Nat.le_zero_eq, Nat.reduceAdd, Nat.reduceMul, Nat.reduceSub, Nat.reduceEqDiff, Nat.reduceLT, Nat.reduceLeDiff, sC_def, sR_def, sC_1, sC_2, sR_1, sR_2, sC_st, sR_st, sR_no, sR_refuse, and_self, true_and, and_true, false_and, and_false, l_X12_advance_8, h15, h9, hpn, hl, h1, i_add1]
    · by_cases h2 : u p = 32
      · rw [d_en_y hpn (by unfold c_B; rw [h2]; rfl), ← ih]
        simp (maxSteps := 1000000) (disch := omega) only [ne_eq, i_lt0, i_le0, i_eq0, i_n1, i_ltl, i_lel, i_eql, i_lt, i_le, i_eq, i_in, i_tn, i_add, i_addl, i_addr, i_mul, i_mulr, i_mull, if_true, if_false, eq_self, decide_eq_true_eq, decide_true, decide_false, Option.bind_some, Option.bind_none, ↓fu_ltd, ↓reduceIte, ↓ob_ite, ↓ob_asc, Bool.false_eq_true, Bool.true_eq_false, not_true_eq_false, not_false_eq_true, Nat.not_lt_zero, Nat.le_zero_eq, Nat.reduceAdd, Nat.reduceMul, Nat.reduceSub, Nat.reduceEqDiff, Nat.reduceLT, Nat.reduceLeDiff, sC_def, sR_def, sC_1, sC_2, sR_1, sR_2, sC_st, sR_st, sR_no, sR_refuse, and_self, true_and, and_true, false_and, and_false, l_X12_advance_8, h15, h9, hpn, hl, h1, h2, i_add1]
      · rw [d_en_no hpn (by unfold c_B; rw [decide_eq_false h1, decide_eq_false h2]; rfl), pin_id h15]
        simp (maxSteps := 1000000) (disch := omega) only [ne_eq, i_lt0, i_le0, i_eq0, i_n1, i_ltl, i_lel, i_eql, i_lt, i_le, i_eq, i_in, i_tn, i_add, i_addl, i_addr, i_mul, i_mulr, i_mull, if_true, if_false, eq_self, decide_eq_true_eq, decide_true, decide_false, Option.bind_some, Option.bind_none, ↓fu_ltd, ↓reduceIte, ↓ob_ite, ↓ob_asc, Bool.false_eq_true, Bool.true_eq_false, not_true_eq_false, not_false_eq_true, Nat.not_lt_zero, Nat.le_zero_eq, Nat.reduceAdd, Nat.reduceMul, Nat.reduceSub, Nat.reduceEqDiff, Nat.reduceLT, Nat.reduceLeDiff, sC_def, sR_def, sC_1, sC_2, sR_1, sR_2, sC_st, sR_st, sR_no, sR_refuse, and_self, true_and, and_true, false_and, and_false, l_X12_advance_8, h15, h9, hpn, hl, h1, h2, i_add1]
theorem cw_step (hm : k ≤ 8) (h : c_L (u (q + k)) = true) (hu : u (q + k) < 256) : (Int64.ofNat (d_cw u q k) * 32 + Int32.toInt64 (Int32.ofNat (u (q + k)))) - 96 = Int64.ofNat (d_cw u q (k + 1)) := by
  unfold c_L at h
  rw [Bool.and_eq_true, decide_eq_true_eq, decide_eq_true_eq] at h
  rw [j_of (by omega), show (32 : Int64) = Int64.ofNat 32 from rfl, j_mul, j_add, show (96 : Int64) = Int64.ofNat 96 from rfl, j_sub (by omega), d_cw]
  congr 1
  omega
theorem r_adv109 : ∀ {k i s f}, rT s u n → n - i = k → i ≤ n → q ≤ i → k < f → s.1 117 15 = Int32.ofNat q → s.1 117 16 = Int32.ofNat i → s.2 117 19 = d_ci u q (i - q) → l_X12_advance_109 f s = some (fu_pi (fu_pl s 117 19 (d_ci u q (d_en c_L u n i - q))) 117 16 (Int32.ofNat (d_en c_L u n i)))
  | k, i, s, 0, _, _, _, _, hf, _, _, _ => absurd hf (by omega)
  | 0, i, s, f + 1, hT, hk, hi, hq, hf, h15, h16, h19 => by
    have hn := hT.1
    have hl := r_look hT (i := i) (by omega)
    rw [if_neg (by omega)] at hl
    have hc : f_X12_isLetter (Int32.ofNat 0) = false := (r_isL (by omega)).trans (by decide)
    rw [d_en_n (by omega), show n = i by omega, pln_id h19, pin_id h16]
    simp (maxSteps := 1000000) (disch := omega) only [ne_eq, i_lt0, i_le0, i_eq0, i_n1, i_ltl, i_lel, i_eql, i_lt, i_le, i_eq, i_in, i_tn, i_add, i_addl, i_addr, i_mul, i_mulr, i_mull, if_true, if_false, eq_self, decide_eq_true_eq, decide_true, decide_false, Option.bind_some, Option.bind_none, ↓fu_ltd, ↓reduceIte, ↓ob_ite, ↓ob_asc, Bool.false_eq_true, Bool.true_eq_false, not_true_eq_false, not_false_eq_true, Nat.not_lt_zero, Nat.le_zero_eq, Nat.reduceAdd, Nat.reduceMul, Nat.reduceSub, Nat.reduceEqDiff, Nat.reduceLT, Nat.reduceLeDiff, sC_def, sR_def, sC_1, sC_2, sR_1, sR_2, sC_st, sR_st, sR_no, sR_refuse, and_self, true_and, and_true, false_and, and_false, l_X12_advance_109, h16, hl, hc]
  | k + 1, i, s, f + 1, hT, hk, hi, hq, hf, h15, h16, h19 => by
    have hn := hT.1
    have hin : i < n := by omega
    have hu := (hT.2.2 i hin).1
    have hl := r_look hT (i := i) (by omega)
    rw [if_pos hin] at hl
    have hc := r_isL hu
    cases hz : c_L (u i)
    · rw [hz] at hc
      rw [d_en_no hin hz, pln_id h19, pin_id h16]
      simp (maxSteps := 1000000) (disch := omega) only [ne_eq, i_lt0, i_le0, i_eq0, i_n1, i_ltl, i_lel, i_eql, i_lt, i_le, i_eq, i_in, i_tn, i_add, i_addl, i_addr, i_mul, i_mulr, i_mull, if_true, if_false, eq_self, decide_eq_true_eq, decide_true, decide_false, Option.bind_some, Option.bind_none, ↓fu_ltd, ↓reduceIte, ↓ob_ite, ↓ob_asc, Bool.false_eq_true, Bool.true_eq_false, not_true_eq_false, not_false_eq_true, Nat.not_lt_zero, Nat.le_zero_eq, Nat.reduceAdd, Nat.reduceMul, Nat.reduceSub, Nat.reduceEqDiff, Nat.reduceLT, Nat.reduceLeDiff, sC_def, sR_def, sC_1, sC_2, sR_1, sR_2, sC_st, sR_st, sR_no, sR_refuse, and_self, true_and, and_true, false_and, and_false, l_X12_advance_109, h16, hl, hc]
    · rw [hz] at hc
      have ih := r_adv109 (k := k) (i := i + 1) (s := fu_pi (fu_pl s 117 19 (d_ci u q (i + 1 - q))) 117 16 (Int32.ofNat (i + 1))) (f := f) (rT_A hT (fA_tr fA_l (fA_q (by omega)))) (by omega) (by omega) (by omega) (by omega) (by rw [p1q (by omega)]; exact h15) p1 (by rw [p2, l2])
      have e1 : fu_pi (fu_pl (fu_pi (fu_pl s 117 19 (d_ci u q (i + 1 - q))) 117 16 (Int32.ofNat (i + 1))) 117 19 (d_ci u q (d_en c_L u n (i + 1) - q))) 117 16 (Int32.ofNat (d_en c_L u n (i + 1))) = fu_pi (fu_pl s 117 19 (d_ci u q (d_en c_L u n (i + 1) - q))) 117 16 (Int32.ofNat (d_en c_L u n (i + 1))) := by
        refine Prod.ext ?_ ?_
        · funext b r
          show (if b = 117 ∧ r = 16 then _ else (if b = 117 ∧ r = 16 then _ else s.1 b r)) = if b = 117 ∧ r = 16 then _ else s.1 b r
          by_cases e : b = 117 ∧ r = 16
          · rw [if_pos e, if_pos e]
          · rw [if_neg e, if_neg e, if_neg e]
        · funext b r
          show (if b = 117 ∧ r = 19 then _ else (if b = 117 ∧ r = 19 then _ else s.2 b r)) = if b = 117 ∧ r = 19 then _ else s.2 b r
          by_cases e : b = 117 ∧ r = 19
          · rw [if_pos e, if_pos e]
          · rw [if_neg e, if_neg e, if_neg e]
      rw [e1] at ih
      rw [d_en_y hin hz, ← ih]
      have hsub : Int32.ofNat i - Int32.ofNat q = Int32.ofNat (i - q) := i_sub hq
      by_cases h8 : i - q < 8
      · have e2 : d_ci u q (i + 1 - q) = Int64.ofNat (d_cw u q (i - q + 1)) := by
          unfold d_ci
          rw [if_pos (by omega), show i + 1 - q = i - q + 1 by omega]
        have e3 := cw_step (u := u) (q := q) (k := i - q) (by omega) (by rw [show q + (i - q) = i by omega]; exact hz) (by rw [show q + (i - q) = i by omega]; exact hu)
        rw [show q + (i - q) = i by omega] at e3
        have e4 : s.2 117 19 = Int64.ofNat (d_cw u q (i - q)) := by rw [h19]; exact if_pos (by omega)
        rw [e2]
        generalize d_cw u q (i - q + 1) = Z at *
        simp (maxSteps := 1000000) (disch := omega) only [ne_eq, i_lt0, i_le0, i_eq0, i_n1, i_ltl, i_lel, i_eql, i_lt, i_le, i_eq, i_in, i_tn, i_add, i_addl, i_addr, i_mul, i_mulr, i_mull, if_true, if_false, eq_self, decide_eq_true_eq, decide_true, decide_false, Option.bind_some, Option.bind_none, ↓fu_ltd, ↓reduceIte, ↓ob_ite, ↓ob_asc, Bool.false_eq_true, Bool.true_eq_false, not_true_eq_false, not_false_eq_true, Nat.not_lt_zero, Nat.le_zero_eq, Nat.reduceAdd, Nat.reduceMul, Nat.reduceSub, Nat.reduceEqDiff, Nat.reduceLT, Nat.reduceLeDiff, sC_def, sR_def, sC_1, sC_2, sR_1, sR_2, sC_st, sR_st, sR_no, sR_refuse, and_self, true_and, and_true, false_and, and_false, l_X12_advance_109, h16, h15, hl, hc, hsub, h8, e4, e3, l1, i_add1]
      · have e2 : d_ci u q (i + 1 - q) = -1 := if_neg (by omega)
        rw [e2]
        simp (maxSteps := 1000000) (disch := omega) only [ne_eq, i_lt0, i_le0, i_eq0, i_n1, i_ltl, i_lel, i_eql, i_lt, i_le, i_eq, i_in, i_tn, i_add, i_addl, i_addr, i_mul, i_mulr, i_mull, if_true, if_false, eq_self, decide_eq_true_eq, decide_true, decide_false, Option.bind_some, Option.bind_none, ↓fu_ltd, ↓reduceIte, ↓ob_ite, ↓ob_asc, Bool.false_eq_true, Bool.true_eq_false, not_true_eq_false, not_false_eq_true, Nat.not_lt_zero, Nat.le_zero_eq, Nat.reduceAdd, Nat.reduceMul, Nat.reduceSub, Nat.reduceEqDiff, Nat.reduceLT, Nat.reduceLeDiff, sC_def, sR_def, sC_1, sC_2, sR_1, sR_2, sC_st, sR_st, sR_no, sR_refuse, and_self, true_and, and_true, false_and, and_false, l_X12_advance_109, h16, h15, hl, hc, hsub, h8, l1, i_add1]
theorem nu_step (hm : k ≤ 8) (h : c_D (u (q + k)) = true) : Int32.ofNat (10 * d_nu u q k + u (q + k)) - 48 = Int32.ofNat (d_nu u q (k + 1)) := by
  unfold c_D at h
  rw [Bool.and_eq_true, decide_eq_true_eq, decide_eq_true_eq] at h
  rw [show (48 : Int32) = Int32.ofNat 48 from rfl, i_sub (by omega), d_nu]
  congr 1
  omega
theorem r_adv210 : ∀ {k i s f}, rT s u n → n - i = k → i ≤ n → q ≤ i → k < f → s.1 117 15 = Int32.ofNat q → s.1 117 16 = Int32.ofNat i → s.1 117 17 = Int32.ofNat (d_nu u q (min (i - q) 4)) → l_X12_advance_210 f s = some (fu_pi (fu_pi s 117 17 (Int32.ofNat (d_nu u q (min (d_en c_D u n i - q) 4)))) 117 16 (Int32.ofNat (d_en c_D u n i)))
  | k, i, s, 0, _, _, _, _, hf, _, _, _ => absurd hf (by omega)
  | 0, i, s, f + 1, hT, hk, hi, hq, hf, h15, h16, h17 => by
    have hn := hT.1
    have hl := r_look hT (i := i) (by omega)
    rw [if_neg (by omega)] at hl
    have hc : f_X12_isDigit (Int32.ofNat 0) = false := (r_isD (by omega)).trans (by decide)
    rw [d_en_n (by omega), show n = i by omega, pin_id h17, pin_id h16]
    simp (maxSteps := 1000000) (disch := omega) only [ne_eq, i_lt0, i_le0, i_eq0, i_n1, i_ltl, i_lel, i_eql, i_lt, i_le, i_eq, i_in, i_tn, i_add, i_addl, i_addr, i_mul, i_mulr, i_mull, if_true, if_false, eq_self, decide_eq_true_eq, decide_true, decide_false, Option.bind_some, Option.bind_none, ↓fu_ltd, ↓reduceIte, ↓ob_ite, ↓ob_asc, Bool.false_eq_true, Bool.true_eq_false, not_true_eq_false, not_false_eq_true, Nat.not_lt_zero, Nat.le_zero_eq, Nat.reduceAdd, Nat.reduceMul, Nat.reduceSub, Nat.reduceEqDiff, Nat.reduceLT, Nat.reduceLeDiff, sC_def, sR_def, sC_1, sC_2, sR_1, sR_2, sC_st, sR_st, sR_no, sR_refuse, and_self, true_and, and_true, false_and, and_false, l_X12_advance_210, h16, hl, hc]
  | k + 1, i, s, f + 1, hT, hk, hi, hq, hf, h15, h16, h17 => by
    have hn := hT.1
    have hin : i < n := by omega
    have hu := (hT.2.2 i hin).1
    have hl := r_look hT (i := i) (by omega)
    rw [if_pos hin] at hl
    have hc := r_isD hu
    cases hz : c_D (u i)
    · rw [hz] at hc
      rw [d_en_no hin hz, pin_id h17, pin_id h16]
      simp (maxSteps := 1000000) (disch := omega) only [ne_eq, i_lt0, i_le0, i_eq0, i_n1, i_ltl, i_lel, i_eql, i_lt, i_le, i_eq, i_in, i_tn, i_add, i_addl, i_addr, i_mul, i_mulr, i_mull, if_true, if_false, eq_self, decide_eq_true_eq, decide_true, decide_false, Option.bind_some, Option.bind_none, ↓fu_ltd, ↓reduceIte, ↓ob_ite, ↓ob_asc, Bool.false_eq_true, Bool.true_eq_false, not_true_eq_false, not_false_eq_true, Nat.not_lt_zero, Nat.le_zero_eq, Nat.reduceAdd, Nat.reduceMul, Nat.reduceSub, Nat.reduceEqDiff, Nat.reduceLT, Nat.reduceLeDiff, sC_def, sR_def, sC_1, sC_2, sR_1, sR_2, sC_st, sR_st, sR_no, sR_refuse, and_self, true_and, and_true, false_and, and_false, l_X12_advance_210, h16, hl, hc]
    · rw [hz] at hc
      have ih := r_adv210 (k := k) (i := i + 1) (s := fu_pi (fu_pi s 117 17 (Int32.ofNat (d_nu u q (min (i + 1 - q) 4)))) 117 16 (Int32.ofNat (i + 1))) (f := f) (rT_A hT (fA_tr (fA_q (by omega)) (fA_q (by omega)))) (by omega) (by omega) (by omega) (by omega) (by rw [p1q (by omega), p1q (by omega)]; exact h15) p1 (by rw [p1q (by omega), p1])
      have e1 : ∀ A B C E, fu_pi (fu_pi (fu_pi (fu_pi s 117 17 A) 117 16 B) 117 17 C) 117 16 E = fu_pi (fu_pi s 117 17 C) 117 16 E := fun A B C E => by
        refine Prod.ext ?_ rfl
        funext b r
        show (if b = 117 ∧ r = 16 then E else (if b = 117 ∧ r = 17 then C else (if b = 117 ∧ r = 16 then B else (if b = 117 ∧ r = 17 then A else s.1 b r)))) = if b = 117 ∧ r = 16 then E else (if b = 117 ∧ r = 17 then C else s.1 b r)
        by_cases e : b = 117 ∧ r = 16
        · rw [if_pos e, if_pos e]
        · rw [if_neg e, if_neg e, if_neg e]
          by_cases e' : b = 117 ∧ r = 17
          · rw [if_pos e', if_pos e']
          · rw [if_neg e', if_neg e', if_neg e']
      rw [e1] at ih
      rw [d_en_y hin hz, ← ih]
      have hsub : Int32.ofNat i - Int32.ofNat q = Int32.ofNat (i - q) := i_sub hq
      by_cases h8 : i - q < 4
      · have e3 := nu_step (u := u) (q := q) (k := i - q) (by omega) (by rw [show q + (i - q) = i by omega]; exact hz)
        rw [show q + (i - q) = i by omega] at e3
        rw [show min (i - q) 4 = i - q by omega] at h17
        rw [show min (i + 1 - q) 4 = i - q + 1 by omega]
        have e5 : ∀ y, (fu_pi s 117 17 y).1 117 16 = Int32.ofNat i := fun y => by rw [p1q (by omega)]; exact h16
        generalize d_nu u q (i - q + 1) = Z at *
        simp (maxSteps := 1000000) (disch := omega) only [ne_eq, i_lt0, i_le0, i_eq0, i_n1, i_ltl, i_lel, i_eql, i_lt, i_le, i_eq, i_in, i_tn, i_add, i_addl, i_addr, i_mul, i_mulr, i_mull, if_true, if_false, eq_self, decide_eq_true_eq, decide_true, decide_false, Option.bind_some, Option.bind_none, ↓fu_ltd, ↓reduceIte, ↓ob_ite, ↓ob_asc, Bool.false_eq_true, Bool.true_eq_false, not_true_eq_false, not_false_eq_true, Nat.not_lt_zero, Nat.le_zero_eq, Nat.reduceAdd, Nat.reduceMul, Nat.reduceSub, Nat.reduceEqDiff, Nat.reduceLT, Nat.reduceLeDiff, sC_def, sR_def, sC_1, sC_2, sR_1, sR_2, sC_st, sR_st, sR_no, sR_refuse, and_self, true_and, and_true, false_and, and_false, l_X12_advance_210, h16, h15, hl, hc, hsub, h8, h17, e3, e5, i_add1]
      · have e5 : fu_pi s 117 17 (Int32.ofNat (d_nu u q (min (i + 1 - q) 4))) = s := pin_id (by rw [h17, show min (i - q) 4 = min (i + 1 - q) 4 by omega])
        rw [e5]
        simp (maxSteps := 1000000) (disch := omega) only [ne_eq, i_lt0, i_le0, i_eq0, i_n1, i_ltl, i_lel, i_eql, i_lt, i_le, i_eq, i_in, i_tn, i_add, i_addl, i_addr, i_mul, i_mulr, i_mull, if_true, if_false, eq_self, decide_eq_true_eq, decide_true, decide_false, Option.bind_some, Option.bind_none, ↓fu_ltd, ↓reduceIte, ↓ob_ite, ↓ob_asc, Bool.false_eq_true, Bool.true_eq_false, not_true_eq_false, not_false_eq_true, Nat.not_lt_zero, Nat.le_zero_eq, Nat.reduceAdd, Nat.reduceMul, Nat.reduceSub, Nat.reduceEqDiff, Nat.reduceLT, Nat.reduceLeDiff, sC_def, sR_def, sC_1, sC_2, sR_1, sR_2, sC_st, sR_st, sR_no, sR_refuse, and_self, true_and, and_true, false_and, and_false, l_X12_advance_210, h16, h15, hl, hc, hsub, h8, i_add1]
end TOK
