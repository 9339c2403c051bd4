/-! days: a line of the plan, a step's nine cells -/
def kC (s t : fu_S) (l : Nat) : Prop := (∀ a, a ≠ 5 → ¬ (42 ≤ a ∧ a < 47) → t.1 a = s.1 a) ∧ t.2 = s.2 ∧ t.1 42 6 = s.1 42 6 ∧ ∀ k i, 1 ≤ k → k < 5 → i ≠ l → t.1 (42 + k) i = s.1 (42 + k) i
def kR (s t : fu_S) (w : Nat) : Prop := (∀ a, a ≠ 117 → a ≠ 122 → t.1 a = s.1 a) ∧ (∀ a, a ≠ 117 → t.2 a = s.2 a) ∧ (∀ q, ¬ (12 ≤ q ∧ q ≤ 18) → t.1 117 q = s.1 117 q) ∧ (∀ q, q ≠ 19 → t.2 117 q = s.2 117 q) ∧ ∀ i, (i ≤ w ∨ w + 8 ≤ i) → t.1 122 i = s.1 122 i
def adS (s : fu_S) (l m : Nat) (a b c : Int32) : fu_S := fu_pi (fu_pi (fu_pi (fu_pi (fu_pi (fu_pi s 43 l a) 44 l b) 45 l c) 46 l (-1)) 42 4 (Int32.ofNat (l + 1))) 42 5 (Int32.ofNat (m + 1))
section PLN
variable {s t r s1 s2 t1 t2 : fu_S} {u : Nat → Nat} {n T p q e f k i g v j m l lo w P V W R G : Nat} {x y a b c : Int32} {z : Int64} {D : dD}
theorem kC_tr (h : kC s t l) (g : kC t r l) : kC s r l := ⟨fun a h1 h2 => (g.1 a h1 h2).trans (h.1 a h1 h2), g.2.1.trans h.2.1, g.2.2.1.trans h.2.2.1, fun k i h1 h2 h3 => (g.2.2.2 k i h1 h2 h3).trans (h.2.2.2 k i h1 h2 h3)⟩
theorem kR_tr (h : kR s t w) (g : kR t r w) : kR s r w := ⟨fun a h1 h2 => (g.1 a h1 h2).trans (h.1 a h1 h2), fun a h1 => (g.2.1 a h1).trans (h.2.1 a h1), fun q hq => (g.2.2.1 q hq).trans (h.2.2.1 q hq), fun q hq => (g.2.2.2.1 q hq).trans (h.2.2.2.1 q hq), fun i hi => (g.2.2.2.2 i hi).trans (h.2.2.2.2 i hi)⟩
theorem kC_rf : kC s s l := ⟨fun _ _ _ => rfl, rfl, rfl, fun _ _ _ _ _ => rfl⟩
theorem kR_rf : kR s s w := ⟨fun _ _ _ => rfl, fun _ _ => rfl, fun _ _ => rfl, fun _ _ => rfl, fun _ _ => rfl⟩
theorem kC_5 (h : f5 s t) : kC s t l := ⟨fun a h1 _ => h.1 a h1, h.2.1, by rw [h.1 42 (by omega)], fun k i _ _ _ => by rw [h.1 (42 + k) (by omega)]⟩
theorem kR_7 (h : f7 s t) : kR s t w := ⟨fun a h1 _ => (h.1 a h1).1, fun a h1 => (h.1 a h1).2, h.2.1, h.2.2, fun i _ => by rw [(h.1 122 (by omega)).1]⟩
theorem kR_pi (h : w < q ∧ q < w + 8) : kR s (fu_pi s 122 q x) w := ⟨fun a _ h2 => p1n h2, fun _ _ => rfl, fun q _ => by rw [p1n (by omega)], fun _ _ => rfl, fun i hi => p1q (by omega)⟩
theorem c_adS (h4 : s.1 42 4 = Int32.ofNat l) (h5 : s.1 42 5 = Int32.ofNat m) (hl : l < 60) : f_X5_addStep s 42 a b c = some (adS s l m a b c) := by
  unfold adS
  simp (disch := omega) only [ne_eq, i_lt0, i_le0, i_eq0, i_n1, i_ltl, i_lel, i_eql, i_lt, i_le, i_eq, i_in, i_tn, i_add, i_addl, i_addr, i_mul, i_mulr, i_mull, if_true, if_false, eq_self, decide_eq_true_eq, decide_true, decide_false, Option.bind_some, Option.bind_none, fu_lt, Bool.false_eq_true, Bool.true_eq_false, not_true_eq_false, not_false_eq_true, Nat.not_lt_zero, Nat.le_zero_eq, Nat.reduceAdd, Nat.reduceMul, Nat.reduceSub, Nat.reduceEqDiff, Nat.reduceLT, Nat.reduceLeDiff, sC_def, sR_def, sC_1, sC_2, sR_1, sR_2, sC_st, sR_st, sR_no, sR_refuse, and_self, true_and, and_true, false_and, and_false, f_X5_addStep, f_X5_addLine, h4, h5, hl, p1, p1q, p1n, i_add1, i_add1s]
theorem kC_ad : kC s (adS s l m a b c) l := by
  unfold adS
  refine ⟨fun d _ h2 => by rw [p1n (by omega), p1n (by omega), p1n (by omega), p1n (by omega), p1n (by omega), p1n (by omega)], rfl, by rw [p1q (by omega), p1q (by omega), p1n (by omega), p1n (by omega), p1n (by omega), p1n (by omega)], fun k i h1 h2 hi => ?_⟩
  rw [p1n (by omega), p1n (by omega), p1q hi, p1q hi, p1q hi, p1q hi]
theorem ad1 : (adS s l m a b c).1 43 l = a := by unfold adS; rw [p1n (by omega), p1n (by omega), p1n (by omega), p1n (by omega), p1n (by omega), p1]
theorem ad2 : (adS s l m a b c).1 44 l = b := by unfold adS; rw [p1n (by omega), p1n (by omega), p1n (by omega), p1n (by omega), p1]
theorem ad3 : (adS s l m a b c).1 45 l = c := by unfold adS; rw [p1n (by omega), p1n (by omega), p1n (by omega), p1]
theorem ad4 : (adS s l m a b c).1 42 4 = Int32.ofNat (l + 1) := by unfold adS; rw [p1q (by omega), p1]
theorem ad5 : (adS s l m a b c).1 42 5 = Int32.ofNat (m + 1) := by unfold adS; exact p1
theorem adn {d : Nat} (h : ¬ (42 ≤ d ∧ d < 47)) : (adS s l m a b c).1 d = s.1 d := by unfold adS; rw [p1n (by omega), p1n (by omega), p1n (by omega), p1n (by omega), p1n (by omega), p1n (by omega)]
theorem OK_ad (h : OK u n T s1 s2 i) : OK u n T (adS s1 l m a b c) s2 i := OK_w h (adn (by omega)) (adn (by omega)) (adn (by omega)) rfl rfl rfl rfl
theorem BA_w (h : BA s1 s2) (h5 : t1.1 5 = s1.1 5) (h7 : t2.1 117 = s2.1 117) : BA t1 t2 := by
  obtain ⟨f, pl, k1, k2, k3, k4, k5, k6⟩ := h
  exact ⟨f, pl, k1, k2, by rw [h5]; exact k3, by rw [h5]; exact k4, by rw [h7]; exact k5, by rw [h7]; exact k6⟩
theorem BA_ad (h : BA s1 s2) : BA (adS s1 l m a b c) s2 := BA_w h (adn (by omega)) rfl
theorem BA_r (h : BA s1 s2) : BA s1 (fu_pi s2 122 q x) := BA_w h rfl (p1n (by omega))
theorem OK_r2 (h : OK u n T s1 s2 i) : OK u n T s1 (fu_pi s2 122 q x) i := OK_r h (.inl (by omega))
theorem wq (h : w + j < 1775) : am_in (Int32.ofNat w + Int32.ofNat j) 1775 = true ∧ (Int32.ofNat w + Int32.ofNat j).toNatClampNeg = w + j := by
  rw [i_add]
  exact ⟨by rw [i_in (by omega)]; exact decide_eq_true h, i_tn (by omega)⟩
theorem L_mustF (h : OK u n T s1 s2 i) : ∃ t1 t2, f_X8_refuse s1 2 = some (false, t1) ∧ f_X12_must s2 false = some t2 ∧ BA t1 t2 ∧ f5 s1 t1 ∧ f7 s2 t2 := by
  obtain ⟨t1, t2, a1, a2, a3⟩ := L_amiss h
  refine ⟨t1, t2, a1, ?_, a3⟩
  unfold f_X12_must
  rw [if_pos (OK_le h), if_neg Bool.false_ne_true]
  unfold fu_lt
  rw [a2]
  rfl
/-- what a step's rest comes to -/
def RS (u : Nat → Nat) (n T : Nat) (s1 s2 : fu_S) (l m w i : Nat) (A : Option (Bool × fu_S)) (B : Option fu_S) (W : fu_S → fu_S → Prop) : Prop := (∃ t1 t2 i', A = some (true, t1) ∧ B = some t2 ∧ OK u n T t1 t2 i' ∧ i ≤ i' ∧ kC s1 t1 l ∧ kR s2 t2 w ∧ (t1.1 42 4 = Int32.ofNat (l + 1) ∧ t1.1 42 5 = Int32.ofNat (m + 1)) ∧ W t1 t2) ∨ (∃ t1 t2, A = some (false, t1) ∧ B = some t2 ∧ BA t1 t2 ∧ kC s1 t1 l ∧ kR s2 t2 w)
/-- a count -/
theorem L_cnt (h : OK u n T s1 s2 i) (h4 : s1.1 42 4 = Int32.ofNat l) (h5 : s1.1 42 5 = Int32.ofNat m) (hl : l < 60) (hw : w + 8 < 1775) : RS u n T s1 s2 l m w i (f_X6_takeCount s1 x) (Option.bind (f_X12_count s2 (1 : Int32) (99 : Int32)) fun r4 => if am_in (Int32.ofNat w + (1 : Int32)) 1775 = true then fu_lt (fu_pi r4.2 122 (Int32.toNatClampNeg (Int32.ofNat w + (1 : Int32))) r4.1) fun s5 => some s5 else none) (fun t1 t2 => t1.1 43 l = x ∧ ∃ v, 1 ≤ v ∧ v ≤ 99 ∧ t1.1 44 l = Int32.ofNat v ∧ t2.1 122 (w + 1) = Int32.ofNat v) := by
  obtain ⟨q1, w1⟩ : am_in (Int32.ofNat w + 1) 1775 = true ∧ (Int32.ofNat w + 1).toNatClampNeg = w + 1 := wq (j := 1) (by omega)
  rcases L_num (lo := 1) (y := 99) h (by omega) with ⟨-, v, -, hv1, hv9, hv99, t1, t2, b1, b2, b3, b4, b5⟩ | ⟨t1, t2, b1, b2, b3, b4, b5⟩
  · have hv : v ≤ 99 := (i_lel (n := 99) (by omega) (show (99 : Nat) < 2147483648 by omega)).mp hv99
    have b1' : f_X8_takeNumber s1 1 99 = some (Int32.ofNat v, t1) := b1
    have b2' : f_X12_count s2 1 99 = some (Int32.ofNat v, t2) := b2
    have e4 : t1.1 42 4 = Int32.ofNat l := by rw [b4.1 42 (by omega)]; exact h4
    have e5 : t1.1 42 5 = Int32.ofNat m := by rw [b4.1 42 (by omega)]; exact h5
    refine .inl ⟨adS t1 l m x (Int32.ofNat v) 0, fu_pi t2 122 (w + 1) (Int32.ofNat v), i + 1, ?_, ?_, OK_r2 (OK_ad b3), by omega, kC_tr (kC_5 b4) kC_ad, kR_tr (kR_7 b5) (kR_pi (by omega)), ⟨ad4, ad5⟩, ad1, v, hv1, hv, ad2, p1⟩
    · unfold f_X6_takeCount
      rw [b1', Option.bind_some]
      dsimp only
      rw [c_adS e4 e5 hl, Option.bind_some, if_neg (e_neg1 (by omega)), Option.bind_some]
    · rw [b2', Option.bind_some]
      dsimp only
      rw [if_pos q1, w1]
      rfl
  · have b1' : f_X8_takeNumber s1 1 99 = some (-1, t1) := b1
    have b2' : f_X12_count s2 1 99 = some (0, t2) := b2
    have e4 : t1.1 42 4 = Int32.ofNat l := by rw [b4.1 42 (by omega)]; exact h4
    have e5 : t1.1 42 5 = Int32.ofNat m := by rw [b4.1 42 (by omega)]; exact h5
    refine .inr ⟨adS t1 l m x (-1) 0, fu_pi t2 122 (w + 1) 0, ?_, ?_, BA_r (BA_ad b3), kC_tr (kC_5 b4) kC_ad, kR_tr (kR_7 b5) (kR_pi (by omega))⟩
    · unfold f_X6_takeCount
      rw [b1', Option.bind_some]
      dsimp only
      rw [c_adS e4 e5 hl, Option.bind_some, if_pos rfl, Option.bind_some]
    · rw [b2', Option.bind_some]
      dsimp only
      rw [if_pos q1, w1]
      rfl
/-- a person, and a number -/
theorem L_deed (h : OK u n T s1 s2 i) (h4 : s1.1 42 4 = Int32.ofNat l) (h5 : s1.1 42 5 = Int32.ofNat m) (hl : l < 60) (hw : w + 8 < 1775) (hC : dC s1 11 D) (hR : dR s2 0 D) (hv : dV D) {Y : fu_S → Option Int32} (hY : ∀ t, t.1 122 0 = s2.1 122 0 → Y t = some y) (hw1 : 0 < w) : RS u n T s1 s2 l m w i (f_X6_takeDeedOf s1 x y) (Option.bind (f_X12_readTold s2 (0 : Int32)) fun r14 => if am_in (Int32.ofNat w + (1 : Int32)) 1775 = true then fu_lt (fu_pi r14.2 122 (Int32.toNatClampNeg (Int32.ofNat w + (1 : Int32))) r14.1) fun s15 => Option.bind (Y s15) fun (j17 : Int32) => Option.bind (f_X12_count s15 (0 : Int32) j17) fun r19 => if am_in (Int32.ofNat w + (2 : Int32)) 1775 = true then fu_lt (fu_pi r19.2 122 (Int32.toNatClampNeg (Int32.ofNat w + (2 : Int32))) r19.1) fun s20 => some s20 else none else none) (fun t1 t2 => t1.1 43 l = x ∧ ∃ p v, p < D 0 4 ∧ Int32.ofNat v ≤ y ∧ v ≤ 9999 ∧ t1.1 44 l = Int32.ofNat p ∧ t2.1 122 (w + 1) = Int32.ofNat p ∧ t1.1 45 l = Int32.ofNat v ∧ t2.1 122 (w + 2) = Int32.ofNat v) := by
  obtain ⟨q1, w1⟩ : am_in (Int32.ofNat w + 1) 1775 = true ∧ (Int32.ofNat w + 1).toNatClampNeg = w + 1 := wq (j := 1) (by omega)
  obtain ⟨q2, w2⟩ : am_in (Int32.ofNat w + 2) 1775 = true ∧ (Int32.ofNat w + 2).toNatClampNeg = w + 2 := wq (j := 2) (by omega)
  have hp4 := hv.1
  rcases L_whom (b := 0) h hC hR hv (by omega) with ⟨p, hp, t1, t2, b1, b2, b3, b4, b5⟩ | ⟨t1, t2, b1, b2, b3, b4, b5⟩
  · have b2' : f_X12_readTold s2 0 = some (Int32.ofNat p, t2) := b2
    obtain ⟨X, hX⟩ : ∃ X, X = fu_pi t2 122 (w + 1) (Int32.ofNat p) := ⟨_, rfl⟩
    have x1 : X.1 122 (w + 1) = Int32.ofNat p := by rw [hX, p1]
    have hYX : Y X = some y := hY X (by rw [hX, p1q (by omega), (b5.1 122 (by omega)).1])
    have hOK : OK u n T t1 X (i + 1) := by rw [hX]; exact OK_r2 b3
    have hkX : kR t2 X w := by rw [hX]; exact kR_pi (by omega)
    rcases L_num (lo := 0) (y := y) hOK (by omega) with ⟨-, v, -, -, hv9, hvy, r1, r2, c1, c2, c3, c4, c5⟩ | ⟨r1, r2, c1, c2, c3, c4, c5⟩
    · have c1' : f_X8_takeNumber t1 0 y = some (Int32.ofNat v, r1) := c1
      have c2' : f_X12_count X 0 y = some (Int32.ofNat v, r2) := c2
      have e4 : r1.1 42 4 = Int32.ofNat l := by rw [c4.1 42 (by omega), b4.1 42 (by omega)]; exact h4
      have e5 : r1.1 42 5 = Int32.ofNat m := by rw [c4.1 42 (by omega), b4.1 42 (by omega)]; exact h5
      refine .inl ⟨adS r1 l m x (Int32.ofNat p) (Int32.ofNat v), fu_pi r2 122 (w + 2) (Int32.ofNat v), i + 1 + 1, ?_, ?_, OK_r2 (OK_ad c3), by omega, kC_tr (kC_5 b4) (kC_tr (kC_5 c4) kC_ad), kR_tr (kR_7 b5) (kR_tr hkX (kR_tr (kR_7 c5) (kR_pi (by omega)))), ⟨ad4, ad5⟩, ad1, p, v, hp, hvy, hv9, ad2, ?_, ad3, p1⟩
      · unfold f_X6_takeDeedOf
        rw [b1, Option.bind_some]
        dsimp only
        rw [if_neg (e_neg1 (by omega)), c1', Option.bind_some]
        dsimp only
        rw [c_adS e4 e5 hl, Option.bind_some, if_neg (e_neg1 (by omega)), Option.bind_some]
      · rw [b2', Option.bind_some]
        dsimp only
        rw [if_pos q1, w1]
        unfold fu_lt
        rw [← hX]
        dsimp only
        rw [hYX, Option.bind_some, c2', Option.bind_some]
        dsimp only
        rw [if_pos q2, w2]
      · rw [p1q (by omega), (c5.1 122 (by omega)).1]; exact x1
    · have c1' : f_X8_takeNumber t1 0 y = some (-1, r1) := c1
      have c2' : f_X12_count X 0 y = some (0, r2) := c2
      have e4 : r1.1 42 4 = Int32.ofNat l := by rw [c4.1 42 (by omega), b4.1 42 (by omega)]; exact h4
      have e5 : r1.1 42 5 = Int32.ofNat m := by rw [c4.1 42 (by omega), b4.1 42 (by omega)]; exact h5
      refine .inr ⟨adS r1 l m x (Int32.ofNat p) (-1), fu_pi r2 122 (w + 2) 0, ?_, ?_, BA_r (BA_ad c3), kC_tr (kC_5 b4) (kC_tr (kC_5 c4) kC_ad), kR_tr (kR_7 b5) (kR_tr hkX (kR_tr (kR_7 c5) (kR_pi (by omega))))⟩
      · unfold f_X6_takeDeedOf
        rw [b1, Option.bind_some]
        dsimp only
        rw [if_neg (e_neg1 (by omega)), c1', Option.bind_some]
        dsimp only
        rw [c_adS e4 e5 hl, Option.bind_some, if_pos rfl, Option.bind_some]
      · rw [b2', Option.bind_some]
        dsimp only
        rw [if_pos q1, w1]
        unfold fu_lt
        rw [← hX]
        dsimp only
        rw [hYX, Option.bind_some, c2', Option.bind_some]
        dsimp only
        rw [if_pos q2, w2]
  · have b2' : f_X12_readTold s2 0 = some (0, t2) := b2
    obtain ⟨X, hX⟩ : ∃ X, X = fu_pi t2 122 (w + 1) 0 := ⟨_, rfl⟩
    have hYX : Y X = some y := hY X (by rw [hX, p1q (by omega), (b5.1 122 (by omega)).1])
    have hB : BA t1 X := by rw [hX]; exact BA_r b3
    have hkX : kR t2 X w := by rw [hX]; exact kR_pi (by omega)
    refine .inr ⟨t1, fu_pi X 122 (w + 2) 0, ?_, ?_, BA_r hB, kC_5 b4, kR_tr (kR_7 b5) (kR_tr hkX (kR_pi (by omega)))⟩
    · unfold f_X6_takeDeedOf
      rw [b1, Option.bind_some]
      dsimp only
      rw [if_pos rfl]
    · rw [b2', Option.bind_some]
      dsimp only
      rw [if_pos q1, w1]
      unfold fu_lt
      rw [← hX]
      dsimp only
      rw [hYX, Option.bind_some, B_count (bd_BA hB), Option.bind_some]
      dsimp only
      rw [if_pos q2, w2]
end PLN
