/-! ending, endingSet -/
def d_nb (a b : Nat) : Nat := a &&& (b ^^^ 4294967295)
theorem M_bit {i : Nat} : Nat.testBit 4294967295 i = decide (i < 32) := by
  rw [show (4294967295 : Nat) = 2 ^ 32 - 1 from rfl, Nat.testBit_two_pow_sub_one]
theorem d_nb_bit {a b i : Nat} (hi : i < 32) : (d_nb a b).testBit i = (a.testBit i && !b.testBit i) := by
  unfold d_nb
  rw [Nat.testBit_and, Nat.testBit_xor, M_bit, decide_eq_true hi, Bool.xor_true]
theorem d_nb_le {a b : Nat} : d_nb a b ≤ a := Nat.and_le_left
theorem i_m1 : (-1 : Int32) = Int32.ofNat 4294967295 := by decide
theorem i_nand {a b : Nat} : Int32.ofNat a &&& (Int32.ofNat b ^^^ -1) = Int32.ofNat (d_nb a b) := by
  rw [i_m1, i_xor, i_and]; rfl
theorem i_nand' {a b : Nat} : (Int32.ofNat b ^^^ -1) &&& Int32.ofNat a = Int32.ofNat (d_nb a b) := by
  rw [i_m1, i_xor, i_and, Nat.and_comm]; rfl
theorem bit_hi {a n i : Nat} (h : a < 2 ^ n) (hi : n ≤ i) : a.testBit i = false := Nat.testBit_lt_two_pow (Nat.lt_of_lt_of_le h (Nat.pow_le_pow_right (by omega) hi))
theorem d_nb_0 {a b : Nat} (ha : a < 2147483648) : d_nb a b = 0 ↔ ∀ i, a.testBit i = true → b.testBit i = true := by
  constructor
  · intro h i hi
    have h31 : i < 31 := by
      rcases Nat.lt_or_ge i 31 with z | z
      · exact z
      · rw [bit_hi (n := 31) (by omega) z] at hi; exact Bool.noConfusion hi
    have := d_nb_bit (a := a) (b := b) (i := i) (by omega)
    rw [h, Nat.zero_testBit, hi, Bool.true_and] at this
    cases hb : b.testBit i
    · rw [hb] at this; exact Bool.noConfusion this
    · rfl
  · intro h
    apply Nat.eq_of_testBit_eq
    intro i
    rw [Nat.zero_testBit]
    rcases Nat.lt_or_ge i 31 with z | z
    · rw [d_nb_bit (by omega)]
      cases ha' : a.testBit i
      · rfl
      · rw [h i ha']; rfl
    · exact bit_hi (n := 31) (Nat.lt_of_le_of_lt d_nb_le (by omega)) z
theorem d_sum_lt {f g : Nat → Nat} : ∀ {n}, (∀ k, k < n → f k ≤ g k) → (∃ k, k < n ∧ f k < g k) → d_sum f n < d_sum g n
  | 0, _, h => by obtain ⟨k, hk, _⟩ := h; omega
  | n + 1, h, h' => by
    rw [d_sum_s, d_sum_s]
    have hn := h n (by omega)
    have hm : ∀ m, m ≤ n → d_sum f m ≤ d_sum g m := by
      intro m
      induction m with
      | zero => intro _; exact Nat.le_refl _
      | succ m ih =>
        intro hm
        have := ih (by omega)
        have := h m (by omega)
        rw [d_sum_s, d_sum_s]
        omega
    obtain ⟨k, hk, hlt⟩ := h'
    by_cases e : k = n
    · subst e
      have := hm k (Nat.le_refl _)
      omega
    · have := d_sum_lt (n := n) (fun k hk => h k (by omega)) ⟨k, by omega, hlt⟩
      omega
theorem d_pop_lt {a b : Nat} (ha : a < 1024) (hb : b < 1024) (h : ∀ i, a.testBit i = true → b.testBit i = true) (hne : a ≠ b) : d_pop a < d_pop b := by
  refine d_sum_lt (fun k _ => ?_) ?_
  · cases hk : a.testBit k
    · simp
    · rw [h k hk]; exact Nat.le_refl _
  · by_cases hx : ∃ k, k < 10 ∧ a.testBit k ≠ b.testBit k
    · obtain ⟨k, hk, hd⟩ := hx
      refine ⟨k, hk, ?_⟩
      cases h1 : a.testBit k
      · cases h2 : b.testBit k
        · rw [h1, h2] at hd; exact absurd rfl hd
        · simp
      · rw [h1, h k h1] at hd; exact absurd rfl hd
    · refine absurd (Nat.eq_of_testBit_eq fun i => ?_) hne
      rcases Nat.lt_or_ge i 10 with z | z
      · exact Classical.byContradiction fun w => hx ⟨i, z, w⟩
      · rw [bit_hi (n := 10) (by omega) z, bit_hi (n := 10) (by omega) z]
/-- what is not scratched -/
def d_open (D : dD) : Nat := d_set (fun t => decide (D 11 t = 0)) (D 0 5)
theorem d_open_lt {D : dD} : d_open D < 2 ^ D 0 5 := d_set_lt _ _
theorem d_open_bd {D : dD} (hv : dV D) : d_open D < 256 := by
  have := hv.1
  exact Nat.lt_of_lt_of_le d_open_lt (Nat.pow_le_pow_right (n := 2) (j := 8) (by omega) (by omega))
theorem d_open_eq {D : dD} (hv : dV D) : d_nb (2 ^ D 0 5 - 1) (d_set (fun t => decide (D 11 t ≠ 0)) (D 0 5)) = d_open D := by
  have hp4 := hv.1
  apply Nat.eq_of_testBit_eq
  intro i
  rcases Nat.lt_or_ge i 32 with z | z
  · rw [d_nb_bit z, d_set_bit, Nat.testBit_two_pow_sub_one]
    unfold d_open
    rw [d_set_bit]
    by_cases h : i < D 0 5
    · by_cases h0 : D 11 i = 0 <;> simp [h, h0]
    · simp [h]
  · have h1 : 2 ^ D 0 5 ≤ 2 ^ 8 := Nat.pow_le_pow_right (by omega) (by omega)
    have h2 : 0 < 2 ^ D 0 5 := Nat.two_pow_pos _
    rw [bit_hi (n := 32) (Nat.lt_of_le_of_lt d_nb_le (by omega)) z, bit_hi (n := 32) (by have := d_open_bd hv; omega) z]
/-- whether a set lies in the open ones -/
def d_in (D : dD) (k : Nat) : Bool := decide (d_nb k (d_open D) = 0)
theorem d_in_iff {D : dD} {k : Nat} (hk : k < 2147483648) : d_in D k = true ↔ ∀ i, k.testBit i = true → (d_open D).testBit i = true := by
  unfold d_in
  rw [decide_eq_true_eq]
  exact d_nb_0 hk
theorem le_of_bits {a b : Nat} (h : ∀ i, a.testBit i = true → b.testBit i = true) : a ≤ b := by
  have : a &&& b = a := by
    apply Nat.eq_of_testBit_eq
    intro i
    rw [Nat.testBit_and]
    cases ha : a.testBit i
    · rfl
    · rw [h i ha]; rfl
  rw [← this]
  exact Nat.and_le_right
/-- the least ending among the first sets; none is coded as 0, a set k as k + 1 -/
def d_bst (D : dD) : Nat → Nat
  | 0 => 0
  | k + 1 => if d_in D k = true ∧ (d_bst D k = 0 ∨ d_pop k < d_pop (d_bst D k - 1)) ∧ d_short D k = 0 then k + 1 else d_bst D k
theorem d_bst_le {D : dD} : ∀ {k}, d_bst D k ≤ k
  | 0 => Nat.le_refl _
  | k + 1 => by
    rw [d_bst]
    split
    · exact Nat.le_refl _
    · have := d_bst_le (D := D) (k := k)
      omega
theorem d_bst_in {D : dD} : ∀ {k}, d_bst D k ≠ 0 → d_in D (d_bst D k - 1) = true
  | 0, h => absurd rfl h
  | k + 1, h => by
    rw [d_bst] at h ⊢
    by_cases hc : d_in D k = true ∧ (d_bst D k = 0 ∨ d_pop k < d_pop (d_bst D k - 1)) ∧ d_short D k = 0
    · rw [if_pos hc]; exact hc.1
    · rw [if_neg hc] at h ⊢
      exact d_bst_in h
theorem d_short_open {D : dD} (hv : dV D) : d_short D (d_open D) = 0 := by
  have hn : ∀ r, d_need D (d_open D) r = 0 := by
    intro r
    have : ∀ m, m ≤ D 0 5 → d_or (d_nt D (d_open D) r) m = 0 := by
      intro m
      induction m with
      | zero => intro _; rfl
      | succ m ih =>
        intro hm
        rw [d_or_s, ih (by omega), Nat.zero_or]
        refine if_neg fun z => ?_
        have hb : (d_open D).testBit m = true := by
          unfold d_open
          rw [d_set_bit, decide_eq_true (by omega : m < D 0 5), decide_eq_true z.1]; rfl
        rw [hb] at z
        exact Bool.noConfusion z.2.1
    exact this _ (Nat.le_refl _)
  have hr : ∀ p, d_rg (d_need D (d_open D)) p = 0 := fun p => d_rg_0 fun q _ => by rw [hn]; simp
  unfold d_short
  have : ∀ m, d_sh (d_rg (d_need D (d_open D))) m = 0 := by
    intro m
    induction m with
    | zero => rfl
    | succ m ih => rw [d_sh, if_pos (hr m), ih]
  exact this _
/-- the least, the open ones where none is known -/
def d_lst (D : dD) (k : Nat) : Nat := if d_bst D k = 0 then d_open D else d_bst D k - 1
theorem d_lst_bd {D : dD} {k : Nat} (hv : dV D) (hk : k ≤ 256) : d_lst D k < 256 := by
  have := d_open_bd hv
  have := d_bst_le (D := D) (k := k)
  unfold d_lst
  split <;> omega
theorem d_lst_s {D : dD} {k : Nat} (hv : dV D) (hk : k ≤ d_open D) : d_lst D (k + 1) = if d_in D k = true ∧ (k = 0 ∨ d_pop k < d_pop (d_lst D k)) ∧ d_short D k = 0 then k else d_lst D k := by
  have ho := d_open_bd hv
  have hle := d_bst_le (D := D) (k := k)
  have hb : d_bst D (k + 1) = if d_in D k = true ∧ (d_bst D k = 0 ∨ d_pop k < d_pop (d_bst D k - 1)) ∧ d_short D k = 0 then k + 1 else d_bst D k := rfl
  by_cases hC : d_in D k = true ∧ (d_bst D k = 0 ∨ d_pop k < d_pop (d_bst D k - 1)) ∧ d_short D k = 0
  · rw [if_pos hC] at hb
    have hl : d_lst D (k + 1) = k := by
      unfold d_lst
      rw [hb, if_neg (by omega)]
      omega
    rw [hl]
    obtain ⟨h1, h2, h3⟩ := hC
    by_cases hC' : d_in D k = true ∧ (k = 0 ∨ d_pop k < d_pop (d_lst D k)) ∧ d_short D k = 0
    · rw [if_pos hC']
    · rw [if_neg hC']
      by_cases h4 : d_bst D k = 0
      · have hl' : d_lst D k = d_open D := if_pos h4
        by_cases e : k = d_open D
        · rw [hl']; exact e
        · refine absurd ⟨h1, .inr ?_, h3⟩ hC'
          rw [hl']
          exact d_pop_lt (by omega) (by omega) ((d_in_iff (by omega)).mp h1) e
      · have hl' : d_lst D k = d_bst D k - 1 := if_neg h4
        refine absurd ⟨h1, .inr ?_, h3⟩ hC'
        rw [hl']
        exact h2.resolve_left h4
  · rw [if_neg hC] at hb
    have hl : d_lst D (k + 1) = d_lst D k := by
      unfold d_lst
      rw [hb]
    rw [hl, if_neg]
    rintro ⟨h1, h2, h3⟩
    refine hC ⟨h1, ?_, h3⟩
    by_cases h4 : d_bst D k = 0
    · exact .inl h4
    · have hl' : d_lst D k = d_bst D k - 1 := if_neg h4
      rw [hl'] at h2
      exact .inr (h2.resolve_left (by omega))
theorem d_bst_fin {D : dD} (hv : dV D) : ∀ {j}, d_open D + 1 + j ≤ 2 ^ D 0 5 → d_bst D (d_open D + 1 + j) = d_lst D (d_open D + 1) + 1
  | 0, _ => by
    have h1 : d_in D (d_open D) = true := (d_in_iff (by have := d_open_bd hv; omega)).mpr fun _ h => h
    have hb : d_bst D (d_open D + 1) ≠ 0 := by
      rw [d_bst]
      by_cases h2 : d_bst D (d_open D) = 0
      · rw [if_pos ⟨h1, .inl h2, d_short_open hv⟩]; omega
      · split
        · omega
        · exact h2
    show d_bst D (d_open D + 1) = d_lst D (d_open D + 1) + 1
    unfold d_lst
    rw [if_neg hb]
    omega
  | j + 1, h => by
    have ih := d_bst_fin hv (j := j) (by omega)
    rw [← ih]
    show d_bst D (d_open D + 1 + j + 1) = _
    rw [d_bst, if_neg]
    intro z
    have hp4 := hv.1
    have h8 : 2 ^ D 0 5 ≤ 2 ^ 8 := Nat.pow_le_pow_right (by omega) (by omega)
    have := le_of_bits ((d_in_iff (by omega)).mp z.1)
    omega
