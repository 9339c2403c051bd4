/-! rounds: the most that can be scratched, and by whom -/
def d_mf (f : Nat → Nat) (b : Nat) : Nat → Nat
  | 0 => b
  | n + 1 => max (d_mf f b n) (f n)
def d_cd (av : Nat → Nat) (t B p : Nat) : Bool := (av t).testBit p && !B.testBit p
def d_v (av : Nat → Nat) : Nat → Nat → Nat
  | 0, _ => 0
  | j + 1, B => d_mf (fun p => if d_cd av (7 - j) B p = true then 1 + d_v av j (B ||| 2 ^ p) else 0) (d_v av j B) 7
/-- what p would bring -/
def d_vp (av : Nat → Nat) (t B p : Nat) : Nat := if d_cd av t B p = true then 1 + d_v av (7 - t) (B ||| 2 ^ p) else 0
section MFF
variable {f g : Nat → Nat} {b M n k m : Nat}
theorem d_mf_le (hf : ∀ k, k < n → f k ≤ M) (hb : b ≤ M) : d_mf f b n ≤ M := by
  induction n with
  | zero => exact hb
  | succ n ih =>
    rw [d_mf]
    exact Nat.max_le.mpr ⟨ih fun k hk => hf k (by omega), hf n (by omega)⟩
theorem d_mf_mono : d_mf f b n ≤ d_mf f b (n + m) := by
  induction m with
  | zero => exact Nat.le_refl _
  | succ m ih =>
    rw [← Nat.add_assoc, d_mf]
    exact Nat.le_trans ih (Nat.le_max_left _ _)
theorem d_mf_b : b ≤ d_mf f b n := by
  have := d_mf_mono (f := f) (b := b) (n := 0) (m := n)
  rw [Nat.zero_add] at this
  exact this
theorem d_mf_0 (h : ∀ k, n ≤ k → f k = 0) : d_mf f b (n + m) = d_mf f b n := by
  induction m with
  | zero => rfl
  | succ m ih =>
    rw [← Nat.add_assoc, d_mf, ih, h _ (by omega)]
    exact Nat.max_eq_left (Nat.zero_le _)
theorem d_mf_c (h : ∀ k, k < n → f k = g k) : d_mf f b n = d_mf g b n := by
  induction n with
  | zero => rfl
  | succ n ih =>
    rw [d_mf, d_mf, ih fun k hk => h k (by omega), h n (by omega)]
end MFF
section DVV
variable {av : Nat → Nat} {t B N p j : Nat}
theorem d_v_s (ht : t < 8) : d_v av (8 - t) B = d_mf (d_vp av t B) (d_v av (7 - t) B) 7 := by
  obtain ⟨j, rfl⟩ : ∃ j, t = 7 - j := ⟨7 - t, by omega⟩
  by_cases h : j ≤ 7
  · rw [show 8 - (7 - j) = j + 1 by omega, d_v, show 7 - (7 - j) = j by omega]
    refine d_mf_c fun p _ => ?_
    unfold d_vp
    rw [show 7 - (7 - j) = j by omega]
  · rw [show 7 - j = 0 by omega]
    show d_v av (7 + 1) B = _
    rw [d_v]
    rfl
theorem d_v_le (hN : ∀ t, N ≤ t → av t = 0) (h8 : N ≤ 8) : ∀ {j B}, j ≤ 8 → d_v av j B ≤ N - (8 - j)
  | 0, _, _ => Nat.zero_le _
  | j + 1, B, hj => by
    rw [d_v]
    have ih := fun B => d_v_le hN h8 (j := j) (B := B) (by omega)
    by_cases h : N ≤ 7 - j
    · have h0 : d_v av j B = 0 := by have := ih B; omega
      rw [h0]
      refine Nat.le_trans (d_mf_le (M := 0) (fun p _ => ?_) (Nat.le_refl _)) (Nat.zero_le _)
      unfold d_cd
      rw [hN _ h, Nat.zero_testBit]
      exact Nat.le_refl _
    · refine d_mf_le (fun p _ => ?_) (by have := ih B; omega)
      split
      · have := ih (B ||| 2 ^ p); omega
      · omega
end DVV
/-- the least that is so, and 1; 0 if none is -/
def d_lo (c : Nat → Bool) : Nat → Nat
  | 0 => 0
  | n + 1 => if d_lo c n = 0 then (if c n = true then n + 1 else 0) else d_lo c n
def d_hi (c : Nat → Bool) (N : Nat) : Nat → Nat
  | 0 => 0
  | j + 1 => if c (N - 1 - j) = true then N - j else d_hi c N j
section LOO
variable {c : Nat → Bool} {N k n : Nat}
theorem d_lo_ok : ∀ {n}, (d_lo c n = 0 ∧ ∀ k, k < n → c k = false) ∨ ∃ p, d_lo c n = p + 1 ∧ p < n ∧ c p = true ∧ ∀ j, j < p → c j = false
  | 0 => .inl ⟨rfl, fun k hk => absurd hk (by omega)⟩
  | n + 1 => by
    rw [d_lo]
    rcases d_lo_ok (n := n) with ⟨h1, h2⟩ | ⟨p, h1, h2, h3, h4⟩
    · rw [if_pos h1]
      cases hc : c n
      · rw [if_neg (by simp)]
        refine .inl ⟨rfl, fun k hk => ?_⟩
        by_cases e : k = n
        · rw [e]; exact hc
        · exact h2 k (by omega)
      · rw [if_pos rfl]
        exact .inr ⟨n, rfl, by omega, hc, h2⟩
    · rw [if_neg (by omega)]
      exact .inr ⟨p, h1, by omega, h3, h4⟩
theorem d_lo_un {a : Nat} (h : (a = 0 ∧ ∀ k, k < n → c k = false) ∨ ∃ p, a = p + 1 ∧ p < n ∧ c p = true ∧ ∀ j, j < p → c j = false) : a = d_lo c n := by
  rcases d_lo_ok (c := c) (n := n) with ⟨h1, h2⟩ | ⟨p, h1, h2, h3, h4⟩
  · rcases h with ⟨g1, g2⟩ | ⟨q, g1, g2, g3, g4⟩
    · omega
    · rw [h2 q g2] at g3; exact Bool.noConfusion g3
  · rcases h with ⟨g1, g2⟩ | ⟨q, g1, g2, g3, g4⟩
    · rw [g2 p h2] at h3; exact Bool.noConfusion h3
    · have a1 : ¬ p < q := fun z => by rw [g4 p z] at h3; exact Bool.noConfusion h3
      have a2 : ¬ q < p := fun z => by rw [h4 q z] at g3; exact Bool.noConfusion g3
      omega
theorem d_hi_ok : ∀ {j}, j ≤ N → (d_hi c N j = 0 ∧ ∀ k, N - j ≤ k → k < N → c k = false) ∨ ∃ p, d_hi c N j = p + 1 ∧ N - j ≤ p ∧ p < N ∧ c p = true ∧ ∀ i, N - j ≤ i → i < p → c i = false
  | 0, _ => .inl ⟨rfl, fun k h1 h2 => absurd h1 (by omega)⟩
  | j + 1, hj => by
    rw [d_hi]
    cases hc : c (N - 1 - j)
    · rw [if_neg (by simp)]
      have key : ∀ i, N - (j + 1) ≤ i → i < N - j → c i = false := fun i h1 h2 => by rw [show i = N - 1 - j by omega]; exact hc
      rcases d_hi_ok (j := j) (by omega) with ⟨h1, h2⟩ | ⟨p, h1, h2, h3, h4, h5⟩
      · refine .inl ⟨h1, fun k hk hk2 => ?_⟩
        by_cases e : k < N - j
        · exact key k hk e
        · exact h2 k (by omega) hk2
      · refine .inr ⟨p, h1, by omega, h3, h4, fun i hi hi2 => ?_⟩
        by_cases e : i < N - j
        · exact key i hi e
        · exact h5 i (by omega) hi2
    · rw [if_pos rfl]
      exact .inr ⟨N - 1 - j, by omega, by omega, by omega, hc, fun i h1 h2 => absurd h1 (by omega)⟩
theorem d_hi_lo : d_hi c N N = d_lo c N := by
  apply d_lo_un
  rcases d_hi_ok (c := c) (N := N) (j := N) (Nat.le_refl _) with ⟨h1, h2⟩ | ⟨p, h1, h2, h3, h4, h5⟩
  · exact .inl ⟨h1, fun k hk => h2 k (by omega) hk⟩
  · exact .inr ⟨p, h1, h3, h4, fun i hi => h5 i (by omega) hi⟩
theorem d_lo_hi {m : Nat} (h : ∀ k, n ≤ k → c k = false) : d_lo c (n + m) = d_lo c n := by
  apply d_lo_un
  rcases d_lo_ok (c := c) (n := n + m) with ⟨h1, h2⟩ | ⟨p, h1, h2, h3, h4⟩
  · exact .inl ⟨h1, fun k hk => h2 k (by omega)⟩
  · refine .inr ⟨p, h1, ?_, h3, h4⟩
    refine Classical.byContradiction fun z => ?_
    rw [h p (by omega)] at h3
    exact Bool.noConfusion h3
theorem d_lo_le : d_lo c n ≤ n := by
  rcases d_lo_ok (c := c) (n := n) with ⟨h1, -⟩ | ⟨p, h1, h2, -⟩ <;> omega
theorem d_lo_c {c' : Nat → Bool} (h : ∀ k, k < n → c k = c' k) : d_lo c n = d_lo c' n := by
  induction n with
  | zero => rfl
  | succ n ih => rw [d_lo, d_lo, ih fun k hk => h k (by omega), h n (by omega)]
end LOO
/-- who is at work on t when those of B are at work already -/
def d_wok (av : Nat → Nat) (t B p : Nat) : Bool := d_cd av t B p && decide (1 + d_v av (7 - t) (B ||| 2 ^ p) = d_v av (8 - t) B)
def d_bz (av : Nat → Nat) : Nat → Nat
  | 0 => 0
  | t + 1 => if d_lo (d_wok av t (d_bz av t)) 7 = 0 then d_bz av t else d_bz av t ||| 2 ^ (d_lo (d_wok av t (d_bz av t)) 7 - 1)
def d_wk (av : Nat → Nat) (t : Nat) : Nat := d_lo (d_wok av t (d_bz av t)) 7
def d_lf (av : Nat → Nat) (m : Nat) : Nat → Nat
  | 0 => 2 ^ m - 1
  | t + 1 => if d_wk av t = 0 then d_lf av m t else d_nb (d_lf av m t) (2 ^ (d_wk av t - 1))
section BZZ
variable {av : Nat → Nat} {t B N p j m : Nat}
theorem d_bz_s : d_bz av (t + 1) = if d_wk av t = 0 then d_bz av t else d_bz av t ||| 2 ^ (d_wk av t - 1) := rfl
theorem d_bz_lt : ∀ {t}, d_bz av t < 128
  | 0 => by show (0 : Nat) < 128; omega
  | t + 1 => by
    rw [d_bz_s]
    have h7 : d_wk av t ≤ 7 := d_lo_le
    split
    · exact d_bz_lt
    · exact Nat.or_lt_two_pow (n := 7) d_bz_lt (Nat.pow_lt_pow_right (by omega) (by omega))
theorem d_lf_lt (hm : m ≤ 7) : ∀ {t}, d_lf av m t < 128
  | 0 => by
    show 2 ^ m - 1 < 128
    have : 2 ^ m ≤ 2 ^ 7 := Nat.pow_le_pow_right (by omega) hm
    omega
  | t + 1 => by
    rw [d_lf]
    split
    · exact d_lf_lt hm
    · exact Nat.lt_of_le_of_lt d_nb_le (d_lf_lt hm)
theorem d_lf_bit (hm : m ≤ 7) (hp : p < m) : ∀ {t}, (d_lf av m t).testBit p = !(d_bz av t).testBit p
  | 0 => by
    show (2 ^ m - 1).testBit p = !Nat.testBit 0 p
    rw [Nat.testBit_two_pow_sub_one, Nat.zero_testBit, decide_eq_true hp]
    rfl
  | t + 1 => by
    rw [d_lf, d_bz_s]
    split
    · exact d_lf_bit hm hp
    · rw [d_nb_bit (by omega), Nat.testBit_or, d_lf_bit hm hp, Bool.not_or]
end BZZ
/-- a loop that may stop early -/
theorem lp_ex {σ ρ : Type} {l : Nat → σ → Nat → Option ρ} {N : Nat} (S : Nat → σ) {r : ρ} (hs : ∀ n k, k < N → l (n + 1) (S k) k = l n (S (k + 1)) (k + 1) ∨ l (n + 1) (S k) k = some r) (he : ∀ n, l (n + 1) (S N) N = some r) : ∀ {f k : Nat}, k ≤ N → N - k < f → l f (S k) k = some r
  | 0, _, _, h => absurd h (by omega)
  | f + 1, k, hk, hf => by
    by_cases h : k = N
    · subst h; exact he f
    · rcases hs f k (by omega) with h1 | h1
      · rw [h1]
        exact lp_ex S hs he (by omega) (by omega)
      · exact h1
/-- a loop that counts down -/
theorem lp_dn {σ ρ : Type} {l : Nat → σ → Nat → Option ρ} {N : Nat} (S : Nat → σ) {r : ρ} (hs : ∀ n k, k < N → l (n + 1) (S (k + 1)) (k + 1) = l n (S k) k) (he : ∀ n, l (n + 1) (S 0) 0 = some r) : ∀ {k f : Nat}, k ≤ N → k < f → l f (S k) k = some r
  | _, 0, _, h => absurd h (by omega)
  | 0, f + 1, _, _ => he f
  | k + 1, f + 1, hk, hf => by
    rw [hs f k (by omega)]
    exact lp_dn S hs he (by omega) (by omega)
theorem i_mx {a b : Nat} (ha : a < 2147483648) (hb : b < 2147483648) : fu_mx (Int32.ofNat a) (Int32.ofNat b) = Int32.ofNat (max a b) := by
  unfold fu_mx
  by_cases h : a < b
  · rw [if_pos ((i_lt ha hb).mpr h), Nat.max_eq_right (by omega)]
  · rw [if_neg (fun z => h ((i_lt ha hb).mp z)), Nat.max_eq_left (by omega)]
theorem i_mn {a b : Nat} (ha : a < 2147483648) (hb : b < 2147483648) : fu_mn (Int32.ofNat a) (Int32.ofNat b) = Int32.ofNat (min a b) := by
  unfold fu_mn
  by_cases h : b < a
  · rw [if_pos ((i_lt hb ha).mpr h), Nat.min_eq_right (by omega)]
  · rw [if_neg (fun z => h ((i_lt hb ha).mp z)), Nat.min_eq_left (by omega)]
theorem i_addm1 {x : Int32} : x + -1 = x - 1 := (Int32.sub_eq_add_neg x 1).symm
/-- whom a thing can be scratched by now -/
def d_av (D : dD) (t : Nat) : Nat := if t < D 0 5 ∧ d_isUp D t = true then d_set (fun p => d_able D p t) (D 0 4) else 0
section AVV
variable {D : dD} {t p B : Nat}
theorem d_av_lt (hv : dV D) : d_av D t < 128 := by
  have hp4 := hv.1
  unfold d_av
  split
  · have h1 := d_set_lt (fun p => d_able D p t) (D 0 4)
    have h2 : 2 ^ D 0 4 ≤ 2 ^ 7 := Nat.pow_le_pow_right (by omega) (by omega)
    omega
  · omega
theorem d_av_hi (hp : D 0 4 ≤ p) : (d_av D t).testBit p = false := by
  unfold d_av
  split
  · rw [d_set_bit, decide_eq_false (by omega), Bool.false_and]
  · exact Nat.zero_testBit p
theorem d_av_t (ht : D 0 5 ≤ t) : d_av D t = 0 := if_neg (fun z => by omega)
theorem d_cd_hi (hp : D 0 4 ≤ p) : d_cd (d_av D) t B p = false := by
  unfold d_cd
  rw [d_av_hi hp, Bool.false_and]
end AVV
