/-! a write in words of the district -/
def dset (D : dD) (f i v : Nat) : dD := fun a b => if a = f ∧ b = i then v else D a b
theorem dset_s {D : dD} {f i v : Nat} : dset D f i v f i = v := by simp [dset]
theorem dset_f {D : dD} {f i v a b : Nat} (h : a ≠ f) : dset D f i v a b = D a b := by simp [dset, h]
theorem dset_i {D : dD} {f i v a b : Nat} (h : b ≠ i) : dset D f i v a b = D a b := by simp [dset, h]
theorem dC_rw {s : fu_S} {P f i v g j : Nat} {D : dD} (h : s.1 (P + g) j = Int32.ofNat (D g j)) : (fu_pi s (P + f) i (Int32.ofNat v)).1 (P + g) j = Int32.ofNat (dset D f i v g j) := by
  simp only [fu_pi, dset]
  by_cases h1 : g = f ∧ j = i
  · obtain ⟨rfl, rfl⟩ := h1
    simp
  · rw [if_neg (fun z => h1 ⟨by omega, z.2⟩), if_neg h1]
    exact h
/-- a kind's, a person's, a thing's number (not its name, not when it was scratched, found) -/
theorem dC_put {s : fu_S} {P f i v : Nat} {D : dD} (hf : 1 ≤ f ∧ f ≤ 10 ∧ f ≠ 4) (h : dC s P D) : dC (fu_pi s (P + f) i (Int32.ofNat v)) P (dset D f i v) := by
  obtain ⟨⟨c0, c1, c2, c3, c4, c5⟩, ck, cp, ct⟩ := h
  have z : ∀ j, dset D f i v 0 j = D 0 j := fun j => dset_f (by omega)
  have y : (fu_pi s (P + f) i (Int32.ofNat v)).1 P = s.1 P := p1n (by omega)
  refine ⟨⟨?_, ?_, ?_, ?_, ?_, ?_⟩, fun k hk => ?_, fun p hp => ?_, fun t ht => ?_⟩
  · rw [y, z]; exact c0
  · rw [y, z]; exact c1
  · rw [y, z]; exact c2
  · rw [y, z]; exact c3
  · rw [y, z]; exact c4
  · rw [y, z]; exact c5
  · rw [z] at hk
    obtain ⟨a1, a2, a3⟩ := ck k hk
    exact ⟨dC_rw a1, dC_rw a2, dC_rw a3⟩
  · rw [z] at hp
    obtain ⟨a1, a2, a3⟩ := cp p hp
    refine ⟨?_, dC_rw a2, dC_rw a3⟩
    rw [dset_f (by omega : (4 : Nat) ≠ f)]; exact a1
  · rw [z] at ht
    obtain ⟨a1, a2, a3, a4, a5, a6⟩ := ct t ht
    refine ⟨dC_rw a1, dC_rw a2, dC_rw a3, dC_rw a4, ?_, ?_⟩
    · rw [dset_f (by omega : (11 : Nat) ≠ f), p1n (by omega)]; exact a5
    · rw [dset_f (by omega : (11 : Nat) ≠ f), dset_f (by omega : (12 : Nat) ≠ f), p1n (by omega)]; exact a6
theorem dC_put0 {s : fu_S} {P j v : Nat} {D : dD} (hj : j < 3) (h : dC s P D) : dC (fu_pi s P j (Int32.ofNat v)) P (dset D 0 j v) := by
  obtain ⟨⟨c0, c1, c2, c3, c4, c5⟩, ck, cp, ct⟩ := h
  have z : ∀ a b, a ≠ 0 → dset D 0 j v a b = D a b := fun a b ha => dset_f ha
  have z0 : ∀ b, 3 ≤ b → dset D 0 j v 0 b = D 0 b := fun b hb => dset_i (by omega)
  have y : ∀ g, (fu_pi s P j (Int32.ofNat v)).1 (P + (g + 1)) = s.1 (P + (g + 1)) := fun g => p1n (by omega)
  have w : ∀ i, s.1 P i = Int32.ofNat (D 0 i) → (fu_pi s P j (Int32.ofNat v)).1 P i = Int32.ofNat (dset D 0 j v 0 i) := fun i hi => by
    have := dC_rw (f := 0) (g := 0) (i := j) (v := v) (j := i) (P := P) (s := s) (D := D) (by rw [Nat.add_zero]; exact hi)
    simpa only [Nat.add_zero] using this
  refine ⟨⟨w 0 c0, w 1 c1, w 2 c2, w 3 c3, w 4 c4, w 5 c5⟩, fun k hk => ?_, fun p hp => ?_, fun t ht => ?_⟩
  · rw [z0 3 (by omega)] at hk
    rw [y 0, y 1, y 2, z 1 k (by omega), z 2 k (by omega), z 3 k (by omega)]
    exact ck k hk
  · rw [z0 4 (by omega)] at hp
    rw [y 4, y 5, z 4 p (by omega), z 5 p (by omega), z 6 p (by omega)]
    exact cp p hp
  · rw [z0 5 (by omega)] at ht
    rw [y 6, y 7, y 8, y 9, y 10, y 11, z 7 t (by omega), z 8 t (by omega), z 9 t (by omega), z 10 t (by omega), z 11 t (by omega), z 12 t (by omega)]
    exact ct t ht
theorem dR_rd {s : fu_S} {q i v : Nat} (h : i ≠ q) : (fu_pi s 122 q (Int32.ofNat v)).1 122 i = s.1 122 i := p1q h
theorem dR_put1 {s : fu_S} {i v : Nat} {D : dD} (hv : dV D) (hi : i < 5) (h : dR s 0 D) : dR (fu_pi s 122 (6 + i) (Int32.ofNat v)) 0 (dset D 1 i v) := by
  obtain ⟨⟨c0, c1, c2, c3, c4, c5⟩, ck, cp, ct⟩ := dR_0 h
  obtain ⟨⟨v0, v1, v2, v3, v4, v5⟩, -⟩ := hv
  have z : ∀ a b, a ≠ 1 → dset D 1 i v a b = D a b := fun a b ha => dset_f ha
  unfold dR
  simp only [Nat.mul_zero, Nat.zero_add]
  refine ⟨⟨?_, ?_, ?_, ?_, ?_, ?_⟩, fun k hk => ?_, fun p hp => ?_, fun t ht => ?_⟩
  · rw [z 0 3 (by omega), dR_rd (by omega)]; exact c0
  · rw [z 0 4 (by omega), dR_rd (by omega)]; exact c1
  · rw [z 0 5 (by omega), dR_rd (by omega)]; exact c2
  · rw [z 0 0 (by omega), dR_rd (by omega)]; exact c3
  · rw [z 0 1 (by omega), dR_rd (by omega)]; exact c4
  · rw [z 0 2 (by omega), dR_rd (by omega)]; exact c5
  · rw [z 0 3 (by omega)] at hk
    obtain ⟨a1, a2, a3⟩ := ck k hk
    refine ⟨?_, ?_, ?_⟩
    · by_cases e : k = i
      · subst e; rw [dset_s]; exact p1
      · rw [dset_i e, dR_rd (by omega)]; exact a1
    · rw [z 2 k (by omega), dR_rd (by omega)]; exact a2
    · rw [z 3 k (by omega), dR_rd (by omega)]; exact a3
  · rw [z 0 4 (by omega)] at hp
    obtain ⟨a4, a5, a6⟩ := cp p hp
    refine ⟨?_, ?_, ?_⟩
    · rw [z 4 p (by omega)]; exact a4
    · rw [z 5 p (by omega), dR_rd (by omega)]; exact a5
    · rw [z 6 p (by omega), dR_rd (by omega)]; exact a6
  · rw [z 0 5 (by omega)] at ht
    obtain ⟨a7, a8, a9, a10, a11, a12⟩ := ct t ht
    refine ⟨?_, ?_, ?_, ?_, ?_, ?_⟩
    · rw [z 7 t (by omega), dR_rd (by omega)]; exact a7
    · rw [z 8 t (by omega), dR_rd (by omega)]; exact a8
    · rw [z 9 t (by omega), dR_rd (by omega)]; exact a9
    · rw [z 10 t (by omega), dR_rd (by omega)]; exact a10
    · rw [z 11 t (by omega), dR_rd (by omega)]; exact a11
    · rw [z 11 t (by omega), z 12 t (by omega), dR_rd (by omega)]; exact a12
theorem dR_put2 {s : fu_S} {i v : Nat} {D : dD} (hv : dV D) (hi : i < 5) (h : dR s 0 D) : dR (fu_pi s 122 (11 + i) (Int32.ofNat v)) 0 (dset D 2 i v) := by
  obtain ⟨⟨c0, c1, c2, c3, c4, c5⟩, ck, cp, ct⟩ := dR_0 h
  obtain ⟨⟨v0, v1, v2, v3, v4, v5⟩, -⟩ := hv
  have z : ∀ a b, a ≠ 2 → dset D 2 i v a b = D a b := fun a b ha => dset_f ha
  unfold dR
  simp only [Nat.mul_zero, Nat.zero_add]
  refine ⟨⟨?_, ?_, ?_, ?_, ?_, ?_⟩, fun k hk => ?_, fun p hp => ?_, fun t ht => ?_⟩
  · rw [z 0 3 (by omega), dR_rd (by omega)]; exact c0
  · rw [z 0 4 (by omega), dR_rd (by omega)]; exact c1
  · rw [z 0 5 (by omega), dR_rd (by omega)]; exact c2
  · rw [z 0 0 (by omega), dR_rd (by omega)]; exact c3
  · rw [z 0 1 (by omega), dR_rd (by omega)]; exact c4
  · rw [z 0 2 (by omega), dR_rd (by omega)]; exact c5
  · rw [z 0 3 (by omega)] at hk
    obtain ⟨a1, a2, a3⟩ := ck k hk
    refine ⟨?_, ?_, ?_⟩
    · rw [z 1 k (by omega), dR_rd (by omega)]; exact a1
    · by_cases e : k = i
      · subst e; rw [dset_s]; exact p1
      · rw [dset_i e, dR_rd (by omega)]; exact a2
    · rw [z 3 k (by omega), dR_rd (by omega)]; exact a3
  · rw [z 0 4 (by omega)] at hp
    obtain ⟨a4, a5, a6⟩ := cp p hp
    refine ⟨?_, ?_, ?_⟩
    · rw [z 4 p (by omega)]; exact a4
    · rw [z 5 p (by omega), dR_rd (by omega)]; exact a5
    · rw [z 6 p (by omega), dR_rd (by omega)]; exact a6
  · rw [z 0 5 (by omega)] at ht
    obtain ⟨a7, a8, a9, a10, a11, a12⟩ := ct t ht
    refine ⟨?_, ?_, ?_, ?_, ?_, ?_⟩
    · rw [z 7 t (by omega), dR_rd (by omega)]; exact a7
    · rw [z 8 t (by omega), dR_rd (by omega)]; exact a8
    · rw [z 9 t (by omega), dR_rd (by omega)]; exact a9
    · rw [z 10 t (by omega), dR_rd (by omega)]; exact a10
    · rw [z 11 t (by omega), dR_rd (by omega)]; exact a11
    · rw [z 11 t (by omega), z 12 t (by omega), dR_rd (by omega)]; exact a12
theorem dR_put3 {s : fu_S} {i v : Nat} {D : dD} (hv : dV D) (hi : i < 5) (h : dR s 0 D) : dR (fu_pi s 122 (16 + i) (Int32.ofNat v)) 0 (dset D 3 i v) := by
  obtain ⟨⟨c0, c1, c2, c3, c4, c5⟩, ck, cp, ct⟩ := dR_0 h
  obtain ⟨⟨v0, v1, v2, v3, v4, v5⟩, -⟩ := hv
  have z : ∀ a b, a ≠ 3 → dset D 3 i v a b = D a b := fun a b ha => dset_f ha
  unfold dR
  simp only [Nat.mul_zero, Nat.zero_add]
  refine ⟨⟨?_, ?_, ?_, ?_, ?_, ?_⟩, fun k hk => ?_, fun p hp => ?_, fun t ht => ?_⟩
  · rw [z 0 3 (by omega), dR_rd (by omega)]; exact c0
  · rw [z 0 4 (by omega), dR_rd (by omega)]; exact c1
  · rw [z 0 5 (by omega), dR_rd (by omega)]; exact c2
  · rw [z 0 0 (by omega), dR_rd (by omega)]; exact c3
  · rw [z 0 1 (by omega), dR_rd (by omega)]; exact c4
  · rw [z 0 2 (by omega), dR_rd (by omega)]; exact c5
  · rw [z 0 3 (by omega)] at hk
    obtain ⟨a1, a2, a3⟩ := ck k hk
    refine ⟨?_, ?_, ?_⟩
    · rw [z 1 k (by omega), dR_rd (by omega)]; exact a1
    · rw [z 2 k (by omega), dR_rd (by omega)]; exact a2
    · by_cases e : k = i
      · subst e; rw [dset_s]; exact p1
      · rw [dset_i e, dR_rd (by omega)]; exact a3
  · rw [z 0 4 (by omega)] at hp
    obtain ⟨a4, a5, a6⟩ := cp p hp
    refine ⟨?_, ?_, ?_⟩
    · rw [z 4 p (by omega)]; exact a4
    · rw [z 5 p (by omega), dR_rd (by omega)]; exact a5
    · rw [z 6 p (by omega), dR_rd (by omega)]; exact a6
  · rw [z 0 5 (by omega)] at ht
    obtain ⟨a7, a8, a9, a10, a11, a12⟩ := ct t ht
    refine ⟨?_, ?_, ?_, ?_, ?_, ?_⟩
    · rw [z 7 t (by omega), dR_rd (by omega)]; exact a7
    · rw [z 8 t (by omega), dR_rd (by omega)]; exact a8
    · rw [z 9 t (by omega), dR_rd (by omega)]; exact a9
    · rw [z 10 t (by omega), dR_rd (by omega)]; exact a10
    · rw [z 11 t (by omega), dR_rd (by omega)]; exact a11
    · rw [z 11 t (by omega), z 12 t (by omega), dR_rd (by omega)]; exact a12
theorem dR_put5 {s : fu_S} {i v : Nat} {D : dD} (hv : dV D) (hi : i < 7) (h : dR s 0 D) : dR (fu_pi s 122 (21 + i) (Int32.ofNat v)) 0 (dset D 5 i v) := by
  obtain ⟨⟨c0, c1, c2, c3, c4, c5⟩, ck, cp, ct⟩ := dR_0 h
  obtain ⟨⟨v0, v1, v2, v3, v4, v5⟩, -⟩ := hv
  have z : ∀ a b, a ≠ 5 → dset D 5 i v a b = D a b := fun a b ha => dset_f ha
  unfold dR
  simp only [Nat.mul_zero, Nat.zero_add]
  refine ⟨⟨?_, ?_, ?_, ?_, ?_, ?_⟩, fun k hk => ?_, fun p hp => ?_, fun t ht => ?_⟩
  · rw [z 0 3 (by omega), dR_rd (by omega)]; exact c0
  · rw [z 0 4 (by omega), dR_rd (by omega)]; exact c1
  · rw [z 0 5 (by omega), dR_rd (by omega)]; exact c2
  · rw [z 0 0 (by omega), dR_rd (by omega)]; exact c3
  · rw [z 0 1 (by omega), dR_rd (by omega)]; exact c4
  · rw [z 0 2 (by omega), dR_rd (by omega)]; exact c5
  · rw [z 0 3 (by omega)] at hk
    obtain ⟨a1, a2, a3⟩ := ck k hk
    refine ⟨?_, ?_, ?_⟩
    · rw [z 1 k (by omega), dR_rd (by omega)]; exact a1
    · rw [z 2 k (by omega), dR_rd (by omega)]; exact a2
    · rw [z 3 k (by omega), dR_rd (by omega)]; exact a3
  · rw [z 0 4 (by omega)] at hp
    obtain ⟨a4, a5, a6⟩ := cp p hp
    refine ⟨?_, ?_, ?_⟩
    · rw [z 4 p (by omega)]; exact a4
    · by_cases e : p = i
      · subst e; rw [dset_s]; exact p1
      · rw [dset_i e, dR_rd (by omega)]; exact a5
    · rw [z 6 p (by omega), dR_rd (by omega)]; exact a6
  · rw [z 0 5 (by omega)] at ht
    obtain ⟨a7, a8, a9, a10, a11, a12⟩ := ct t ht
    refine ⟨?_, ?_, ?_, ?_, ?_, ?_⟩
    · rw [z 7 t (by omega), dR_rd (by omega)]; exact a7
    · rw [z 8 t (by omega), dR_rd (by omega)]; exact a8
    · rw [z 9 t (by omega), dR_rd (by omega)]; exact a9
    · rw [z 10 t (by omega), dR_rd (by omega)]; exact a10
    · rw [z 11 t (by omega), dR_rd (by omega)]; exact a11
    · rw [z 11 t (by omega), z 12 t (by omega), dR_rd (by omega)]; exact a12
theorem dR_put6 {s : fu_S} {i v : Nat} {D : dD} (hv : dV D) (hi : i < 7) (h : dR s 0 D) : dR (fu_pi s 122 (28 + i) (Int32.ofNat v)) 0 (dset D 6 i v) := by
  obtain ⟨⟨c0, c1, c2, c3, c4, c5⟩, ck, cp, ct⟩ := dR_0 h
  obtain ⟨⟨v0, v1, v2, v3, v4, v5⟩, -⟩ := hv
  have z : ∀ a b, a ≠ 6 → dset D 6 i v a b = D a b := fun a b ha => dset_f ha
  unfold dR
  simp only [Nat.mul_zero, Nat.zero_add]
  refine ⟨⟨?_, ?_, ?_, ?_, ?_, ?_⟩, fun k hk => ?_, fun p hp => ?_, fun t ht => ?_⟩
  · rw [z 0 3 (by omega), dR_rd (by omega)]; exact c0
  · rw [z 0 4 (by omega), dR_rd (by omega)]; exact c1
  · rw [z 0 5 (by omega), dR_rd (by omega)]; exact c2
  · rw [z 0 0 (by omega), dR_rd (by omega)]; exact c3
  · rw [z 0 1 (by omega), dR_rd (by omega)]; exact c4
  · rw [z 0 2 (by omega), dR_rd (by omega)]; exact c5
  · rw [z 0 3 (by omega)] at hk
    obtain ⟨a1, a2, a3⟩ := ck k hk
    refine ⟨?_, ?_, ?_⟩
    · rw [z 1 k (by omega), dR_rd (by omega)]; exact a1
    · rw [z 2 k (by omega), dR_rd (by omega)]; exact a2
    · rw [z 3 k (by omega), dR_rd (by omega)]; exact a3
  · rw [z 0 4 (by omega)] at hp
    obtain ⟨a4, a5, a6⟩ := cp p hp
    refine ⟨?_, ?_, ?_⟩
    · rw [z 4 p (by omega)]; exact a4
    · rw [z 5 p (by omega), dR_rd (by omega)]; exact a5
    · by_cases e : p = i
      · subst e; rw [dset_s]; exact p1
      · rw [dset_i e, dR_rd (by omega)]; exact a6
  · rw [z 0 5 (by omega)] at ht
    obtain ⟨a7, a8, a9, a10, a11, a12⟩ := ct t ht
    refine ⟨?_, ?_, ?_, ?_, ?_, ?_⟩
    · rw [z 7 t (by omega), dR_rd (by omega)]; exact a7
    · rw [z 8 t (by omega), dR_rd (by omega)]; exact a8
    · rw [z 9 t (by omega), dR_rd (by omega)]; exact a9
    · rw [z 10 t (by omega), dR_rd (by omega)]; exact a10
    · rw [z 11 t (by omega), dR_rd (by omega)]; exact a11
    · rw [z 11 t (by omega), z 12 t (by omega), dR_rd (by omega)]; exact a12
theorem dR_put0 {s : fu_S} {j v : Nat} {D : dD} (hv : dV D) (hj : j < 3) (h : dR s 0 D) : dR (fu_pi s 122 (3 + j) (Int32.ofNat v)) 0 (dset D 0 j v) := by
  obtain ⟨⟨c0, c1, c2, c3, c4, c5⟩, ck, cp, ct⟩ := dR_0 h
  obtain ⟨⟨v0, v1, v2, v3, v4, v5⟩, -⟩ := hv
  have z : ∀ a b, a ≠ 0 → dset D 0 j v a b = D a b := fun a b ha => dset_f ha
  have z0 : ∀ b, 3 ≤ b → dset D 0 j v 0 b = D 0 b := fun b hb => dset_i (by omega)
  have w : ∀ i, i < 3 → s.1 122 (3 + i) = Int32.ofNat (D 0 i) → (fu_pi s 122 (3 + j) (Int32.ofNat v)).1 122 (3 + i) = Int32.ofNat (dset D 0 j v 0 i) := fun i hi e => by
    by_cases h1 : i = j
    · subst h1; rw [dset_s]; exact p1
    · rw [dset_i h1, dR_rd (by omega)]; exact e
  unfold dR
  simp only [Nat.mul_zero, Nat.zero_add]
  refine ⟨⟨?_, ?_, ?_, w 0 (by omega) c3, w 1 (by omega) c4, w 2 (by omega) c5⟩, fun k hk => ?_, fun p hp => ?_, fun t ht => ?_⟩
  · rw [z0 3 (by omega), dR_rd (by omega)]; exact c0
  · rw [z0 4 (by omega), dR_rd (by omega)]; exact c1
  · rw [z0 5 (by omega), dR_rd (by omega)]; exact c2
  · rw [z0 3 (by omega)] at hk
    rw [z 1 k (by omega), z 2 k (by omega), z 3 k (by omega), dR_rd (by omega), dR_rd (by omega), dR_rd (by omega)]
    exact ck k hk
  · rw [z0 4 (by omega)] at hp
    rw [z 4 p (by omega), z 5 p (by omega), z 6 p (by omega), dR_rd (by omega), dR_rd (by omega)]
    exact cp p hp
  · rw [z0 5 (by omega)] at ht
    rw [z 7 t (by omega), z 8 t (by omega), z 9 t (by omega), z 10 t (by omega), z 11 t (by omega), z 12 t (by omega), dR_rd (by omega), dR_rd (by omega), dR_rd (by omega), dR_rd (by omega), dR_rd (by omega), dR_rd (by omega)]
    exact ct t ht
