/-! whether a number is a person, a kind, a thing; small things of both sides -/
theorem i_cases (x : Int32) : x < 0 ∨ ∃ n, n < 2147483648 ∧ x = Int32.ofNat n := by
  by_cases h : x < 0
  · exact .inl h
  · refine .inr ⟨x.toNatClampNeg, ?_, ?_⟩
    · have := Int32.toInt_lt x
      show x.toInt.toNat < 2147483648
      omega
    · rw [Int32.ofNat_toNatClampNeg]
      rw [Int32.lt_iff_toInt_lt] at h
      rw [Int32.le_iff_toInt_le]
      have : (0 : Int32).toInt = 0 := rfl
      omega
theorem i_neg {a : Nat} (ha : a < 2147483648) : ¬ Int32.ofNat a < 0 := by
  rw [i_ltl ha (by omega)]; omega
theorem i_neglt {x : Int32} {a : Nat} (h : x < 0) (ha : a < 2147483648) : x < Int32.ofNat a := by
  rw [Int32.lt_iff_toInt_lt] at h ⊢
  rw [i_ti ha]
  have : (0 : Int32).toInt = 0 := rfl
  omega
theorem l_lt {x y : Int32} : (Int32.toInt64 x < Int32.toInt64 y) ↔ x < y := by
  rw [Int64.lt_iff_toInt_lt, Int32.lt_iff_toInt_lt, Int32.toInt_toInt64, Int32.toInt_toInt64]
theorem l_le {x y : Int32} : (Int32.toInt64 x ≤ Int32.toInt64 y) ↔ x ≤ y := by
  rw [Int64.le_iff_toInt_le, Int32.le_iff_toInt_le, Int32.toInt_toInt64, Int32.toInt_toInt64]
theorem l_lit {n : Nat} (h : (OfNat.ofNat n : Nat) < 2147483648) : (OfNat.ofNat n : Int64) = Int32.toInt64 (OfNat.ofNat n : Int32) := by
  apply Int64.toInt_inj.mp
  rw [Int32.toInt_toInt64]
  show (Int64.ofNat n).toInt = (Int32.ofNat n).toInt
  have h' : n < 2147483648 := h
  rw [i_ti h', Int64.toInt_ofNat_of_lt (by omega)]
theorem r_isIn (x l h : Int64) : f_X12_isIn x l h = decide (¬ x < l ∧ x ≤ h) := by
  unfold f_X12_isIn fu_lt
  by_cases h1 : x < l <;> by_cases h2 : x ≤ h <;> simp [h1, h2]
theorem i_lepred {x : Int32} {n : Nat} (hn : n < 2147483648) : (x ≤ Int32.ofNat n - 1) ↔ x < Int32.ofNat n := by
  have h1 : (Int32.ofNat n - 1).toInt = (n : Int) - 1 := by
    rw [Int32.toInt_sub, i_ti hn, show (1 : Int32).toInt = 1 from rfl, Int.bmod_eq_of_le] <;> omega
  rw [Int32.le_iff_toInt_le, Int32.lt_iff_toInt_lt, h1, i_ti hn]
  omega
theorem r_isAt {x : Int32} {n : Nat} (hn : n < 2147483648) : f_X12_isIn (Int32.toInt64 x) (0 : Int64) (Int32.toInt64 (Int32.ofNat n - 1)) = decide (¬ x < 0 ∧ x < Int32.ofNat n) := by
  rw [r_isIn, show (0 : Int64) = Int32.toInt64 (0 : Int32) from rfl]
  simp only [l_lt, l_le, i_lepred hn]
theorem r_isInl {x : Int32} {n : Nat} (hn : (OfNat.ofNat n : Nat) < 2147483648) : f_X12_isIn (Int32.toInt64 x) (0 : Int64) (OfNat.ofNat n : Int64) = decide (¬ x < 0 ∧ x ≤ (OfNat.ofNat n : Int32)) := by
  rw [r_isIn, l_lit hn, show (0 : Int64) = Int32.toInt64 (0 : Int32) from rfl]
  simp only [l_lt, l_le]
theorem i_is {x : Int32} {n : Nat} (hn : n < 2147483648) (h : ¬ x < 0 ∧ x < Int32.ofNat n) : ∃ k, k < n ∧ x = Int32.ofNat k := by
  rcases i_cases x with z | ⟨k, hk, rfl⟩
  · exact absurd z h.1
  · exact ⟨k, (i_lt hk hn).mp h.2, rfl⟩
theorem i_isn {k n : Nat} (hk : k < n) (hn : n < 2147483648) : ¬ Int32.ofNat k < 0 ∧ Int32.ofNat k < Int32.ofNat n := ⟨i_neg (by omega), (i_lt (by omega) hn).mpr hk⟩
section BAS
variable {s : fu_S} {P b : Nat} {D : dD} {x : Int32}
theorem c_hasPerson (h : dC s P D) : f_X4_hasPerson s P x = decide (¬ x < 0 ∧ x < Int32.ofNat (D 0 4)) := by
  unfold f_X4_hasPerson fu_lt
  rw [h.1.2.2.2.2.1]
  by_cases h1 : x < 0 <;> by_cases h2 : x < Int32.ofNat (D 0 4) <;> simp [h1, h2]
theorem c_hasKind (h : dC s P D) : f_X4_hasKind s P x = decide (¬ x < 0 ∧ x < Int32.ofNat (D 0 3)) := by
  unfold f_X4_hasKind fu_lt
  rw [h.1.2.2.2.1]
  by_cases h1 : x < 0 <;> by_cases h2 : x < Int32.ofNat (D 0 3) <;> simp [h1, h2]
theorem c_hasThing (h : dC s P D) : f_X4_hasThing s P x = decide (¬ x < 0 ∧ x < Int32.ofNat (D 0 5)) := by
  unfold f_X4_hasThing fu_lt
  rw [h.1.2.2.2.2.2]
  by_cases h1 : x < 0 <;> by_cases h2 : x < Int32.ofNat (D 0 5) <;> simp [h1, h2]
theorem r_isPerson (h : dR s 0 D) (hv : dV D) : f_X12_isPersonAt s (Int32.toInt64 x) = decide (¬ x < 0 ∧ x < Int32.ofNat (D 0 4)) := by
  unfold f_X12_isPersonAt
  have := h.1.2.1
  rw [show s.1 122 1 = Int32.ofNat (D 0 4) from this]
  exact r_isAt (by have := hv.1; omega)
theorem r_isKind (h : dR s 0 D) (hv : dV D) : f_X12_isKindAt s (Int32.toInt64 x) = decide (¬ x < 0 ∧ x < Int32.ofNat (D 0 3)) := by
  unfold f_X12_isKindAt
  have := h.1.1
  rw [show s.1 122 0 = Int32.ofNat (D 0 3) from this]
  exact r_isAt (by have := hv.1; omega)
theorem r_isThing (h : dR s 0 D) (hv : dV D) : f_X12_isThingAt s x = decide (¬ x < 0 ∧ x < Int32.ofNat (D 0 5)) := by
  unfold f_X12_isThingAt
  have := h.1.2.2.1
  rw [show s.1 122 2 = Int32.ofNat (D 0 5) from this]
  exact r_isAt (by have := hv.1; omega)
end BAS
/-! what a call's start and a refusal write -/
def sC (s : fu_S) (x : Int32) : fu_S := fu_pi s 0 15 x
def sR (s : fu_S) (x : Int32) : fu_S := fu_pi (fu_pi s 117 1 0) 117 0 x
theorem sC_def {s : fu_S} {x : Int32} : fu_pi s 0 15 x = sC s x := rfl
theorem sR_def {s : fu_S} {x : Int32} : fu_pi (fu_pi s 117 1 0) 117 0 x = sR s x := rfl
theorem pp {s : fu_S} {a q : Nat} {x y : Int32} : fu_pi (fu_pi s a q x) a q y = fu_pi s a q y := by
  unfold fu_pi
  congr 1
  funext b r
  dsimp only
  by_cases h : b = a ∧ r = q <;> simp [h]
theorem sR_no {s : fu_S} {x y : Int32} : f_X12_no (sR s x) y = (false, sR s y) := by
  unfold f_X12_no sR fu_lt
  rw [pp]
theorem sR_refuse {s : fu_S} {x y : Int32} : f_X12_refuse (sR s x) y = (-1, sR s y) := by
  unfold f_X12_refuse sR fu_lt
  rw [pp]
theorem sR_again {s : fu_S} {x y : Int32} : fu_pi (sR s x) 117 0 y = sR s y := pp
theorem i_negne {x : Int32} {n : Nat} (h : x < 0) (hn : (OfNat.ofNat n : Nat) < 2147483648) : (x = (no_index (OfNat.ofNat n) : Int32)) ↔ False := by
  simp only [iff_false]
  intro z
  have h' : n < 2147483648 := hn
  rw [Int32.lt_iff_toInt_lt, z] at h
  have h1 : (OfNat.ofNat n : Int32).toInt = n := i_ti h'
  rw [h1, show (0 : Int32).toInt = 0 from rfl] at h
  omega
theorem sC_st {s : fu_S} {x : Int32} : (sC s x).1 0 15 = x := p1
theorem sR_st {s : fu_S} {x : Int32} : (sR s x).1 117 0 = x := p1
theorem sC_1 {s : fu_S} {x : Int32} {a : Nat} (h : a ≠ 0) : (sC s x).1 a = s.1 a := p1n h
theorem sC_2 {s : fu_S} {x : Int32} : (sC s x).2 = s.2 := rfl
theorem sR_1 {s : fu_S} {x : Int32} {a : Nat} (h : a ≠ 117) : (sR s x).1 a = s.1 a := (p1n h).trans (p1n h)
theorem sR_2 {s : fu_S} {x : Int32} : (sR s x).2 = s.2 := rfl
theorem eqC_sC {s : fu_S} {x : Int32} : eqC s (sC s x) := eqC_st
theorem eqR_sR {s : fu_S} {x : Int32} : eqR s (sR s x) := eqR_tr (eqR_st (by omega) (by omega) (by omega) (by omega) (by omega)) (eqR_st (by omega) (by omega) (by omega) (by omega) (by omega))
theorem dI_s {s1 s2 : fu_S} {x : Int32} (h : dI s1 s2) : dI (sC s1 x) (sR s2 x) := dI_eq h eqC_sC eqR_sR (sC_st.trans sR_st.symm)
theorem dC_s {s : fu_S} {x : Int32} {P : Nat} {D : dD} (hP : P ≠ 0) (h : dC s P D) : dC (sC s x) P D := dC_congr (fun k _ => ⟨sC_1 (by omega), rfl⟩) h
theorem dR_s {s : fu_S} {x : Int32} {b : Nat} {D : dD} (hv : dV D) (h : dR s b D) : dR (sR s x) b D := dR_congr hv (fun i _ _ => by rw [sR_1 (by omega)]) (fun i _ _ => rfl) h
theorem dI_D {s1 s2 : fu_S} (h : dI s1 s2) : ∃ D, dV D ∧ dC s1 11 D ∧ dR s2 0 D ∧ dQ s1 24 s2 0 D := h.2.2.2.2.2.2.1
theorem ob {α β : Type} {x : Option α} {a : α} {f : α → Option β} (h : x = some a) : Option.bind x f = f a := by rw [h]; rfl
