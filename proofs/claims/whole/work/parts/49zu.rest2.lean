/-! days: the rest of a step -/
section RST
variable {s t r s1 s2 t1 t2 : fu_S} {u : Nat → Nat} {n T p q e f k i g v j m l lo w P V W R G : Nat} {x y a b c : Int32} {z : Int64} {D : dD}
theorem RS_w {A : Option (Bool × fu_S)} {B : Option fu_S} {W W' : fu_S → fu_S → Prop} (hW : ∀ r1 r2, kR s2 r2 w → W r1 r2 → W' r1 r2) (h : RS u n T s1 s2 l m w i A B W) : RS u n T s1 s2 l m w i A B W' := by
  rcases h with ⟨r1, r2, i2, a1, a2, a3, a4, a5, a6, a7, a8⟩ | ⟨r1, r2, a1, a2, a3, a4, a5⟩
  · exact .inl ⟨r1, r2, i2, a1, a2, a3, a4, a5, a6, a7, hW _ _ a6 a8⟩
  · exact .inr ⟨r1, r2, a1, a2, a3, a4, a5⟩
theorem ob_id {A : Option (Bool × fu_S)} : (Option.bind A fun r => some (r.1, r.2)) = A := by cases A <;> rfl
theorem R_rest (h : OK u n T s1 s2 i) (hC : dC s1 11 D) (hR : dR s2 0 D) (hv : dV D) (h4 : s1.1 42 4 = Int32.ofNat l) (h5 : s1.1 42 5 = Int32.ofNat m) (hl : l < 60) (hw : w + 8 < 1775) (hw1 : 0 < w) (hG : d_sw G ≠ 7) (hk : s2.1 122 w = Int32.ofNat (d_sw G)) : RS u n T s1 s2 l m w i (f_X6_takeRest s1 (Int32.ofNat G)) (f_X12_readRest s2 (Int32.ofNat w)) (fun t1 t2 => if G = 115 ∨ G = 119 then dT t1 42 t2 w l else dS t1 42 t2 w D l) := by
  have q0 : am_in (Int32.ofNat w) 1775 = true := by rw [i_in (by omega)]; exact decide_eq_true (by omega)
  have w0 : (Int32.ofNat w).toNatClampNeg = w := i_tn (by omega)
  have hp4 := hv.1
  have hcases : G = 112 ∨ G = 111 ∨ G = 113 ∨ G = 114 ∨ G = 115 ∨ G = 119 ∨ G = 121 := by
    refine Classical.byContradiction fun z => hG ?_
    unfold d_sw
    rw [if_neg (by omega), if_neg (by omega), if_neg (by omega), if_neg (by omega), if_neg (by omega), if_neg (by omega), if_neg (by omega)]
  rcases hcases with rfl | rfl | rfl | rfl | rfl | rfl | rfl
  · replace hk : s2.1 122 w = 0 := hk
    have key := L_cnt (x := 112) h h4 h5 hl hw
    have hB : f_X12_readRest s2 (Int32.ofNat w) = Option.bind (Option.bind (f_X12_count s2 (1 : Int32) (99 : Int32)) fun r4 => if am_in (Int32.ofNat w + (1 : Int32)) 1775 = true then fu_lt (fu_pi r4.2 122 (Int32.toNatClampNeg (Int32.ofNat w + (1 : Int32))) r4.1) fun s5 => some s5 else none) (fun j => some j) := by
      unfold f_X12_readRest
      rw [if_pos q0, w0, hk, if_pos rfl]
    have hA : f_X6_takeRest s1 (Int32.ofNat 112) = f_X6_takeCount s1 112 := by
      unfold f_X6_takeRest
      rw [if_neg (show ¬ Int32.ofNat 112 = 111 from by decide), if_pos (show Int32.ofNat 112 = 112 from rfl)]
      exact ob_id
    rw [hB]
    refine RS_w (fun r1 r2 kr hh => ?_) (RS_k hA (fun _ _ _ _ => rfl) key)
    obtain ⟨z1, v, z2, z3, z4, z5⟩ := hh
    rw [if_neg (by omega)]
    exact .inl ⟨z1, (kr.2.2.2.2 w (.inl (Nat.le_refl _))).trans hk, v, z2, z3, z4, z5⟩
  · replace hk : s2.1 122 w = 1 := hk
    have e3 : s1.1 11 3 = Int32.ofNat (D 0 3) := hC.1.2.2.2.1
    have r3 : s2.1 122 0 = Int32.ofNat (D 0 3) := hR.1.1
    have key := L_deed (x := 111) (y := Int32.ofNat (D 0 3) - 1) (Y := fun s15 => if (1 : Int32) = (1 : Int32) then some ((s15.1 122 0) - (1 : Int32)) else some (7 : Int32)) h h4 h5 hl hw hC hR hv (fun t ht => by rw [if_pos rfl, ht, r3]) hw1
    have hB : f_X12_readRest s2 (Int32.ofNat w) = Option.bind (Option.bind (f_X12_readTold s2 (0 : Int32)) fun r14 => if am_in (Int32.ofNat w + (1 : Int32)) 1775 = true then fu_lt (fu_pi r14.2 122 (Int32.toNatClampNeg (Int32.ofNat w + (1 : Int32))) r14.1) fun s15 => Option.bind (if (1 : Int32) = (1 : Int32) then some ((s15.1 122 0) - (1 : Int32)) else some (7 : Int32)) fun (j17 : Int32) => Option.bind (f_X12_count s15 (0 : Int32) j17) fun r19 => if am_in (Int32.ofNat w + (2 : Int32)) 1775 = true then fu_lt (fu_pi r19.2 122 (Int32.toNatClampNeg (Int32.ofNat w + (2 : Int32))) r19.1) fun s20 => some s20 else none else none) (fun j => some j) := by
      unfold f_X12_readRest
      rw [if_pos q0, w0, hk, if_neg (show ¬ (1 : Int32) = 0 from by decide), if_neg (show ¬ (1 : Int32) = 5 from by decide), if_neg (show ¬ (1 : Int32) = 4 from by decide)]
      refine congrArg (fun A => Option.bind A fun j => some j) ?_
      exact if_pos rfl
    have hA : f_X6_takeRest s1 (Int32.ofNat 111) = f_X6_takeDeedOf s1 111 (Int32.ofNat (D 0 3) - 1) := by
      unfold f_X6_takeRest f_X4_kinds
      rw [if_pos (show Int32.ofNat 111 = 111 from rfl), e3]
      exact ob_id
    rw [hB]
    refine RS_w (fun r1 r2 kr hh => ?_) (RS_k hA (fun _ _ _ _ => rfl) key)
    obtain ⟨z1, p, v, z2, z3, z4, z5, z6, z7, z8⟩ := hh
    rw [if_neg (by omega)]
    exact .inr (.inl ⟨z1, (kr.2.2.2.2 w (.inl (Nat.le_refl _))).trans hk, p, v, z2, (i_lt (by omega) (by omega)).mp ((i_lepred (by omega)).mp z3), z5, z6, z7, z8⟩)
  · replace hk : s2.1 122 w = 2 := hk
    have key := L_deed (x := 113) (y := 7) (Y := fun s15 => if (2 : Int32) = (1 : Int32) then some ((s15.1 122 0) - (1 : Int32)) else some (7 : Int32)) h h4 h5 hl hw hC hR hv (fun t ht => if_neg (by decide)) hw1
    have hB : f_X12_readRest s2 (Int32.ofNat w) = Option.bind (Option.bind (f_X12_readTold s2 (0 : Int32)) fun r14 => if am_in (Int32.ofNat w + (1 : Int32)) 1775 = true then fu_lt (fu_pi r14.2 122 (Int32.toNatClampNeg (Int32.ofNat w + (1 : Int32))) r14.1) fun s15 => Option.bind (if (2 : Int32) = (1 : Int32) then some ((s15.1 122 0) - (1 : Int32)) else some (7 : Int32)) fun (j17 : Int32) => Option.bind (f_X12_count s15 (0 : Int32) j17) fun r19 => if am_in (Int32.ofNat w + (2 : Int32)) 1775 = true then fu_lt (fu_pi r19.2 122 (Int32.toNatClampNeg (Int32.ofNat w + (2 : Int32))) r19.1) fun s20 => some s20 else none else none) (fun j => some j) := by
      unfold f_X12_readRest
      rw [if_pos q0, w0, hk, if_neg (show ¬ (2 : Int32) = 0 from by decide), if_neg (show ¬ (2 : Int32) = 5 from by decide), if_neg (show ¬ (2 : Int32) = 4 from by decide)]
      refine congrArg (fun A => Option.bind A fun j => some j) ?_
      exact (if_neg (by decide)).trans (if_pos rfl)
    have hA : f_X6_takeRest s1 (Int32.ofNat 113) = f_X6_takeDeedOf s1 113 7 := by
      unfold f_X6_takeRest
      rw [if_neg (show ¬ Int32.ofNat 113 = 111 from by decide), if_neg (show ¬ Int32.ofNat 113 = 112 from by decide), if_pos (show Int32.ofNat 113 = 113 from rfl)]
      exact ob_id
    rw [hB]
    refine RS_w (fun r1 r2 kr hh => ?_) (RS_k hA (fun _ _ _ _ => rfl) key)
    obtain ⟨z1, p, v, z2, z3, z4, z5, z6, z7, z8⟩ := hh
    have hv7 : v ≤ 7 := (i_lel (n := 7) (by omega) (show (7 : Nat) < 2147483648 by omega)).mp z3
    rw [if_neg (by omega)]
    exact .inr (.inr (.inl ⟨z1, (kr.2.2.2.2 w (.inl (Nat.le_refl _))).trans hk, p, v, z2, by omega, z5, z6, z7, z8⟩))
  · replace hk : s2.1 122 w = 3 := hk
    refine .inl ⟨adS s1 l m 114 0 0, s2, i, ?_, ?_, OK_ad h, Nat.le_refl _, kC_ad, kR_rf, ⟨ad4, ad5⟩, ?_⟩
    · unfold f_X6_takeRest
      rw [if_neg (show ¬ Int32.ofNat 114 = 111 from by decide), if_neg (show ¬ Int32.ofNat 114 = 112 from by decide), if_neg (show ¬ Int32.ofNat 114 = 113 from by decide), if_neg (show ¬ Int32.ofNat 114 = 115 from by decide), if_neg (show ¬ Int32.ofNat 114 = 119 from by decide), c_adS h4 h5 hl, Option.bind_some]
      rfl
    · unfold f_X12_readRest
      rw [if_pos q0, w0, hk, if_neg (show ¬ (3 : Int32) = 0 from by decide), if_neg (show ¬ (3 : Int32) = 5 from by decide), if_neg (show ¬ (3 : Int32) = 4 from by decide)]
      rfl
    · dsimp only
      rw [if_neg (by omega)]
      exact .inr (.inr (.inr (.inl ⟨ad1, hk, ad2, ad3⟩)))
  · replace hk : s2.1 122 w = 4 := hk
    have key := R_test (x := 115) h h4 h5 hl hw
    have hB : f_X12_readRest s2 (Int32.ofNat w) = Option.bind (f_X12_readTest s2 (Int32.ofNat w)) (fun j => some j) := by
      unfold f_X12_readRest
      rw [if_pos q0, w0, hk, if_neg (show ¬ (4 : Int32) = 0 from by decide), if_neg (show ¬ (4 : Int32) = 5 from by decide), if_pos rfl]
      cases f_X12_readTest s2 (Int32.ofNat w) <;> rfl
    have hA : f_X6_takeRest s1 (Int32.ofNat 115) = f_X6_takeTest s1 115 := by
      unfold f_X6_takeRest
      rw [if_neg (show ¬ Int32.ofNat 115 = 111 from by decide), if_neg (show ¬ Int32.ofNat 115 = 112 from by decide), if_neg (show ¬ Int32.ofNat 115 = 113 from by decide), if_pos (show Int32.ofNat 115 = 115 from rfl)]
      exact ob_id
    rw [hB]
    refine RS_w (fun r1 r2 kr hh => ?_) (RS_k hA (fun _ _ _ _ => rfl) key)
    rw [if_pos (by omega)]
    exact .inr ⟨hh.1, (kr.2.2.2.2 w (.inl (Nat.le_refl _))).trans hk, hh.2⟩
  · replace hk : s2.1 122 w = 5 := hk
    have key := L_cnt (x := 119) h h4 h5 hl hw
    have hB : f_X12_readRest s2 (Int32.ofNat w) = Option.bind (Option.bind (f_X12_count s2 (1 : Int32) (99 : Int32)) fun r4 => if am_in (Int32.ofNat w + (1 : Int32)) 1775 = true then fu_lt (fu_pi r4.2 122 (Int32.toNatClampNeg (Int32.ofNat w + (1 : Int32))) r4.1) fun s5 => some s5 else none) (fun j => some j) := by
      unfold f_X12_readRest
      rw [if_pos q0, w0, hk, if_neg (show ¬ (5 : Int32) = 0 from by decide), if_pos rfl]
    have hA : f_X6_takeRest s1 (Int32.ofNat 119) = f_X6_takeCount s1 119 := by
      unfold f_X6_takeRest
      rw [if_neg (show ¬ Int32.ofNat 119 = 111 from by decide), if_neg (show ¬ Int32.ofNat 119 = 112 from by decide), if_neg (show ¬ Int32.ofNat 119 = 113 from by decide), if_neg (show ¬ Int32.ofNat 119 = 115 from by decide), if_pos (show Int32.ofNat 119 = 119 from rfl)]
      exact ob_id
    rw [hB]
    refine RS_w (fun r1 r2 kr hh => ?_) (RS_k hA (fun _ _ _ _ => rfl) key)
    obtain ⟨z1, v, z2, z3, z4, z5⟩ := hh
    rw [if_pos (by omega)]
    exact .inl ⟨z1, (kr.2.2.2.2 w (.inl (Nat.le_refl _))).trans hk, v, z2, z3, z4, z5⟩
  · replace hk : s2.1 122 w = 6 := hk
    refine .inl ⟨adS s1 l m 121 0 0, s2, i, ?_, ?_, OK_ad h, Nat.le_refl _, kC_ad, kR_rf, ⟨ad4, ad5⟩, ?_⟩
    · unfold f_X6_takeRest
      rw [if_neg (show ¬ Int32.ofNat 121 = 111 from by decide), if_neg (show ¬ Int32.ofNat 121 = 112 from by decide), if_neg (show ¬ Int32.ofNat 121 = 113 from by decide), if_neg (show ¬ Int32.ofNat 121 = 115 from by decide), if_neg (show ¬ Int32.ofNat 121 = 119 from by decide), c_adS h4 h5 hl, Option.bind_some]
      rfl
    · unfold f_X12_readRest
      rw [if_pos q0, w0, hk, if_neg (show ¬ (6 : Int32) = 0 from by decide), if_neg (show ¬ (6 : Int32) = 5 from by decide), if_neg (show ¬ (6 : Int32) = 4 from by decide)]
      rfl
    · dsimp only
      rw [if_neg (by omega)]
      exact .inr (.inr (.inr (.inr ⟨ad1, hk⟩)))
end RST
