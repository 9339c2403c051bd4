/-! days: a when's test; the rest of a step -/
section TST
variable {s t r s1 s2 t1 t2 : fu_S} {u : Nat → Nat} {n T p q e f k i g v j m l lo w P V W R G : Nat} {x y a b c : Int32} {z : Int64} {D : dD}
theorem L_tn (h : OK u n T s1 s2 i) (h4 : s1.1 42 4 = Int32.ofNat l) (h5 : s1.1 42 5 = Int32.ofNat m) (hl : l < 60) (hj : 1 ≤ j ∧ j < 8) (hw : w + 8 < 1775) : RS u n T s1 s2 l m w i (Option.bind (f_X8_takeNumber s1 (0 : Int32) y) fun r25 => Option.bind (f_X5_addStep r25.2 42 x b r25.1) fun r26 => Option.bind (if r25.1 = (-1 : Int32) then some false else some true) fun (j27 : Bool) => some (j27, r26)) (Option.bind (f_X12_count s2 (0 : Int32) y) fun r8 => if am_in (Int32.ofNat w + Int32.ofNat j) 1775 = true then fu_lt (fu_pi r8.2 122 (Int32.toNatClampNeg (Int32.ofNat w + Int32.ofNat j)) r8.1) fun s9 => some s9 else none) (fun t1 t2 => t1.1 43 l = x ∧ t1.1 44 l = b ∧ ∃ v, Int32.ofNat v ≤ y ∧ v ≤ 9999 ∧ t1.1 45 l = Int32.ofNat v ∧ t2.1 122 (w + j) = Int32.ofNat v ∧ ∀ q, q ≠ w + j → t2.1 122 q = s2.1 122 q) := by
  obtain ⟨q1, w1⟩ := wq (w := w) (j := j) (by omega)
  rcases L_num (lo := 0) (y := y) h (by omega) with ⟨-, v, -, -, hv9, hvy, t1, t2, b1, b2, b3, b4, b5⟩ | ⟨t1, t2, b1, b2, b3, b4, b5⟩
  · have b1' : f_X8_takeNumber s1 0 y = some (Int32.ofNat v, t1) := b1
    have b2' : f_X12_count s2 0 y = some (Int32.ofNat v, t2) := b2
    have e4 : t1.1 42 4 = Int32.ofNat l := by rw [b4.1 42 (by omega)]; exact h4
    have e5 : t1.1 42 5 = Int32.ofNat m := by rw [b4.1 42 (by omega)]; exact h5
    refine .inl ⟨adS t1 l m x b (Int32.ofNat v), fu_pi t2 122 (w + j) (Int32.ofNat v), i + 1, ?_, ?_, OK_r2 (OK_ad b3), by omega, kC_tr (kC_5 b4) kC_ad, kR_tr (kR_7 b5) (kR_pi (by omega)), ⟨ad4, ad5⟩, ad1, ad2, v, hvy, hv9, ad3, p1, fun q hq => ?_⟩
    · rw [b1', Option.bind_some]
      dsimp only
      rw [c_adS e4 e5 hl, Option.bind_some, if_neg (e_neg1 (by omega)), Option.bind_some]
    · rw [b2', Option.bind_some]
      dsimp only
      rw [if_pos q1, w1]
      rfl
    · rw [p1q hq, (b5.1 122 (by omega)).1]
  · have b1' : f_X8_takeNumber s1 0 y = some (-1, t1) := b1
    have b2' : f_X12_count s2 0 y = some (0, t2) := b2
    have e4 : t1.1 42 4 = Int32.ofNat l := by rw [b4.1 42 (by omega)]; exact h4
    have e5 : t1.1 42 5 = Int32.ofNat m := by rw [b4.1 42 (by omega)]; exact h5
    refine .inr ⟨adS t1 l m x b (-1), fu_pi t2 122 (w + j) 0, ?_, ?_, BA_r (BA_ad b3), kC_tr (kC_5 b4) kC_ad, kR_tr (kR_7 b5) (kR_pi (by omega))⟩
    · rw [b1', Option.bind_some]
      dsimp only
      rw [c_adS e4 e5 hl, Option.bind_some, if_pos rfl, Option.bind_some]
    · rw [b2', Option.bind_some]
      dsimp only
      rw [if_pos q1, w1]
      rfl
theorem RS_tr {A : Option (Bool × fu_S)} {B : Option fu_S} {W W' : fu_S → fu_S → Prop} {i' : Nat} (hi : i ≤ i') (h1 : kC s1 t1 l) (h2 : kR s2 t2 w) (hW : ∀ r1 r2, W r1 r2 → W' r1 r2) (h : RS u n T t1 t2 l m w i' A B W) : RS u n T s1 s2 l m w i A B W' := by
  rcases h with ⟨r1, r2, i2, a1, a2, a3, a4, a5, a6, a7, a8⟩ | ⟨r1, r2, a1, a2, a3, a4, a5⟩
  · exact .inl ⟨r1, r2, i2, a1, a2, a3, by omega, kC_tr h1 a5, kR_tr h2 a6, a7, hW _ _ a8⟩
  · exact .inr ⟨r1, r2, a1, a2, a3, kC_tr h1 a4, kR_tr h2 a5⟩
theorem RS_k {A A' : Option (Bool × fu_S)} {B : Option fu_S} {W : fu_S → fu_S → Prop} {K : fu_S → Option fu_S} (hA : A' = A) (hK : ∀ t1 t2 i', OK u n T t1 t2 i' ∨ BA t1 t2 → K t2 = some t2) (h : RS u n T s1 s2 l m w i A B W) : RS u n T s1 s2 l m w i A' (Option.bind B K) W := by
  rcases h with ⟨r1, r2, i2, a1, a2, a3, a4⟩ | ⟨r1, r2, a1, a2, a3, a4⟩
  · exact .inl ⟨r1, r2, i2, by rw [hA]; exact a1, by rw [a2, Option.bind_some]; exact hK r1 r2 i2 (.inl a3), a3, a4⟩
  · exact .inr ⟨r1, r2, by rw [hA]; exact a1, by rw [a2, Option.bind_some]; exact hK r1 r2 0 (.inr a3), a3, a4⟩
/-- which tests a line may bear -/
def wT (w l : Nat) (x : Int32) (t1 t2 : fu_S) : Prop := t1.1 43 l = x ∧ ((t1.1 44 l = 116 ∧ t2.1 122 (w + 5) = 0 ∧ ∃ t, t < 8 ∧ t1.1 45 l = Int32.ofNat t ∧ t2.1 122 (w + 1) = Int32.ofNat t) ∨
    (t1.1 44 l = 117 ∧ t2.1 122 (w + 5) = 1 ∧ ∃ t, t < 8 ∧ t1.1 45 l = Int32.ofNat t ∧ t2.1 122 (w + 1) = Int32.ofNat t) ∨
    (t2.1 122 (w + 5) = 2 ∧ (t1.1 44 l = 60 ∨ t1.1 44 l = 62 ∨ t1.1 44 l = 61) ∧ t2.1 122 (w + 7) = t1.1 44 l ∧ ∃ n, n ≤ 9999 ∧ t1.1 45 l = Int32.ofNat n ∧ t2.1 122 (w + 6) = Int32.ofNat n))
theorem R_test (h : OK u n T s1 s2 i) (h4 : s1.1 42 4 = Int32.ofNat l) (h5 : s1.1 42 5 = Int32.ofNat m) (hl : l < 60) (hw : w + 8 < 1775) : RS u n T s1 s2 l m w i (f_X6_takeTest s1 x) (f_X12_readTest s2 (Int32.ofNat w)) (wT w l x) := by
  obtain ⟨q5, w5⟩ : am_in (Int32.ofNat w + 5) 1775 = true ∧ (Int32.ofNat w + 5).toNatClampNeg = w + 5 := wq (j := 5) (by omega)
  obtain ⟨q7, w7⟩ : am_in (Int32.ofNat w + 7) 1775 = true ∧ (Int32.ofNat w + 7).toNatClampNeg = w + 7 := wq (j := 7) (by omega)
  have e0 := OK_sort h
  have hG := tG_lt (u := u) (n := n) (q := tq u n i)
  have ht := wd_test h
  have ne : ∀ k : Nat, k < 1000 → tG u n (tq u n i) ≠ k → ¬ Int32.ofNat (tG u n (tq u n i)) = Int32.ofNat k := fun k hk hz z => hz ((i_eq (by omega) (by omega)).mp z)
  by_cases g6 : tG u n (tq u n i) = 116
  · rw [g6] at ht e0
    replace ht : f_X12_testWord s2 = 0 := ht
    replace e0 : f_X8_sortHere s1 = some 116 := e0
    obtain ⟨t1, t2, a1, a2, a3, a4, a5⟩ := L_next h (by omega)
    obtain ⟨X, hX⟩ : ∃ X, X = fu_pi t2 122 (w + 5) 0 := ⟨_, rfl⟩
    have x5 : X.1 122 (w + 5) = 0 := by rw [hX, p1]
    have hOK : OK u n T t1 X (i + 1) := by rw [hX]; exact OK_r2 a3
    have hkX : kR t2 X w := by rw [hX]; exact kR_pi (by omega)
    have key := L_tn (x := x) (b := 116) (y := 7) (j := 1) hOK (by rw [a4.1 42 (by omega)]; exact h4) (by rw [a4.1 42 (by omega)]; exact h5) hl (by omega) hw
    have hB : f_X12_readTest s2 (Int32.ofNat w) = Option.bind (Option.bind (f_X12_count X (0 : Int32) 7) fun r8 => if am_in (Int32.ofNat w + Int32.ofNat 1) 1775 = true then fu_lt (fu_pi r8.2 122 (Int32.toNatClampNeg (Int32.ofNat w + Int32.ofNat 1)) r8.1) fun s9 => some s9 else none) (fun j6 => if (j6.1 117 12) ≤ 0 then some j6 else some j6) := by
      unfold f_X12_readTest
      rw [ht, if_neg (show ¬ (0 : Int32) < 0 from by decide), Option.bind_some, a2, Option.bind_some, if_pos q5, w5]
      unfold fu_lt
      dsimp only
      rw [← hX, if_pos rfl]
      refine congrArg (Option.bind _) (funext fun j6 => ?_)
      rw [if_pos (show (0 : Int32) < 2 from by decide)]
    have hA : f_X6_takeTest s1 x = Option.bind (f_X8_takeNumber t1 (0 : Int32) 7) fun r25 => Option.bind (f_X5_addStep r25.2 42 x 116 r25.1) fun r26 => Option.bind (if r25.1 = (-1 : Int32) then some false else some true) fun (j27 : Bool) => some (j27, r26) := by
      unfold f_X6_takeTest fu_lt
      rw [e0, Option.bind_some, if_pos rfl, a1]
      dsimp only
      rw [if_neg (show ¬ (116 : Int32) = 118 from by decide)]
    rw [hB]
    refine RS_tr (by omega) (kC_5 a4) (kR_tr (kR_7 a5) hkX) (fun r1 r2 hh => hh) (RS_k hA (fun _ t2 _ _ => by split <;> rfl) (RS_tr (t1 := t1) (t2 := X) (Nat.le_refl _) kC_rf kR_rf (fun r1 r2 hh => ?_) key))
    obtain ⟨z1, z2, v, z3, z4, z5, z6, z7⟩ := hh
    have hv : v ≤ 7 := (i_lel (n := 7) (by omega) (show (7 : Nat) < 2147483648 by omega)).mp z3
    exact ⟨z1, .inl ⟨z2, (z7 (w + 5) (by omega)).trans x5, v, by omega, z5, z6⟩⟩
  by_cases g7 : tG u n (tq u n i) = 117
  · rw [g7] at ht e0
    replace ht : f_X12_testWord s2 = 1 := ht
    replace e0 : f_X8_sortHere s1 = some 117 := e0
    obtain ⟨t1, t2, a1, a2, a3, a4, a5⟩ := L_next h (by omega)
    obtain ⟨X, hX⟩ : ∃ X, X = fu_pi t2 122 (w + 5) 1 := ⟨_, rfl⟩
    have x5 : X.1 122 (w + 5) = 1 := by rw [hX, p1]
    have hOK : OK u n T t1 X (i + 1) := by rw [hX]; exact OK_r2 a3
    have hkX : kR t2 X w := by rw [hX]; exact kR_pi (by omega)
    have key := L_tn (x := x) (b := 117) (y := 7) (j := 1) hOK (by rw [a4.1 42 (by omega)]; exact h4) (by rw [a4.1 42 (by omega)]; exact h5) hl (by omega) hw
    have hB : f_X12_readTest s2 (Int32.ofNat w) = Option.bind (Option.bind (f_X12_count X (0 : Int32) 7) fun r8 => if am_in (Int32.ofNat w + Int32.ofNat 1) 1775 = true then fu_lt (fu_pi r8.2 122 (Int32.toNatClampNeg (Int32.ofNat w + Int32.ofNat 1)) r8.1) fun s9 => some s9 else none) (fun j6 => if (j6.1 117 12) ≤ 0 then some j6 else some j6) := by
      unfold f_X12_readTest
      rw [ht, if_neg (show ¬ (1 : Int32) < 0 from by decide), Option.bind_some, a2, Option.bind_some, if_pos q5, w5]
      unfold fu_lt
      dsimp only
      rw [← hX, if_neg (show ¬ (1 : Int32) = 0 from by decide), if_pos rfl]
      refine congrArg (Option.bind _) (funext fun j6 => ?_)
      rw [if_pos (show (1 : Int32) < 2 from by decide)]
    have hA : f_X6_takeTest s1 x = Option.bind (f_X8_takeNumber t1 (0 : Int32) 7) fun r25 => Option.bind (f_X5_addStep r25.2 42 x 117 r25.1) fun r26 => Option.bind (if r25.1 = (-1 : Int32) then some false else some true) fun (j27 : Bool) => some (j27, r26) := by
      unfold f_X6_takeTest fu_lt
      rw [e0, Option.bind_some, if_neg (show ¬ (117 : Int32) = 116 from by decide), if_pos rfl, a1]
      dsimp only
      rw [if_neg (show ¬ (117 : Int32) = 118 from by decide)]
    rw [hB]
    refine RS_tr (by omega) (kC_5 a4) (kR_tr (kR_7 a5) hkX) (fun r1 r2 hh => hh) (RS_k hA (fun _ t2 _ _ => by split <;> rfl) (RS_tr (t1 := t1) (t2 := X) (Nat.le_refl _) kC_rf kR_rf (fun r1 r2 hh => ?_) key))
    obtain ⟨z1, z2, v, z3, z4, z5, z6, z7⟩ := hh
    have hv : v ≤ 7 := (i_lel (n := 7) (by omega) (show (7 : Nat) < 2147483648 by omega)).mp z3
    exact ⟨z1, .inr (.inl ⟨z2, (z7 (w + 5) (by omega)).trans x5, v, by omega, z5, z6⟩)⟩
  by_cases g8 : tG u n (tq u n i) = 118
  · rw [g8] at ht e0
    replace ht : f_X12_testWord s2 = 2 := ht
    replace e0 : f_X8_sortHere s1 = some 118 := e0
    obtain ⟨t1, t2, a1, a2, a3, a4, a5⟩ := L_next h (by omega)
    obtain ⟨X, hX⟩ : ∃ X, X = fu_pi t2 122 (w + 5) 2 := ⟨_, rfl⟩
    have x5 : X.1 122 (w + 5) = 2 := by rw [hX, p1]
    have hOK : OK u n T t1 X (i + 1) := by rw [hX]; exact OK_r2 a3
    have hkX : kR t2 X w := by rw [hX]; exact kR_pi (by omega)
    have f0 := OK_sort hOK
    obtain ⟨jv, hjv⟩ : ∃ jv, jv = (if (X.1 117 14) = (3 : Int32) then X.1 117 17 else (0 : Int32)) := ⟨_, rfl⟩
    obtain ⟨Y, hY⟩ : ∃ Y, Y = fu_pi X 122 (w + 7) jv := ⟨_, rfl⟩
    have y7 : Y.1 122 (w + 7) = jv := by rw [hY, p1]
    have y5 : Y.1 122 (w + 5) = 2 := by rw [hY, p1q (by omega)]; exact x5
    have hOY : OK u n T t1 Y (i + 1) := by rw [hY]; exact OK_r2 hOK
    have hkY : kR X Y w := by rw [hY]; exact kR_pi (by omega)
    have s60 : f_X12_isSign Y 60 = _ := wd_sign (k := 60) hOY (by omega)
    have s61 : f_X12_isSign Y 61 = _ := wd_sign (k := 61) hOY (by omega)
    have s62 : f_X12_isSign Y 62 = _ := wd_sign (k := 62) hOY (by omega)
    have hG' := tG_lt (u := u) (n := n) (q := tq u n (i + 1))
    have hpre : f_X12_readTest s2 (Int32.ofNat w) = Option.bind (if (f_X12_isSign Y (60 : Int32)) = true then some true else if (f_X12_isSign Y (62 : Int32)) = true then some true else if (f_X12_isSign Y (61 : Int32)) = true then some true else some false) fun (j21 : Bool) => Option.bind (f_X12_must Y j21) fun r25 => Option.bind (f_X12_count r25 (0 : Int32) (9999 : Int32)) fun r26 => if am_in (Int32.ofNat w + (6 : Int32)) 1775 = true then fu_lt (fu_pi r26.2 122 (Int32.toNatClampNeg (Int32.ofNat w + (6 : Int32))) r26.1) fun s27 => some s27 else none := by
      unfold f_X12_readTest
      rw [ht, if_neg (show ¬ (2 : Int32) < 0 from by decide), Option.bind_some, a2, Option.bind_some, if_pos q5, w5]
      unfold fu_lt
      dsimp only
      rw [← hX, if_neg (show ¬ (2 : Int32) = 0 from by decide), if_neg (show ¬ (2 : Int32) = 1 from by decide), Option.bind_some, if_pos (OK_le hOK), if_neg (show ¬ (2 : Int32) < 2 from by decide)]
      have hj : (if (X.1 117 14) = (3 : Int32) then some (X.1 117 17) else some (0 : Int32)) = some jv := by rw [hjv]; split <;> rfl
      rw [hj, Option.bind_some, if_pos q7, w7, ← hY]
    have hsg : ∀ k : Nat, 60 ≤ k ∧ k ≤ 62 → tG u n (tq u n (i + 1)) = k → RS u n T s1 s2 l m w i (Option.bind (f_X8_takeNumber (f_X8_next t1) (0 : Int32) 9999) fun r25 => Option.bind (f_X5_addStep r25.2 42 x (Int32.ofNat k) r25.1) fun r26 => Option.bind (if r25.1 = (-1 : Int32) then some false else some true) fun (j27 : Bool) => some (j27, r26)) (Option.bind (f_X12_must Y true) fun r25 => Option.bind (f_X12_count r25 (0 : Int32) (9999 : Int32)) fun r26 => if am_in (Int32.ofNat w + (6 : Int32)) 1775 = true then fu_lt (fu_pi r26.2 122 (Int32.toNatClampNeg (Int32.ofNat w + (6 : Int32))) r26.1) fun s27 => some s27 else none) (wT w l x) := fun k hk hgk => by
      obtain ⟨r1, r2, b1, b2, b3, b4, b5⟩ := L_next hOY (by omega)
      have key := L_tn (x := x) (b := Int32.ofNat k) (y := 9999) (j := 6) b3 (by rw [b4.1 42 (by omega), a4.1 42 (by omega)]; exact h4) (by rw [b4.1 42 (by omega), a4.1 42 (by omega)]; exact h5) hl (by omega) hw
      rw [b1, b2, Option.bind_some]
      refine RS_tr (by omega) (kC_tr (kC_5 a4) (kC_5 b4)) (kR_tr (kR_7 a5) (kR_tr hkX (kR_tr hkY (kR_7 b5)))) (fun c1 c2 hh => ?_) key
      obtain ⟨z1, z2, v, z3, z4, z5, z6, z7⟩ := hh
      have hS := hOK.2.2.2.2.2.1.2.2
      rw [hgk] at hS
      have hjk : jv = Int32.ofNat k := by
        rcases hS with ⟨y1, -⟩ | ⟨y1, -⟩ | ⟨y1, -⟩ | ⟨y1, -⟩ | ⟨y1, -⟩ | ⟨-, y2, y3⟩ | ⟨y1, -⟩
        · omega
        · omega
        · omega
        · omega
        · omega
        · rw [hjv, if_pos y2, y3]
        · omega
      refine ⟨z1, .inr (.inr ⟨?_, ?_, ?_, v, z4, z5, z6⟩)⟩
      · rw [z7 (w + 5) (by omega), (b5.1 122 (by omega)).1]; exact y5
      · have : k = 60 ∨ k = 61 ∨ k = 62 := by omega
        rcases this with rfl | rfl | rfl
        · exact .inl z2
        · exact .inr (.inr z2)
        · exact .inr (.inl z2)
      · rw [z7 (w + 7) (by omega), (b5.1 122 (by omega)).1, z2, y7, hjk]
    have hcl : ∀ A, (Option.bind (f_X8_sortHere t1) fun r59 => if r59 = (60 : Int32) then Option.bind (f_X8_takeNumber (f_X8_next t1) (0 : Int32) (9999 : Int32)) fun r62 => Option.bind (f_X5_addStep r62.2 42 x r59 r62.1) fun r63 => Option.bind (if r62.1 = (-1 : Int32) then some false else some true) fun (j64 : Bool) => some (j64, r63) else if r59 = (62 : Int32) then Option.bind (f_X8_takeNumber (f_X8_next t1) (0 : Int32) (9999 : Int32)) fun r68 => Option.bind (f_X5_addStep r68.2 42 x r59 r68.1) fun r69 => Option.bind (if r68.1 = (-1 : Int32) then some false else some true) fun (j70 : Bool) => some (j70, r69) else if r59 = (61 : Int32) then Option.bind (f_X8_takeNumber (f_X8_next t1) (0 : Int32) (9999 : Int32)) fun r74 => Option.bind (f_X5_addStep r74.2 42 x r59 r74.1) fun r75 => Option.bind (if r74.1 = (-1 : Int32) then some false else some true) fun (j76 : Bool) => some (j76, r75) else Option.bind (f_X8_refuse t1 (2 : Int32)) fun r78 => some (r78.1, r78.2)) = A → f_X6_takeTest s1 x = A := fun A hA => by
      rw [← hA]
      unfold f_X6_takeTest fu_lt
      rw [e0, Option.bind_some, if_neg (show ¬ (118 : Int32) = 116 from by decide), if_neg (show ¬ (118 : Int32) = 117 from by decide), if_pos rfl, a1]
      dsimp only
      rw [if_pos rfl]
    rw [hcl _ rfl, hpre, f0, Option.bind_some, s60, s61, s62]
    by_cases k0 : tG u n (tq u n (i + 1)) = 60
    · have := hsg 60 (by omega) k0
      rw [k0, decide_eq_true (rfl : (60 : Nat) = 60), if_pos (show Int32.ofNat 60 = (60 : Int32) from rfl), if_pos rfl, Option.bind_some]
      exact this
    by_cases k2 : tG u n (tq u n (i + 1)) = 62
    · have := hsg 62 (by omega) k2
      rw [k2, decide_eq_true (rfl : (62 : Nat) = 62), decide_eq_false (show ¬ (62 : Nat) = 60 by omega), if_neg (show ¬ Int32.ofNat 62 = (60 : Int32) from by decide), if_pos (show Int32.ofNat 62 = (62 : Int32) from rfl), if_neg Bool.false_ne_true, if_pos rfl, Option.bind_some]
      exact this
    by_cases k1 : tG u n (tq u n (i + 1)) = 61
    · have := hsg 61 (by omega) k1
      rw [k1, decide_eq_true (rfl : (61 : Nat) = 61), decide_eq_false (show ¬ (61 : Nat) = 60 by omega), decide_eq_false (show ¬ (61 : Nat) = 62 by omega), if_neg (show ¬ Int32.ofNat 61 = (60 : Int32) from by decide), if_neg (show ¬ Int32.ofNat 61 = (62 : Int32) from by decide), if_pos (show Int32.ofNat 61 = (61 : Int32) from rfl), if_neg Bool.false_ne_true, if_neg Bool.false_ne_true, if_pos rfl, Option.bind_some]
      exact this
    have n0 : ¬ Int32.ofNat (tG u n (tq u n (i + 1))) = 60 := fun z => k0 ((i_eq (b := 60) (by omega) (by omega)).mp z)
    have n2 : ¬ Int32.ofNat (tG u n (tq u n (i + 1))) = 62 := fun z => k2 ((i_eq (b := 62) (by omega) (by omega)).mp z)
    have n1 : ¬ Int32.ofNat (tG u n (tq u n (i + 1))) = 61 := fun z => k1 ((i_eq (b := 61) (by omega) (by omega)).mp z)
    obtain ⟨r1, r2, b1, b2, b3, b4, b5⟩ := L_mustF hOY
    obtain ⟨q6, w6⟩ : am_in (Int32.ofNat w + 6) 1775 = true ∧ (Int32.ofNat w + 6).toNatClampNeg = w + 6 := wq (j := 6) (by omega)
    rw [decide_eq_false k0, decide_eq_false k2, decide_eq_false k1, if_neg n0, if_neg n2, if_neg n1, if_neg Bool.false_ne_true, if_neg Bool.false_ne_true, if_neg Bool.false_ne_true, Option.bind_some]
    refine .inr ⟨r1, fu_pi r2 122 (w + 6) 0, ?_, ?_, BA_r b3, kC_tr (kC_5 a4) (kC_5 b4), kR_tr (kR_7 a5) (kR_tr hkX (kR_tr hkY (kR_tr (kR_7 b5) (kR_pi (by omega)))))⟩
    · rw [b1, Option.bind_some]
    · rw [b2, Option.bind_some, B_count (bd_BA b3), Option.bind_some]
      dsimp only
      rw [if_pos q6, w6]
      rfl
  · have n6 : ¬ Int32.ofNat (tG u n (tq u n i)) = 116 := ne 116 (by omega) g6
    have n7 : ¬ Int32.ofNat (tG u n (tq u n i)) = 117 := ne 117 (by omega) g7
    have n8 : ¬ Int32.ofNat (tG u n (tq u n i)) = 118 := ne 118 (by omega) g8
    have htw : d_tw (tG u n (tq u n i)) = 3 := by unfold d_tw; rw [if_neg g6, if_neg g7, if_neg g8]
    rw [htw] at ht
    replace ht : f_X12_testWord s2 = -1 := ht
    obtain ⟨r1, r2, b1, b2, b3, b4, b5⟩ := L_mustF h
    have hB : BA r1 (fu_pi r2 122 (w + 5) (-1)) := BA_r b3
    refine .inr ⟨r1, fu_pi r2 122 (w + 5) (-1), ?_, ?_, hB, kC_5 b4, kR_tr (kR_7 b5) (kR_pi (by omega))⟩
    · unfold f_X6_takeTest
      rw [e0, Option.bind_some, if_neg n6, if_neg n7, if_neg n8, b1, Option.bind_some]
    · unfold f_X12_readTest
      rw [ht, if_pos (show (-1 : Int32) < 0 from by decide), Option.bind_some, b2, Option.bind_some, if_pos q5, w5]
      unfold fu_lt
      dsimp only
      rw [if_neg (show ¬ (-1 : Int32) = 0 from by decide), if_neg (show ¬ (-1 : Int32) = 1 from by decide), Option.bind_some, if_neg (bd_le (bd_BA hB))]
end TST
