/-! district: what is faulted goes by; a rule, a kind -/
def QD (s1 s2 : fu_S) (D : dD) : Prop := dV D ∧ dC s1 29 D ∧ dR s2 4 D
/-- what the reading of a district leaves -/
def fQ1 (s t : fu_S) : Prop := (∀ a, a ≠ 5 → ¬ (29 ≤ a ∧ a < 42) → a ≠ 47 → t.1 a = s.1 a ∧ t.2 a = s.2 a) ∧ t.2 5 = s.2 5 ∧ ∀ q, q ≠ 7 → q ≠ 8 → q ≠ 9 → t.1 5 q = s.1 5 q
def fQ2 (s t : fu_S) : Prop := (∀ a, a ≠ 117 → a ≠ 122 → t.1 a = s.1 a) ∧ (∀ q, ¬ (12 ≤ q ∧ q ≤ 18) → q ≠ 24 → q ≠ 25 → t.1 117 q = s.1 117 q) ∧ (∀ i, (i < 1420 ∨ 1503 ≤ i) → t.1 122 i = s.1 122 i) ∧ (∀ a, a ≠ 117 → a ≠ 124 → t.2 a = s.2 a) ∧ (∀ q, q ≠ 19 → t.2 117 q = s.2 117 q) ∧ ∀ i, i < 28 → t.2 124 i = s.2 124 i
section BAD
variable {s t r s1 s2 t1 t2 : fu_S} {u : Nat → Nat} {n T p q e f k i g v j m lo w : Nat} {x y : Int32} {z : Int64} {b : Bool} {D : dD}
theorem fQ1_rf : fQ1 s s := ⟨fun _ _ _ _ => ⟨rfl, rfl⟩, rfl, fun _ _ _ _ => rfl⟩
theorem fQ2_rf : fQ2 s s := ⟨fun _ _ _ => rfl, fun _ _ _ _ => rfl, fun _ _ => rfl, fun _ _ _ => rfl, fun _ _ => rfl, fun _ _ => rfl⟩
theorem fQ1_tr (h : fQ1 s t) (g : fQ1 t r) : fQ1 s r := ⟨fun a h1 h2 h3 => ⟨(g.1 a h1 h2 h3).1.trans (h.1 a h1 h2 h3).1, (g.1 a h1 h2 h3).2.trans (h.1 a h1 h2 h3).2⟩, g.2.1.trans h.2.1, fun q h1 h2 h3 => (g.2.2 q h1 h2 h3).trans (h.2.2 q h1 h2 h3)⟩
theorem fQ2_tr (h : fQ2 s t) (g : fQ2 t r) : fQ2 s r := ⟨fun a h1 h2 => (g.1 a h1 h2).trans (h.1 a h1 h2), fun q h1 h2 h3 => (g.2.1 q h1 h2 h3).trans (h.2.1 q h1 h2 h3), fun i hi => (g.2.2.1 i hi).trans (h.2.2.1 i hi), fun a h1 h2 => (g.2.2.2.1 a h1 h2).trans (h.2.2.2.1 a h1 h2), fun q hq => (g.2.2.2.2.1 q hq).trans (h.2.2.2.2.1 q hq), fun i hi => (g.2.2.2.2.2 i hi).trans (h.2.2.2.2.2 i hi)⟩
theorem fQ1_5 (h : f5 s t) : fQ1 s t := ⟨fun a h1 _ _ => ⟨h.1 a h1, by rw [h.2.1]⟩, by rw [h.2.1], h.2.2⟩
theorem fQ2_7 (h : f7 s t) : fQ2 s t := ⟨fun a h1 _ => (h.1 a h1).1, fun q h1 _ _ => h.2.1 q h1, fun i _ => by rw [(h.1 122 (by omega)).1], fun a h1 _ => (h.1 a h1).2, h.2.2, fun i _ => by rw [(h.1 124 (by omega)).2]⟩
theorem QD_57 (h : QD s1 s2 D) (h5 : f5 s1 t1) (h7 : f7 s2 t2) : QD t1 t2 D := ⟨h.1, dC_congr (fun k hk => ⟨h5.1 _ (by omega), by rw [h5.2.1]⟩) h.2.1, dR_congr h.1 (fun i _ _ => by rw [(h7.1 122 (by omega)).1]) (fun i _ _ => by rw [(h7.1 124 (by omega)).2]) h.2.2⟩
/-- the reference, once faulted -/
def bd (s : fu_S) : Prop := ∃ f, (1 ≤ f ∧ f ≤ 7) ∧ s.1 117 12 = Int32.ofNat f
theorem bd_BA (h : BA s1 s2) : bd s2 := by
  obtain ⟨f, pl, h1, -, -, -, h2, -⟩ := h
  exact ⟨f, h1, h2⟩
theorem bd_le (h : bd s) : ¬ s.1 117 12 ≤ 0 := by
  obtain ⟨f, h1, h2⟩ := h
  rw [h2]
  exact fun z => by have := (i_le0 (by omega)).mp z; omega
theorem bd_eq (h : bd s) : ¬ s.1 117 12 = 0 := by
  obtain ⟨f, h1, h2⟩ := h
  rw [h2]
  exact fun z => by have := (i_eq0 (by omega)).mp z; omega
theorem B_must (h : bd s) : f_X12_must s b = some s := by
  unfold f_X12_must
  exact if_neg (bd_le h)
theorem B_count (h : bd s) : f_X12_count s x y = some (0, s) := by
  unfold f_X12_count
  rw [if_neg (bd_eq h), Option.bind_some, if_neg (bd_eq h), Option.bind_some, if_neg (bd_le h)]
theorem B_behind (h : bd s) : f_X12_behindWord s b x y = some (0, s) := by
  unfold f_X12_behindWord
  rw [B_must h, Option.bind_some, B_count h, Option.bind_some]
theorem B_perhaps (h : bd s) : f_X12_perhaps s b = some (false, s) := by
  unfold f_X12_perhaps
  exact if_neg (bd_le h)
theorem B_fail (h : bd s) : f_X12_fail s x y = s := by
  unfold f_X12_fail
  exact if_neg (bd_le h)
theorem B_told (h : bd s) : f_X12_readTold s x = some (0, s) := by
  unfold f_X12_readTold
  rw [if_neg (bd_eq h), Option.bind_some, if_neg (bd_le h)]
theorem OK_0 (h : OK u n T s1 s2 i) : s2.1 117 12 = 0 := h.2.2.2.2.2.2
theorem OK_le (h : OK u n T s1 s2 i) : s2.1 117 12 ≤ 0 := by rw [OK_0 h]; exact Int32.le_refl _
/-- places of the class that have nothing to do with the tokens -/
theorem OK_c {a : Nat} (h : OK u n T s1 s2 i) (ha : a ≠ 5 ∧ a ≠ 8 ∧ a ≠ 9) : OK u n T (fu_pi s1 a q x) s2 i := by
  obtain ⟨⟨⟨h1, h2⟩, hM⟩, h4, h5, h8, hT, hS, h12⟩ := h
  have e : ∀ b, b ≠ a → (fu_pi s1 a q x).1 b = s1.1 b := fun b hb => p1n hb
  refine ⟨⟨⟨by rw [e 5 (by omega)]; exact h1, fun j hj => ?_⟩, hM⟩, h4, by rw [e 5 (by omega)]; exact h5, ⟨by rw [e 5 (by omega)]; exact h8.1, by rw [e 5 (by omega)]; exact h8.2⟩, hT, hS, h12⟩
  rw [e 8 (by omega), e 9 (by omega)]
  exact h2 j hj
theorem OK_cl {a : Nat} (h : OK u n T s1 s2 i) (ha : a ≠ 10) : OK u n T (fu_pl s1 a q z) s2 i := by
  obtain ⟨⟨⟨h1, h2⟩, hM⟩, h4, h5, h8, hT, hS, h12⟩ := h
  refine ⟨⟨⟨h1, fun j hj => ?_⟩, hM⟩, h4, h5, h8, hT, hS, h12⟩
  show _ ∧ _ ∧ (_ → (fu_pl s1 a q z).2 10 j = _)
  rw [l2n (by omega)]
  exact h2 j hj
/-- places of the reference that have nothing to do with them -/
theorem OK_r {a : Nat} (h : OK u n T s1 s2 i) (ha : (a ≠ 117 ∧ a ≠ 121) ∨ (a = 117 ∧ (q = 24 ∨ q = 25))) : OK u n T s1 (fu_pi s2 a q x) i := by
  obtain ⟨hM, h4, h5, h8, ⟨k1, k2, k3⟩, ⟨k4, k5, k6⟩, h12⟩ := h
  have e : ∀ r, r < 24 → (fu_pi s2 a q x).1 117 r = s2.1 117 r := fun r hr => by
    rcases ha with ha | ⟨ha, hq⟩
    · rw [p1n (by omega)]
    · exact p1q (by omega)
  have a121 : (121 : Nat) ≠ a := by
    rcases ha with ⟨-, h⟩ | ⟨h, -⟩
    · exact fun z => h z.symm
    · rw [h]; decide
  have e121 : (fu_pi s2 a q x).1 121 = s2.1 121 := p1n a121
  refine ⟨hM, h4, h5, h8, ⟨k1, by rw [e 9 (by omega)]; exact k2, fun i hi => by rw [e121]; exact k3 i hi⟩, ⟨by rw [e 15 (by omega)]; exact k4, by rw [e 16 (by omega)]; exact k5, ?_⟩, by rw [e 12 (by omega)]; exact h12⟩
  rw [e 14 (by omega), e 17 (by omega), e 18 (by omega)]
  exact k6
theorem OK_rl {a : Nat} (h : OK u n T s1 s2 i) (ha : a ≠ 117) : OK u n T s1 (fu_pl s2 a q z) i := by
  obtain ⟨hM, h4, h5, h8, ⟨k1, k2, k3⟩, ⟨k4, k5, k6⟩, h12⟩ := h
  refine ⟨hM, h4, h5, h8, ⟨k1, k2, k3⟩, ⟨k4, k5, ?_⟩, h12⟩
  show (_ ∨ _ ∨ _ ∨ (_ ∧ _ ∧ (fu_pl s2 a q z).2 117 19 = _ ∧ _) ∨ (_ ∧ _ ∧ (fu_pl s2 a q z).2 117 19 = _ ∧ _) ∨ _ ∨ (_ ∧ _ ∧ (fu_pl s2 a q z).2 117 19 = _ ∧ _))
  rw [l2n (Ne.symm ha)]
  exact k6
/-- a part of a district is read: what is left of both -/
def PT (u : Nat → Nat) (n T : Nat) (s1 s2 : fu_S) (i : Nat) (A : Option (Bool × fu_S)) (B : Option fu_S) (W : dD → fu_S → fu_S → Prop) : Prop := (∃ t1 t2 D' i', A = some (true, t1) ∧ B = some t2 ∧ OK u n T t1 t2 i' ∧ i < i' ∧ QD t1 t2 D' ∧ W D' t1 t2 ∧ fQ1 s1 t1 ∧ fQ2 s2 t2) ∨ (∃ t1 t2, A = some (false, t1) ∧ B = some t2 ∧ BA t1 t2 ∧ fQ1 s1 t1 ∧ fQ2 s2 t2)
/-- which words were told that may be told but once -/
def TL (s1 s2 : fu_S) : Prop := ∃ a c : Nat, a ≤ 1 ∧ c ≤ 1 ∧ s1.1 47 2 = Int32.ofNat (a + 2 * c) ∧ s2.1 117 24 = Int32.ofNat (8 * a + 16 * c)
theorem TL_57 (h : TL s1 s2) (h5 : f5 s1 t1) (h7 : f7 s2 t2) : TL t1 t2 := by
  obtain ⟨a, c, h1, h2, h3, h4⟩ := h
  exact ⟨a, c, h1, h2, by rw [h5.1 47 (by omega)]; exact h3, by rw [h7.2.1 24 (by omega)]; exact h4⟩
theorem e_neg1 {v : Nat} (hv : v < 2147483648) : ¬ Int32.ofNat v = (-1 : Int32) := fun z => (i_n1 hv).mp z
/-- odds -/
theorem P_odds (h : OK u n T s1 s2 i) (hg : tG u n (tq u n i) = 100) (hD : QD s1 s2 D) (hT : TL s1 s2) : PT u n T s1 s2 i (f_X2_takeRule s1 100 16) (f_X12_readOnce s2 3 16) (fun _ t1 t2 => TL t1 t2) := by
  obtain ⟨a, c, ha, hc, h3, h4⟩ := hT
  have sh : (1 : Int32) <<< (((100 : Int32) - 100) &&& 31) = Int32.ofNat 1 := by decide
  have hh : f_X12_has (Int32.ofNat (8 * a + 16 * c)) 3 = (8 * a + 16 * c).testBit 3 := r_has (b := 3) (by omega) (by omega)
  have hac : (a = 0 ∨ a = 1) ∧ (c = 0 ∨ c = 1) := by omega
  by_cases h0 : a = 0
  · subst h0
    have e1 : Int32.ofNat (0 + 2 * c) &&& Int32.ofNat 1 = 0 := by rcases hac.2 with rfl | rfl <;> decide
    have e2 : Int32.ofNat (0 + 2 * c) ||| Int32.ofNat 1 = Int32.ofNat (1 + 2 * c) := by rcases hac.2 with rfl | rfl <;> decide
    have e3 : (8 * 0 + 16 * c).testBit 3 = false := by rcases hac.2 with rfl | rfl <;> decide
    have e4 : Int32.ofNat (8 * 0 + 16 * c) ||| ((1 : Int32) <<< ((3 : Int32) &&& 31)) = Int32.ofNat (8 * 1 + 16 * c) := by rcases hac.2 with rfl | rfl <;> decide
    rw [e3] at hh
    have h' := OK_r (q := 24) (x := Int32.ofNat (8 * 1 + 16 * c)) (OK_c (a := 47) (q := 2) (x := Int32.ofNat (1 + 2 * c)) h (by omega)) (.inr ⟨rfl, .inl rfl⟩)
    have q47 : (fu_pi s1 47 2 (Int32.ofNat (1 + 2 * c))).1 47 2 = Int32.ofNat (1 + 2 * c) := p1
    have q24 : (fu_pi s2 117 24 (Int32.ofNat (8 * 1 + 16 * c))).1 117 24 = Int32.ofNat (8 * 1 + 16 * c) := p1
    have f1 : fQ1 s1 (fu_pi s1 47 2 (Int32.ofNat (1 + 2 * c))) := ⟨fun b _ _ hb => ⟨p1n hb, rfl⟩, rfl, fun q _ _ _ => by rw [p1n (by omega)]⟩
    have f2 : fQ2 s2 (fu_pi s2 117 24 (Int32.ofNat (8 * 1 + 16 * c))) := ⟨fun b hb _ => p1n hb, fun q _ hq _ => p1q hq, fun i _ => by rw [p1n (by omega)], fun _ _ _ => rfl, fun _ _ => rfl, fun _ _ => rfl⟩
    have hD' : QD (fu_pi s1 47 2 (Int32.ofNat (1 + 2 * c))) (fu_pi s2 117 24 (Int32.ofNat (8 * 1 + 16 * c))) D := ⟨hD.1, dC_congr (fun k hk => ⟨p1n (by omega), rfl⟩) hD.2.1, dR_q hD.1 hD.2.2⟩
    obtain ⟨U, hU⟩ : ∃ U, U = fu_pi s1 47 2 (Int32.ofNat (1 + 2 * c)) := ⟨_, rfl⟩
    obtain ⟨V, hV⟩ : ∃ V, V = fu_pi s2 117 24 (Int32.ofNat (8 * 1 + 16 * c)) := ⟨_, rfl⟩
    rw [← hU] at h' q47 f1 hD'
    rw [← hV] at h' q24 f2 hD'
    obtain ⟨u1, u2, a1, a2, a3, a4, a5⟩ := L_next h' (by omega)
    have hD2 := QD_57 hD' a4 a5
    rcases L_num (lo := 0) (y := 16) a3 (by omega) with ⟨-, v, -, -, hv, hv16, t1, t2, b1, b2, b3, b4, b5⟩ | ⟨t1, t2, b1, b2, b3, b4, b5⟩
    · have hv' : v ≤ 16 := (i_lel (n := 16) (by omega) (show (16 : Nat) < 2147483648 by omega)).mp hv16
      have hD3 := QD_57 hD2 b4 b5
      have b3' := OK_r (a := 122) (q := 1423) (x := Int32.ofNat v) (OK_c (a := 29) (q := 0) (x := Int32.ofNat v) b3 (by omega)) (.inl (by omega))
      have b1' : f_X8_takeNumber u1 0 16 = some (Int32.ofNat v, t1) := b1
      have b2' : f_X12_count u2 0 16 = some (Int32.ofNat v, t2) := b2
      have z12 := OK_0 b3
      have ne1 := e_neg1 (v := v) (by omega)
      have q1 : ((1420 : Int32) + 3).toNatClampNeg = 1423 := by decide
      have q2 : am_in ((1420 : Int32) + 3) 1775 = true := by decide
      refine .inl ⟨fu_pi t1 29 0 (Int32.ofNat v), fu_pi t2 122 1423 (Int32.ofNat v), dset D 0 0 v, i + 1 + 1, ?_, ?_, b3', by omega, ⟨dV_set0 (by omega) hD.1 (by omega) (by omega) (by omega), dC_put0 (by omega) hD3.2.1, ?_⟩, ⟨1, c, by omega, hc, ?_, ?_⟩, ?_, ?_⟩
      · unfold f_X2_takeRule fu_lt
        rw [sh, h3, e1, if_pos rfl, e2]
        dsimp only
        rw [← hU, a1, b1', Option.bind_some]
        dsimp only
        rw [if_pos rfl]
        unfold f_X4_setOdds fu_lt
        rw [Option.bind_some, if_neg ne1, Option.bind_some]
      · unfold f_X12_readOnce fu_lt
        rw [h4, hh, if_neg Bool.false_ne_true, Option.bind_some, h4, e4]
        dsimp only
        rw [← hV, a2, Option.bind_some, b2', Option.bind_some]
        dsimp only
        rw [if_pos z12, if_pos q2, q1, Option.bind_some]
      · exact dR_shr2 (dV_set0 (by omega) hD.1 (by omega) (by omega) (by omega)) (dR_congr (s := fu_pi (shr t2 4) 122 (3 + 0) (Int32.ofNat v)) (dV_set0 (by omega) hD.1 (by omega) (by omega) (by omega)) (fun i _ _ => by
          show (if 122 = 122 ∧ 355 * 4 + i = 1423 then Int32.ofNat v else t2.1 122 (355 * 4 + i)) = (if 122 = 122 ∧ i = 3 + 0 then Int32.ofNat v else t2.1 122 (355 * 4 + i))
          by_cases e : i = 3
          · rw [if_pos ⟨rfl, by omega⟩, if_pos ⟨rfl, by omega⟩]
          · rw [if_neg (fun z => by omega), if_neg (fun z => by omega)]) (fun i _ _ => rfl) (dR_put0 hD.1 (j := 0) (by omega) (dR_shr1 hD.1 hD3.2.2)))
      · rw [p1n (by omega), b4.1 47 (by omega), a4.1 47 (by omega)]; exact q47
      · rw [p1n (by omega), b5.2.1 24 (by omega), a5.2.1 24 (by omega)]; exact q24
      · exact fQ1_tr f1 (fQ1_tr (fQ1_5 a4) (fQ1_tr (fQ1_5 b4) ⟨fun b _ hb _ => ⟨p1n (by omega), rfl⟩, rfl, fun q _ _ _ => by rw [p1n (by omega)]⟩))
      · exact fQ2_tr f2 (fQ2_tr (fQ2_7 a5) (fQ2_tr (fQ2_7 b5) ⟨fun b _ hb => p1n hb, fun q _ _ _ => by rw [p1n (by omega)], fun i hi => p1q (by omega), fun _ _ _ => rfl, fun _ _ => rfl, fun _ _ => rfl⟩))
    · have b1' : f_X8_takeNumber u1 0 16 = some (-1, t1) := b1
      have b2' : f_X12_count u2 0 16 = some (0, t2) := b2
      have z12 := bd_eq (bd_BA b3)
      refine .inr ⟨fu_pi t1 29 0 (-1), t2, ?_, ?_, ?_, ?_, fQ2_tr f2 (fQ2_tr (fQ2_7 a5) (fQ2_7 b5))⟩
      · unfold f_X2_takeRule fu_lt
        rw [sh, h3, e1, if_pos rfl, e2]
        dsimp only
        rw [← hU, a1, b1', Option.bind_some]
        dsimp only
        rw [if_pos rfl]
        unfold f_X4_setOdds fu_lt
        rw [Option.bind_some, if_pos rfl, Option.bind_some]
      · unfold f_X12_readOnce fu_lt
        rw [h4, hh, if_neg Bool.false_ne_true, Option.bind_some, h4, e4]
        dsimp only
        rw [← hV, a2, Option.bind_some, b2', Option.bind_some]
        dsimp only
        rw [if_neg z12, Option.bind_some]
      · obtain ⟨f, pl, k1, k2, k3, k4, k5⟩ := b3
        exact ⟨f, pl, k1, k2, by rw [p1n (by omega)]; exact k3, by rw [p1n (by omega)]; exact k4, k5⟩
      · exact fQ1_tr f1 (fQ1_tr (fQ1_5 a4) (fQ1_tr (fQ1_5 b4) ⟨fun b _ hb _ => ⟨p1n (by omega), rfl⟩, rfl, fun q _ _ _ => by rw [p1n (by omega)]⟩))
  · have h1 : a = 1 := by omega
    subst h1
    have e1 : ¬ (Int32.ofNat (1 + 2 * c) &&& Int32.ofNat 1 = 0) := by rcases hac.2 with rfl | rfl <;> decide
    have e3 : (8 * 1 + 16 * c).testBit 3 = true := by rcases hac.2 with rfl | rfl <;> decide
    rw [e3] at hh
    obtain ⟨t1, t2, a1, a2, a3, a4, a5⟩ := L_fail h (k := 5) (by omega) (by omega)
    have a1' : f_X8_refuse s1 5 = some (false, t1) := a1
    have a2' : f_X12_fail s2 5 (s2.1 117 15) = t2 := a2
    have f2 : ∀ y, fQ2 t2 (fu_pi t2 117 24 y) := fun y => ⟨fun b hb _ => p1n hb, fun q _ hq _ => p1q hq, fun i _ => by rw [p1n (by omega)], fun _ _ _ => rfl, fun _ _ => rfl, fun _ _ => rfl⟩
    have hb : ∀ y, BA t1 (fu_pi t2 117 24 y) := fun y => by
      obtain ⟨f, pl, k1, k2, k3, k4, k5, k6⟩ := a3
      exact ⟨f, pl, k1, k2, k3, k4, by rw [p1q (by omega)]; exact k5, by rw [p1q (by omega)]; exact k6⟩
    refine .inr ⟨t1, fu_pi t2 117 24 (t2.1 117 24 ||| ((1 : Int32) <<< ((3 : Int32) &&& 31))), ?_, ?_, hb _, fQ1_5 a4, fQ2_tr (fQ2_7 a5) (f2 _)⟩
    · unfold f_X2_takeRule fu_lt
      rw [sh, h3, if_neg e1, a1', Option.bind_some]
    · have z := bd_BA (hb (t2.1 117 24 ||| ((1 : Int32) <<< ((3 : Int32) &&& 31))))
      unfold f_X12_readOnce fu_lt
      rw [h4, hh, if_pos rfl, a2', Option.bind_some]
      dsimp only
      rw [B_must z, Option.bind_some, B_count z, Option.bind_some]
      dsimp only
      rw [if_neg (bd_eq z), Option.bind_some]
end BAD
