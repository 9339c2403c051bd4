/-! days: steps -/
def KC (s t : fu_S) (l d : Nat) : Prop := (∀ a, a ≠ 5 → ¬ (42 ≤ a ∧ a < 50) → t.1 a = s.1 a) ∧ t.2 = s.2 ∧ t.1 42 6 = s.1 42 6 ∧ (∀ k i, 1 ≤ k → k < 5 → i < l → t.1 (42 + k) i = s.1 (42 + k) i) ∧ ∀ j, j < d → t.1 49 j = s.1 49 j
def KR (s t : fu_S) (B : Nat) : Prop := (∀ a, a ≠ 117 → a ≠ 122 → t.1 a = s.1 a) ∧ (∀ a, a ≠ 117 → t.2 a = s.2 a) ∧ (∀ q, ¬ (12 ≤ q ∧ q ≤ 18) → q ≠ 25 → t.1 117 q = s.1 117 q) ∧ (∀ q, q ≠ 19 → t.2 117 q = s.2 117 q) ∧ ∀ i, i < B → t.1 122 i = s.1 122 i
def PI (s1 s2 : fu_S) (D : dD) (d lo l : Nat) : Prop := (dV D ∧ dC s1 11 D ∧ dR s2 0 D) ∧ (s1.1 48 4 = Int32.ofNat d ∧ s1.1 42 4 = Int32.ofNat l ∧ s1.1 42 5 = Int32.ofNat lo ∧ s2.1 117 25 = Int32.ofNat lo) ∧ lo ≤ 30 ∧ l + d ≤ 2 * lo ∧ d ≤ 3
def FL (R : (Bool × fu_S) ⊕ fu_S) (s1 : fu_S) (t2 : fu_S) : Prop := (∃ t1, R = .inl (false, t1) ∧ BA t1 t2 ∧ KC s1 t1 0 0) ∨ (∃ t0 t1, R = .inr t0 ∧ ¬ t0.1 48 4 = 0 ∧ f_X8_refuse t0 2 = some (false, t1) ∧ BA t1 t2 ∧ KC s1 t1 0 0)
def HD (t1 t2 : fu_S) (D : dD) (d lo hi l e : Nat) : Prop := lo < hi ∧ l < e ∧ hi ≤ 30 ∧ ((dS t1 42 t2 (355 * 4 + 85 + 9 * lo) D l ∧ t2.1 122 (355 * 4 + 85 + 9 * lo + 8) = Int32.ofNat (lo + 1) ∧ hi = lo + 1 ∧ e = l + 1) ∨ (dT t1 42 t2 (355 * 4 + 85 + 9 * lo) l ∧ d < 3 ∧ ∃ m, l < m ∧ e = m + 1 ∧ t2.1 122 (355 * 4 + 85 + 9 * lo + 8) = Int32.ofNat hi ∧ t1.1 (42 + 4) l = Int32.ofNat m ∧ t1.1 (42 + 1) m = 120 ∧ t1.1 (42 + 4) m = Int32.ofNat l ∧ ∀ f, hi - (lo + 1) < f → dW t1 42 t2 4 D f (3 - d - 1) (lo + 1) hi (l + 1) m))
section STP
variable {s t r s1 s2 t1 t2 r1 r2 a b : fu_S} {u : Nat → Nat} {n T p q e f k i g v j m l lo hi w P V W R G d c B : Nat} {x y : Int32} {z : Int64} {D : dD}
theorem KC_tr {l' d' : Nat} (hl : l ≤ l') (hd : d ≤ d') (h : KC s t l d) (g : KC t r l' d') : KC s r l d := ⟨fun a h1 h2 => (g.1 a h1 h2).trans (h.1 a h1 h2), g.2.1.trans h.2.1, g.2.2.1.trans h.2.2.1, fun k i h1 h2 h3 => (g.2.2.2.1 k i h1 h2 (by omega)).trans (h.2.2.2.1 k i h1 h2 h3), fun j hj => (g.2.2.2.2 j (by omega)).trans (h.2.2.2.2 j hj)⟩
theorem KR_tr {B' : Nat} (hB : B ≤ B') (h : KR s t B) (g : KR t r B') : KR s r B := ⟨fun a h1 h2 => (g.1 a h1 h2).trans (h.1 a h1 h2), fun a h1 => (g.2.1 a h1).trans (h.2.1 a h1), fun q h1 h2 => (g.2.2.1 q h1 h2).trans (h.2.2.1 q h1 h2), fun q hq => (g.2.2.2.1 q hq).trans (h.2.2.2.1 q hq), fun i hi => (g.2.2.2.2 i (by omega)).trans (h.2.2.2.2 i hi)⟩
theorem KC_rf : KC s s l d := ⟨fun _ _ _ => rfl, rfl, rfl, fun _ _ _ _ _ => rfl, fun _ _ => rfl⟩
theorem KR_rf : KR s s B := ⟨fun _ _ _ => rfl, fun _ _ => rfl, fun _ _ _ => rfl, fun _ _ => rfl, fun _ _ => rfl⟩
theorem KC_0 (h : KC s t l d) : KC s t 0 0 := KC_tr (Nat.zero_le _) (Nat.zero_le _) KC_rf (KC_tr (l := 0) (d := 0) (Nat.zero_le _) (Nat.zero_le _) KC_rf h)
theorem KR_le {B' : Nat} (hB : B ≤ B') (h : KR s t B') : KR s t B := KR_tr hB KR_rf h
theorem KC_5 (h : f5 s t) : KC s t l d := ⟨fun a h1 _ => h.1 a h1, h.2.1, by rw [h.1 42 (by omega)], fun k i _ _ _ => by rw [h.1 (42 + k) (by omega)], fun j _ => by rw [h.1 49 (by omega)]⟩
theorem KR_7 (h : f7 s t) : KR s t B := ⟨fun a h1 _ => (h.1 a h1).1, fun a h1 => (h.1 a h1).2, fun q hq _ => h.2.1 q hq, h.2.2, fun i _ => by rw [(h.1 122 (by omega)).1]⟩
theorem KC_k (h : kC s t l) : KC s t l d := ⟨fun a h1 h2 => h.1 a h1 (by omega), h.2.1, h.2.2.1, fun k i h1 h2 h3 => h.2.2.2 k i h1 h2 (by omega), fun j _ => by rw [h.1 49 (by omega) (by omega)]⟩
theorem KR_k (h : kR s t w) (hB : B ≤ w + 1) : KR s t B := ⟨h.1, h.2.1, fun q hq _ => h.2.2.1 q hq, h.2.2.2.1, fun i hi => h.2.2.2.2 i (.inl (by omega))⟩
theorem KR_pi (h : B ≤ q) : KR s (fu_pi s 122 q x) B := ⟨fun a _ h2 => p1n h2, fun _ _ => rfl, fun q _ _ => by rw [p1n (by omega)], fun _ _ => rfl, fun i hi => p1q (by omega)⟩
theorem KR_25 : KR s (fu_pi s 117 25 x) B := ⟨fun a h1 _ => p1n h1, fun _ _ => rfl, fun q _ hq => p1q hq, fun _ _ => rfl, fun i _ => by rw [p1n (by omega)]⟩
theorem FL_tr {X : (Bool × fu_S) ⊕ fu_S} (hK : KC s1 t1 0 0) (h : FL X t1 r2) : FL X s1 r2 := by
  rcases h with ⟨c1, h1, h2, h3⟩ | ⟨c0, c1, h1, h2, h3, h4, h5⟩
  · exact .inl ⟨c1, h1, h2, KC_tr (Nat.le_refl _) (Nat.le_refl _) hK h3⟩
  · exact .inr ⟨c0, c1, h1, h2, h3, h4, KC_tr (Nat.le_refl _) (Nat.le_refl _) hK h5⟩
theorem dC_K (h : dC s 11 D) (hK : KC s t l d) : dC t 11 D := dC_congr (fun k hk => ⟨hK.1 _ (by omega) (by omega), by rw [hK.2.1]⟩) h
theorem dR_K (hv : dV D) (h : dR s 0 D) (hK : KR s t B) (hB : 1420 ≤ B) : dR t 0 D := dR_congr hv (fun i _ _ => hK.2.2.2.2 i (by omega)) (fun i _ _ => by rw [hK.2.1 124 (by omega)]) h
/-- what stands is kept -/
theorem dW_kp : ∀ {f g lo hi l e : Nat}, (∀ k i, 1 ≤ k → k < 5 → l ≤ i → i < e → t1.1 (42 + k) i = s1.1 (42 + k) i) → (∀ i, 355 * 4 + 85 + 9 * lo ≤ i → i < 355 * 4 + 85 + 9 * hi → t2.1 122 i = s2.1 122 i) → dW s1 42 s2 4 D f g lo hi l e → dW t1 42 t2 4 D f g lo hi l e
  | 0, _, _, _, _, _, _, _, hd => hd
  | f + 1, g, lo, hi, l, e, h, hw, hd => by
    rw [dW] at hd ⊢
    rcases hd with hd | ⟨h1, h2, hd⟩
    · exact .inl hd
    · refine .inr ⟨h1, h2, ?_⟩
      have hw9 : ∀ i, i < 9 → t2.1 122 (355 * 4 + 85 + 9 * lo + i) = s2.1 122 (355 * 4 + 85 + 9 * lo + i) := fun i hi => hw _ (by omega) (by omega)
      have hl4 : ∀ k, 1 ≤ k → k < 4 → t1.1 (42 + k) l = s1.1 (42 + k) l := fun k k1 k2 => h k l k1 (by omega) (Nat.le_refl _) (by omega)
      rcases hd with ⟨q1, q2, q3⟩ | ⟨q1, q2, n, m, r1, r2, r3, r4, r5, r6, r7, r8, r9, r10⟩
      · refine .inl ⟨dS_mv hl4 hw9 q1, ?_, dW_kp (fun k i k1 k2 k3 k4 => h k i k1 k2 (by omega) k4) (fun i x1 x2 => hw i (by omega) x2) q3⟩
        rw [hw9 8 (by omega)]; exact q2
      · refine .inr ⟨dT_mv hl4 hw9 q1, q2, n, m, r1, r2, r3, r4, ?_, ?_, ?_, ?_, dW_kp (fun k i k1 k2 k3 k4 => h k i k1 k2 (by omega) (by omega)) (fun i x1 x2 => hw i (by omega) (by omega)) r9, dW_kp (fun k i k1 k2 k3 k4 => h k i k1 k2 (by omega) k4) (fun i x1 x2 => hw i (by omega) x2) r10⟩
        · rw [hw9 8 (by omega)]; exact r5
        · rw [h 4 l (by omega) (by omega) (by omega) (by omega)]; exact r6
        · rw [h 1 m (by omega) (by omega) (by omega) (by omega)]; exact r7
        · rw [h 4 m (by omega) (by omega) (by omega) (by omega)]; exact r8
theorem HD_kp (hC : ∀ k i, 1 ≤ k → k < 5 → i < e → t1.1 (42 + k) i = s1.1 (42 + k) i) (hw : ∀ i, i < 355 * 4 + 85 + 9 * hi → t2.1 122 i = s2.1 122 i) (h : HD s1 s2 D d lo hi l e) : HD t1 t2 D d lo hi l e := by
  obtain ⟨h1, h2, h3, h4⟩ := h
  have hw9 : ∀ i, i < 9 → t2.1 122 (355 * 4 + 85 + 9 * lo + i) = s2.1 122 (355 * 4 + 85 + 9 * lo + i) := fun i hi => hw _ (by omega)
  have hl4 : ∀ k, 1 ≤ k → k < 4 → t1.1 (42 + k) l = s1.1 (42 + k) l := fun k k1 k2 => hC k l k1 (by omega) (by omega)
  refine ⟨h1, h2, h3, ?_⟩
  rcases h4 with ⟨q1, q2, q3⟩ | ⟨q1, q2, m, q3, q4, q5, q6, q7, q8, q9⟩
  · refine .inl ⟨dS_mv hl4 hw9 q1, ?_, q3⟩
    rw [hw9 8 (by omega)]; exact q2
  · refine .inr ⟨dT_mv hl4 hw9 q1, q2, m, q3, q4, ?_, ?_, ?_, ?_, fun f hf => dW_kp (fun k i k1 k2 _ k3 => hC k i k1 k2 (by omega)) (fun i _ x2 => hw i x2) (q9 f hf)⟩
    · rw [hw9 8 (by omega)]; exact q5
    · rw [hC 4 l (by omega) (by omega) (by omega)]; exact q6
    · rw [hC 1 m (by omega) (by omega) (by omega)]; exact q7
    · rw [hC 4 m (by omega) (by omega) (by omega)]; exact q8
/-- a step put before the others -/
theorem HD_dW {h2 e2 : Nat} (hH : HD t1 t2 D d lo hi l e) (h1 : hi ≤ h2) (h3 : e ≤ e2) (hW : ∀ f, h2 - hi < f → dW t1 42 t2 4 D f (3 - d) hi h2 e e2) : ∀ f, h2 - lo < f → dW t1 42 t2 4 D f (3 - d) lo h2 l e2 := by
  intro f hf
  obtain ⟨f, rfl⟩ : ∃ g, f = g + 1 := ⟨f - 1, by omega⟩
  obtain ⟨a1, a2, -, a4⟩ := hH
  rw [dW]
  refine .inr ⟨by omega, by omega, ?_⟩
  rcases a4 with ⟨q1, q2, rfl, rfl⟩ | ⟨q1, q2, m, q3, rfl, q5, q6, q7, q8, q9⟩
  · exact .inl ⟨q1, q2, hW f (by omega)⟩
  · exact .inr ⟨q1, by omega, hi, m, a1, h1, q3, by omega, q5, q6, q7, q8, q9 f (by omega), hW f (by omega)⟩
theorem dW_nil : ∀ f, lo - lo < f → dW t1 42 t2 4 D f g lo lo l l := fun f hf => by
  obtain ⟨f, rfl⟩ : ∃ g, f = g + 1 := ⟨f - 1, by omega⟩
  rw [dW]
  exact .inl ⟨rfl, rfl⟩
theorem deed_ok : ∀ G, G < 122 → f_X6_isDeed (Int32.ofNat G) = decide (d_sw G ≠ 7) := by decide +kernel
/-- one turn of the class's loop -/
def itJ (u : Nat → Nat) (n : Nat) (s1 : fu_S) (i : Nat) : Option (Bool × fu_S) := if tG u n (tq u n i) = 120 then f_X6_takeEnd s1 else f_X6_takeStep s1
theorem it_1 (h : OK u n T s1 s2 i) (hg : tG u n (tq u n i) ≠ 0) (hc : c ≤ i) : l_X6_takeAll_14 (f + 1) s1 (Int32.ofNat c) = Option.bind (itJ u n s1 i) fun (j7 : Bool × fu_S) => if j7.1 = true then Option.bind (f_X8_take j7.2 (59 : Int32)) fun r12 => if r12.1 = true then l_X6_takeAll_14 f r12.2 (Int32.ofNat (c + 1)) else some (.inl (false, r12.2)) else some (.inl (false, j7.2)) := by
  have e0 := OK_sort h
  have hG := tG_lt (u := u) (n := n) (q := tq u n i)
  have hlt := OK_lt h hg
  have hT9 := h.1.2.1
  have hT8 := h.1.2.2.1
  have e1 : f_X8_isAtEnd s1 = some false := by
    unfold f_X8_isAtEnd
    rw [e0, Option.bind_some, if_neg (fun z => hg ((i_eq0 (by omega)).mp z)), Option.bind_some]
  have c9 : Int32.ofNat c < 900 := (i_ltl (n := 900) (by omega) (show (900 : Nat) < 2147483648 by omega)).mpr (show c < 900 by omega)
  have hJ : (if Int32.ofNat (tG u n (tq u n i)) = (120 : Int32) then Option.bind (f_X6_takeEnd s1) fun r9 => some (r9.1, r9.2) else Option.bind (f_X6_takeStep s1) fun r10 => some (r10.1, r10.2)) = itJ u n s1 i := by
    unfold itJ
    rw [ob_id, ob_id]
    by_cases z : tG u n (tq u n i) = 120
    · rw [if_pos z, if_pos (show Int32.ofNat (tG u n (tq u n i)) = 120 from by rw [z]; rfl)]
    · have hne : ¬ Int32.ofNat (tG u n (tq u n i)) = 120 := fun y => z ((i_eq (b := 120) (by omega) (by omega)).mp y)
      rw [if_neg z, if_neg hne]
  rw [l_X6_takeAll_14, if_pos c9, e1, Option.bind_some, if_neg Bool.false_ne_true, e0, Option.bind_some, hJ, i_add1]
theorem it_ok (h : OK u n T s1 s2 i) (hg : tG u n (tq u n i) ≠ 0) (hc : c ≤ i) (hJ : itJ u n s1 i = some (true, a)) (ht : f_X8_take a 59 = some (true, b)) : l_X6_takeAll_14 (f + 1) s1 (Int32.ofNat c) = l_X6_takeAll_14 f b (Int32.ofNat (c + 1)) := by
  rw [it_1 h hg hc, hJ, Option.bind_some]
  dsimp only
  rw [if_pos rfl, ht, Option.bind_some]
  dsimp only
  rw [if_pos rfl]
theorem it_b2 (h : OK u n T s1 s2 i) (hg : tG u n (tq u n i) ≠ 0) (hc : c ≤ i) (hJ : itJ u n s1 i = some (true, a)) (ht : f_X8_take a 59 = some (false, b)) : l_X6_takeAll_14 (f + 1) s1 (Int32.ofNat c) = some (.inl (false, b)) := by
  rw [it_1 h hg hc, hJ, Option.bind_some]
  dsimp only
  rw [if_pos rfl, ht, Option.bind_some]
  dsimp only
  rw [if_neg Bool.false_ne_true]
theorem it_b1 (h : OK u n T s1 s2 i) (hg : tG u n (tq u n i) ≠ 0) (hc : c ≤ i) (hJ : itJ u n s1 i = some (false, a)) : l_X6_takeAll_14 (f + 1) s1 (Int32.ofNat c) = some (.inl (false, a)) := by
  rw [it_1 h hg hc, hJ, Option.bind_some]
  dsimp only
  rw [if_neg Bool.false_ne_true]
theorem it_e (h : OK u n T s1 s2 i) (hg : tG u n (tq u n i) = 0) : l_X6_takeAll_14 (f + 1) s1 (Int32.ofNat c) = some (.inr s1) := by
  have e0 := OK_sort h
  have e1 : f_X8_isAtEnd s1 = some true := by
    unfold f_X8_isAtEnd
    rw [e0, Option.bind_some, if_pos (show Int32.ofNat (tG u n (tq u n i)) = 0 from by rw [hg]; rfl), Option.bind_some]
  rw [l_X6_takeAll_14]
  by_cases h9 : Int32.ofNat c < 900
  · rw [if_pos h9, e1, Option.bind_some, if_pos rfl]
  · rw [if_neg h9]
end STP
