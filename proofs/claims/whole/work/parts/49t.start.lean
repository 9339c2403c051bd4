/-! the start; what is copied -/
theorem ini_i {s : fu_S} (h : ini_P s) {a q : Nat} {x : Int32} (hm : (a, q, x) ∈ ini_li) : s.1 a q = x := h.1 _ hm
theorem ini_l {s : fu_S} (h : ini_P s) {a q : Nat} {x : Int64} (hm : (a, q, x) ∈ ini_ll) : s.2 a q = x := h.2 _ hm
def ini_D : dD := fun f i => if f = 0 ∧ i = 0 then 4 else if f = 0 ∧ i = 1 then 5 else 0
theorem hd_start : ∀ s, ini_P s → dI s s := by
  intro s h
  refine ⟨(ini_i h (x := 0) (by decide +kernel)).trans (ini_i h (x := 0) (by decide +kernel)).symm, ⟨(ini_l h (x := 0) (by decide +kernel)).trans (ini_l h (x := 0) (by decide +kernel)).symm, (ini_l h (x := 1) (by decide +kernel)).trans (ini_l h (x := 1) (by decide +kernel)).symm⟩, ?_, ⟨⟨0, by omega, ini_i h (x := 0) (by decide +kernel), ini_i h (x := 0) (by decide +kernel), fun i hi => absurd hi (by omega)⟩, (ini_i h (x := -1) (by decide +kernel)).trans (ini_i h (x := -1) (by decide +kernel)).symm, (ini_i h (x := -1) (by decide +kernel)).trans (ini_i h (x := -1) (by decide +kernel)).symm⟩, ⟨fun x hx _ => h.2 x hx, fun i h1 h2 => ?_⟩, ?_, ?_, 0, by omega, ini_i h (x := 0) (by decide +kernel), ini_i h (x := 0) (by decide +kernel), fun j hj => absurd hj (by omega)⟩
  · intro t ht
    have : t = 0 ∨ t = 1 ∨ t = 2 ∨ t = 3 := by omega
    rcases this with rfl | rfl | rfl | rfl
    · exact .inl ⟨ini_i h (by decide +kernel), ini_i h (by decide +kernel)⟩
    · exact .inl ⟨ini_i h (by decide +kernel), ini_i h (by decide +kernel)⟩
    · exact .inl ⟨ini_i h (by decide +kernel), ini_i h (by decide +kernel)⟩
    · exact .inl ⟨ini_i h (by decide +kernel), ini_i h (by decide +kernel)⟩
  · refine ini_i h ?_
    unfold ini_li
    refine List.mem_append_right _ (List.mem_map.mpr ⟨i - 1024, List.mem_range.mpr (by omega), ?_⟩)
    rw [show 1024 + (i - 1024) = i by omega]
  · have e1 : s.1 106 8 = 0 := ini_i h (by decide +kernel)
    have e2 : s.1 117 31 = 0 := ini_i h (by decide +kernel)
    unfold dLv
    rw [e1, e2]
    exact ⟨rfl, fun z => absurd z (by decide)⟩
  · refine ⟨ini_D, ⟨by decide, fun k hk => absurd hk (by show ¬ k < 0; omega), fun k hk => absurd hk (by show ¬ k < 0; omega), fun k hk => absurd hk (by show ¬ k < 0; omega)⟩, ⟨⟨ini_i h (by decide +kernel), ini_i h (by decide +kernel), ini_i h (by decide +kernel), ini_i h (by decide +kernel), ini_i h (by decide +kernel), ini_i h (by decide +kernel)⟩, fun k hk => absurd hk (by show ¬ k < 0; omega), fun k hk => absurd hk (by show ¬ k < 0; omega), fun k hk => absurd hk (by show ¬ k < 0; omega)⟩, ⟨⟨ini_i h (by decide +kernel), ini_i h (by decide +kernel), ini_i h (by decide +kernel), ini_i h (by decide +kernel), ini_i h (by decide +kernel), ini_i h (by decide +kernel)⟩, fun k hk => absurd hk (by show ¬ k < 0; omega), fun k hk => absurd hk (by show ¬ k < 0; omega), fun k hk => absurd hk (by show ¬ k < 0; omega)⟩, ?_⟩
    have e1 : s.1 24 6 = 0 := ini_i h (by decide +kernel)
    have e2 : s.1 122 83 = 0 := ini_i h (by decide +kernel)
    refine ⟨0, 0, by omega, by omega, ini_i h (by decide +kernel), ini_i h (by decide +kernel), ini_i h (by decide +kernel), ?_, .inl ⟨rfl, rfl⟩⟩
    rw [e1, show 355 * 0 + 83 = 83 from rfl, e2]
    decide
section CPY
variable {s t s1 s2 t1 t2 : fu_S} {P P' Q b b' w w' l : Nat} {D : dD}
theorem dS_mv (h : ∀ k, 1 ≤ k → k < 4 → t1.1 (P' + k) l = s1.1 (P + k) l) (hw : ∀ i, i < 9 → t2.1 122 (w' + i) = s2.1 122 (w + i)) (hd : dS s1 P s2 w D l) : dS t1 P' t2 w' D l := by
  have h0 : t2.1 122 w' = s2.1 122 w := hw 0 (by omega)
  unfold dS at hd ⊢
  rw [h 1 (by omega) (by omega), h 2 (by omega) (by omega), h 3 (by omega) (by omega), h0, hw 1 (by omega), hw 2 (by omega)]
  exact hd
theorem dT_mv (h : ∀ k, 1 ≤ k → k < 4 → t1.1 (P' + k) l = s1.1 (P + k) l) (hw : ∀ i, i < 9 → t2.1 122 (w' + i) = s2.1 122 (w + i)) (hd : dT s1 P s2 w l) : dT t1 P' t2 w' l := by
  have h0 : t2.1 122 w' = s2.1 122 w := hw 0 (by omega)
  unfold dT at hd ⊢
  rw [h 1 (by omega) (by omega), h 2 (by omega) (by omega), h 3 (by omega) (by omega), h0, hw 1 (by omega), hw 5 (by omega), hw 6 (by omega), hw 7 (by omega)]
  exact hd
theorem dW_mv (h : ∀ k i, 1 ≤ k → k < 5 → i < 60 → t1.1 (P' + k) i = s1.1 (P + k) i) (hw : ∀ i, i < 272 → t2.1 122 (355 * b' + 83 + i) = s2.1 122 (355 * b + 83 + i)) : ∀ {f g lo hi l e : Nat}, hi ≤ 30 → e ≤ 60 → dW s1 P s2 b D f g lo hi l e → dW t1 P' t2 b' D f g lo hi l e
  | 0, _, _, _, _, _, _, _, hd => hd
  | f + 1, g, lo, hi, l, e, hh, he, hd => by
    rw [dW] at hd ⊢
    rcases hd with hd | ⟨h1, h2, hd⟩
    · exact .inl hd
    · refine .inr ⟨h1, h2, ?_⟩
      have hw9 : ∀ i, i < 9 → t2.1 122 (355 * b' + 85 + 9 * lo + i) = s2.1 122 (355 * b + 85 + 9 * lo + i) := fun i hi => by
        have := hw (2 + 9 * lo + i) (by omega)
        rw [show 355 * b' + 83 + (2 + 9 * lo + i) = 355 * b' + 85 + 9 * lo + i by omega, show 355 * b + 83 + (2 + 9 * lo + i) = 355 * b + 85 + 9 * lo + i by omega] at this
        exact this
      have hl4 : ∀ k, 1 ≤ k → k < 4 → t1.1 (P' + k) l = s1.1 (P + k) l := fun k k1 k2 => h k l k1 (by omega) (by omega)
      rcases hd with ⟨q1, q2, q3⟩ | ⟨q1, q2, n, m, r1, r2, r3, r4, r5, r6, r7, r8, r9, r10⟩
      · refine .inl ⟨dS_mv hl4 hw9 q1, ?_, dW_mv h hw hh he q3⟩
        rw [hw9 8 (by omega)]; exact q2
      · refine .inr ⟨dT_mv hl4 hw9 q1, q2, n, m, r1, r2, r3, r4, ?_, ?_, ?_, ?_, dW_mv h hw (by omega) (by omega) r9, dW_mv h hw hh he r10⟩
        · rw [hw9 8 (by omega)]; exact r5
        · rw [h 4 l (by omega) (by omega) (by omega)]; exact r6
        · rw [h 1 m (by omega) (by omega) (by omega)]; exact r7
        · rw [h 4 m (by omega) (by omega) (by omega)]; exact r8
theorem dQ_mv (h : ∀ k i, 1 ≤ k → k < 5 → i < 60 → t1.1 (P' + k) i = s1.1 (P + k) i) (h4 : t1.1 P' 4 = s1.1 P 4) (h5 : t1.1 P' 5 = s1.1 P 5) (h6 : fu_tb (t1.1 P' 6) = fu_tb (s1.1 P 6)) (hw : ∀ i, i < 272 → t2.1 122 (355 * b' + 83 + i) = s2.1 122 (355 * b + 83 + i)) (hd : dQ s1 P s2 b D) : dQ t1 P' t2 b' D := by
  obtain ⟨n, m, q1, q2, q3, q4, q5, q6, q7⟩ := hd
  have w0 : t2.1 122 (355 * b' + 83) = s2.1 122 (355 * b + 83) := hw 0 (by omega)
  have w1 : t2.1 122 (355 * b' + 84) = s2.1 122 (355 * b + 84) := hw 1 (by omega)
  exact ⟨n, m, q1, q2, h4.trans q3, h5.trans q4, w1.trans q5, by rw [h6, w0]; exact q6, dW_mv h hw q2 q1 q7⟩
/-- how long the rows of a district are -/
def d_ln (k : Nat) : Nat := if k ≤ 3 then 5 else if k ≤ 6 then 7 else 8
theorem dC_mv (hv : dV D) (h0 : ∀ q, q < 6 → t.1 P' q = s.1 P q) (h : ∀ k i, 1 ≤ k → k ≤ 12 → k ≠ 4 → i < d_ln k → t.1 (P' + k) i = s.1 (P + k) i) (h4 : ∀ i, i < 7 → t.2 (P' + 4) i = s.2 (P + 4) i) (hd : dC s P D) : dC t P' D := by
  obtain ⟨⟨v0, v1, v2, v3, v4, v5⟩, -⟩ := hv
  obtain ⟨⟨a0, a1, a2, a3, a4, a5⟩, k1, p1, t1⟩ := hd
  refine ⟨⟨(h0 0 (by omega)).trans a0, (h0 1 (by omega)).trans a1, (h0 2 (by omega)).trans a2, (h0 3 (by omega)).trans a3, (h0 4 (by omega)).trans a4, (h0 5 (by omega)).trans a5⟩, fun k hk => ?_, fun p hp => ?_, fun t ht => ?_⟩
  · rw [h 1 k (by omega) (by omega) (by omega) (by show k < 5; omega), h 2 k (by omega) (by omega) (by omega) (by show k < 5; omega), h 3 k (by omega) (by omega) (by omega) (by show k < 5; omega)]
    exact k1 k hk
  · rw [h4 p (by omega), h 5 p (by omega) (by omega) (by omega) (by show p < 7; omega), h 6 p (by omega) (by omega) (by omega) (by show p < 7; omega)]
    exact p1 p hp
  · rw [h 7 t (by omega) (by omega) (by omega) (by show t < 8; omega), h 8 t (by omega) (by omega) (by omega) (by show t < 8; omega), h 9 t (by omega) (by omega) (by omega) (by show t < 8; omega), h 10 t (by omega) (by omega) (by omega) (by show t < 8; omega), h 11 t (by omega) (by omega) (by omega) (by show t < 8; omega), h 12 t (by omega) (by omega) (by omega) (by show t < 8; omega)]
    exact t1 t ht
theorem dR_mv (hv : dV D) (h : ∀ i, i < 83 → t.1 122 (355 * b' + i) = s.1 122 (355 * b + i)) (hw : ∀ i, i < 7 → t.2 124 (7 * b' + i) = s.2 124 (7 * b + i)) (hd : dR s b D) : dR t b' D := by
  obtain ⟨⟨v0, v1, v2, v3, v4, v5⟩, -⟩ := hv
  obtain ⟨⟨a0, a1, a2, a3, a4, a5⟩, k1, p1, t1⟩ := hd
  have h' : ∀ j i, j + i < 83 → t.1 122 (355 * b' + j + i) = s.1 122 (355 * b + j + i) := fun j i hh => by rw [Nat.add_assoc, Nat.add_assoc]; exact h _ hh
  have g0 : t.1 122 (355 * b') = s.1 122 (355 * b) := h 0 (by omega)
  refine ⟨⟨g0.trans a0, (h 1 (by omega)).trans a1, (h 2 (by omega)).trans a2, (h 3 (by omega)).trans a3, (h 4 (by omega)).trans a4, (h 5 (by omega)).trans a5⟩, fun k hk => ?_, fun p hp => ?_, fun t ht => ?_⟩
  · rw [h' _ _ (by omega), h' _ _ (by omega), h' _ _ (by omega)]; exact k1 k hk
  · rw [hw _ (by omega), h' _ _ (by omega), h' _ _ (by omega)]; exact p1 p hp
  · rw [h' _ _ (by omega), h' _ _ (by omega), h' _ _ (by omega), h' _ _ (by omega), h' _ _ (by omega), h' _ _ (by omega)]; exact t1 t ht
/-- all but the places lo .. hi is as it was -/
def fC (lo hi : Nat) (s t : fu_S) : Prop := ∀ a, ¬ (lo ≤ a ∧ a < hi) → t.1 a = s.1 a ∧ t.2 a = s.2 a
theorem fC_rf {lo hi : Nat} : fC lo hi s s := fun _ _ => ⟨rfl, rfl⟩
theorem fC_tr {u : fu_S} {lo hi : Nat} (h : fC lo hi s t) (g : fC lo hi t u) : fC lo hi s u := fun a ha => ⟨(g a ha).1.trans (h a ha).1, (g a ha).2.trans (h a ha).2⟩
theorem fC_pi {lo hi a q : Nat} {x : Int32} (h : lo ≤ a ∧ a < hi) : fC lo hi s (fu_pi s a q x) := fun c hc => ⟨p1n (fun z => hc (by rw [z]; exact h)), rfl⟩
theorem fC_ci {lo hi a0 sp a dp n : Nat} (h : lo ≤ a ∧ a < hi) : fC lo hi s (fu_ci s a0 sp a dp n) := fun c hc => ⟨if_neg (fun z => hc (by rw [z]; exact h)), rfl⟩
theorem fC_cl {lo hi a0 sp a dp n : Nat} (h : lo ≤ a ∧ a < hi) : fC lo hi s (fu_cl s a0 sp a dp n) := fun c hc => ⟨rfl, if_neg (fun z => hc (by rw [z]; exact h))⟩
theorem ci_r {a0 a n i : Nat} (h : i < n) : (fu_ci s a0 0 a 0 n).1 a i = s.1 a0 i := by
  show (if a = a then va_cpy (s.1 a0) (s.1 a) 0 0 n else s.1 a) i = _
  rw [if_pos rfl]
  show (if 0 ≤ i ∧ i < 0 + n then s.1 a0 (0 + (i - 0)) else s.1 a i) = _
  rw [if_pos (by omega), Nat.zero_add, Nat.sub_zero]
theorem ci_n {a0 a n b sp dp : Nat} (h : b ≠ a) : (fu_ci s a0 sp a dp n).1 b = s.1 b := if_neg h
theorem cl_r {a0 a n i : Nat} (h : i < n) : (fu_cl s a0 0 a 0 n).2 a i = s.2 a0 i := by
  show (if a = a then va_cpy (s.2 a0) (s.2 a) 0 0 n else s.2 a) i = _
  rw [if_pos rfl]
  show (if 0 ≤ i ∧ i < 0 + n then s.2 a0 (0 + (i - 0)) else s.2 a i) = _
  rw [if_pos (by omega), Nat.zero_add, Nat.sub_zero]
theorem c_cpF : fC P (P + 13) s (f_X4_copyFrom s P Q) := by
  unfold f_X4_copyFrom fu_lt
  exact fC_tr (fC_tr (fC_tr (fC_tr (fC_tr (fC_tr (fC_tr (fC_tr (fC_tr (fC_tr (fC_tr (fC_tr (fC_tr (fC_tr (fC_tr (fC_tr (fC_tr (fC_pi (by omega)) (fC_pi (by omega))) (fC_pi (by omega))) (fC_pi (by omega))) (fC_pi (by omega))) (fC_pi (by omega))) (fC_ci (by omega))) (fC_ci (by omega))) (fC_ci (by omega))) (fC_cl (by omega))) (fC_ci (by omega))) (fC_ci (by omega))) (fC_ci (by omega))) (fC_ci (by omega))) (fC_ci (by omega))) (fC_ci (by omega))) (fC_ci (by omega))) (fC_ci (by omega))
theorem c_cpP : fC P (P + 5) s (f_X5_copyFrom s P Q) := by
  unfold f_X5_copyFrom fu_lt
  exact fC_tr (fC_tr (fC_tr (fC_tr (fC_tr (fC_tr (fC_ci (by omega)) (fC_ci (by omega))) (fC_ci (by omega))) (fC_ci (by omega))) (fC_pi (by omega))) (fC_pi (by omega))) (fC_pi (by omega))
end CPY
