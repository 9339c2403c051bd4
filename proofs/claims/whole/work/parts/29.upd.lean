/-! what changes the district -/
def eqC2 (s t : fu_S) : Prop := t.1 0 14 = s.1 0 14 ∧ t.2 0 = s.2 0 ∧ t.1 5 2 = s.1 5 2 ∧ t.1 5 8 = s.1 5 8 ∧ (t.1 5 9 = s.1 5 9 ∧ ∀ i, 1024 ≤ i → t.1 113 i = s.1 113 i) ∧ ∀ a, (a = 2 ∨ a = 3 ∨ a = 4 ∨ a = 6 ∨ a = 7 ∨ a = 106 ∨ (24 ≤ a ∧ a < 29) ∨ (51 ≤ a ∧ a < 106)) → t.1 a = s.1 a ∧ t.2 a = s.2 a
def eqR2 (s t : fu_S) : Prop := t.2 117 2 = s.2 117 2 ∧ t.2 117 3 = s.2 117 3 ∧ t.1 117 8 = s.1 117 8 ∧ t.1 117 10 = s.1 117 10 ∧ t.1 117 11 = s.1 117 11 ∧ t.1 117 23 = s.1 117 23 ∧ t.1 117 31 = s.1 117 31 ∧ (∀ a, (a = 118 ∨ a = 119 ∨ a = 120 ∨ a = 121 ∨ a = 127) → t.1 a = s.1 a ∧ t.2 a = s.2 a) ∧ (∀ i, 83 ≤ i → i < 1420 → t.1 122 i = s.1 122 i) ∧ ∀ i, 7 ≤ i → i < 28 → t.2 124 i = s.2 124 i
theorem eqC2_rf {s : fu_S} : eqC2 s s := ⟨rfl, rfl, rfl, rfl, ⟨rfl, fun _ _ => rfl⟩, fun _ _ => ⟨rfl, rfl⟩⟩
theorem eqR2_rf {s : fu_S} : eqR2 s s := ⟨rfl, rfl, rfl, rfl, rfl, rfl, rfl, fun _ _ => ⟨rfl, rfl⟩, fun _ _ _ => rfl, fun _ _ _ => rfl⟩
theorem eqC2_tr {s t u : fu_S} (h : eqC2 s t) (g : eqC2 t u) : eqC2 s u := by
  obtain ⟨h1, h2, h3, h4, h5, h6⟩ := h
  obtain ⟨g1, g2, g3, g4, g5, g6⟩ := g
  exact ⟨g1.trans h1, g2.trans h2, g3.trans h3, g4.trans h4, ⟨g5.1.trans h5.1, fun i hi => (g5.2 i hi).trans (h5.2 i hi)⟩, fun a ha => ⟨(g6 a ha).1.trans (h6 a ha).1, (g6 a ha).2.trans (h6 a ha).2⟩⟩
theorem eqR2_tr {s t u : fu_S} (h : eqR2 s t) (g : eqR2 t u) : eqR2 s u := by
  obtain ⟨h1, h2, h3, h4, h5, h6, h7, h8, h9, h10⟩ := h
  obtain ⟨g1, g2, g3, g4, g5, g6, g7, g8, g9, g10⟩ := g
  exact ⟨g1.trans h1, g2.trans h2, g3.trans h3, g4.trans h4, g5.trans h5, g6.trans h6, g7.trans h7, fun a ha => ⟨(g8 a ha).1.trans (h8 a ha).1, (g8 a ha).2.trans (h8 a ha).2⟩, fun i hi hj => (g9 i hi hj).trans (h9 i hi hj), fun i hi hj => (g10 i hi hj).trans (h10 i hi hj)⟩
theorem eqC2_of {s t : fu_S} (h : eqC s t) : eqC2 s t := ⟨h.1, h.2.1, h.2.2.1, h.2.2.2.1, h.2.2.2.2.1, fun a ha => h.2.2.2.2.2 a (by omega)⟩
theorem eqR2_of {s t : fu_S} (h : eqR s t) : eqR2 s t := by
  obtain ⟨h1, h2, h3, h4, h5, h6, h7, h8, h9, h10⟩ := h
  exact ⟨h1, h2, h3, h4, h5, h6, h7, h8, fun i _ hj => h9 i hj, fun i _ hj => h10 i hj⟩
/-- a write into the parish -/
theorem eqC2_pi {s : fu_S} {a q : Nat} {x : Int32} (h : 11 ≤ a ∧ a < 24) : eqC2 s (fu_pi s a q x) := ⟨by rw [p1n (by omega)], rfl, by rw [p1n (by omega)], by rw [p1n (by omega)], ⟨by rw [p1n (by omega)], fun i _ => by rw [p1n (by omega)]⟩, fun b hb => ⟨p1n (by omega), rfl⟩⟩
theorem eqC2_pl {s : fu_S} {a q : Nat} {x : Int64} (h : 11 ≤ a ∧ a < 24) : eqC2 s (fu_pl s a q x) := ⟨rfl, l2n (by omega), rfl, rfl, ⟨rfl, fun _ _ => rfl⟩, fun b hb => ⟨rfl, l2n (by omega)⟩⟩
theorem eqR2_pi {s : fu_S} {q : Nat} {x : Int32} (h : q < 83) : eqR2 s (fu_pi s 122 q x) := ⟨rfl, rfl, by rw [p1n (by omega)], by rw [p1n (by omega)], by rw [p1n (by omega)], by rw [p1n (by omega)], by rw [p1n (by omega)], fun b hb => ⟨p1n (by omega), rfl⟩, fun i hi hj => p1q (by omega), fun _ _ _ => rfl⟩
theorem eqR2_pl {s : fu_S} {q : Nat} {x : Int64} (h : q < 7) : eqR2 s (fu_pl s 124 q x) := ⟨by rw [l2n (by omega)], by rw [l2n (by omega)], rfl, rfl, rfl, rfl, rfl, fun b hb => ⟨rfl, l2n (by omega)⟩, fun i hi hj => rfl, fun i hi hj => l2q (by omega)⟩
theorem dS_mono {s1 s2 : fu_S} {P w l : Nat} {D D' : dD} (h4 : D 0 4 ≤ D' 0 4) (h3 : D 0 3 ≤ D' 0 3) (hd : dS s1 P s2 w D l) : dS s1 P s2 w D' l := by
  rcases hd with h | ⟨a, b, p, k, h1, h2, h⟩ | ⟨a, b, p, t, h1, h2, h⟩ | h | h
  · exact .inl h
  · exact .inr (.inl ⟨a, b, p, k, by omega, by omega, h⟩)
  · exact .inr (.inr (.inl ⟨a, b, p, t, by omega, h2, h⟩))
  · exact .inr (.inr (.inr (.inl h)))
  · exact .inr (.inr (.inr (.inr h)))
theorem dW_mono {s1 s2 : fu_S} {P b : Nat} {D D' : dD} (h4 : D 0 4 ≤ D' 0 4) (h3 : D 0 3 ≤ D' 0 3) : ∀ {f g lo hi l e : Nat}, dW s1 P s2 b D f g lo hi l e → dW s1 P s2 b D' f g lo hi l e
  | 0, _, _, _, _, _, hd => hd
  | f + 1, g, lo, hi, l, e, hd => by
    rw [dW] at hd ⊢
    rcases hd with hd | ⟨h1, h2, hd⟩
    · exact .inl hd
    · refine .inr ⟨h1, h2, ?_⟩
      rcases hd with ⟨q1, q2, q3⟩ | ⟨q1, q2, n, m, r1, r2, r3, r4, r5, r6, r7, r8, r9, r10⟩
      · exact .inl ⟨dS_mono h4 h3 q1, q2, dW_mono h4 h3 q3⟩
      · exact .inr ⟨q1, q2, n, m, r1, r2, r3, r4, r5, r6, r7, r8, dW_mono h4 h3 r9, dW_mono h4 h3 r10⟩
theorem dQ_mono {s1 s2 : fu_S} {P b : Nat} {D D' : dD} (h4 : D 0 4 ≤ D' 0 4) (h3 : D 0 3 ≤ D' 0 3) (hd : dQ s1 P s2 b D) : dQ s1 P s2 b D' := by
  obtain ⟨n, m, h1, h2, h5, h6, h7, h8, h9⟩ := hd
  exact ⟨n, m, h1, h2, h5, h6, h7, h8, dW_mono h4 h3 h9⟩
/-- the district changed, all else as it was -/
theorem dI_upd {s1 t1 s2 t2 : fu_S} {D D' : dD} (hI : dI s1 s2) (hQ : dQ s1 24 s2 0 D) (hc : eqC2 s1 t1) (hr : eqR2 s2 t2) (hst : t1.1 0 15 = t2.1 117 0) (hv : dV D') (hC : dC t1 11 D') (hR : dR t2 0 D') (h4 : D 0 4 ≤ D' 0 4) (h3 : D 0 3 ≤ D' 0 3) : dI t1 t2 := by
  obtain ⟨-, ⟨f1, f2⟩, hT, hP, hW, hL, -, m, m1, m2, m3, m4⟩ := hI
  obtain ⟨c1, c2, c3, c4, c5, c6⟩ := hc
  obtain ⟨r1, r2, r3, r4, r5, r6, r7, r8, r9, r10⟩ := hr
  refine ⟨hst, ⟨by rw [c2, r1]; exact f1, by rw [c2, r2]; exact f2⟩, ?_, ?_, ?_, ?_, ⟨D', hv, hC, hR, dQ_mono h4 h3 (dQ_congr (fun k hk => (c6 _ (by omega)).1) (fun i h1 h2 => r9 i (by omega) (by omega)) hQ)⟩, m, m1, c1.trans m2, r6.trans m3, fun j hj => dB_congr (fun k hk => c6 _ (by omega)) (fun k hk => (c6 _ (by omega)).1) (fun i h1 h2 => r9 i (by omega) (by omega)) (fun i h1 h2 => r10 i (by omega) (by omega)) (m4 j hj)⟩
  · intro t ht
    rw [(c6 4 (by omega)).1, (c6 3 (by omega)).1, (c6 2 (by omega)).2, (r8 119 (by omega)).1, (r8 118 (by omega)).1, (r8 120 (by omega)).2]
    exact hT t ht
  · unfold dTp at hP ⊢
    rw [c3, c4, c5.1, r3, r4, r5, (c6 7 (by omega)).1, (r8 121 (by omega)).1]
    exact hP
  · exact dWd_congr (c6 6 (by omega)).2 (fun i hi _ => c5.2 i hi) hW
  · unfold dLv at hL ⊢
    rw [(c6 106 (by omega)).1, r7, (r8 127 (by omega)).1]
    exact hL
