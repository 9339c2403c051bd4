/-! what a write leaves as it was -/
section FRM
variable {s s' t : fu_S} {a b q r : Nat} {x : Int32} {y : Int64}
theorem p1 : (fu_pi s a q x).1 a q = x := by simp [fu_pi]
theorem p1n (h : b ≠ a) : (fu_pi s a q x).1 b = s.1 b := by funext r; simp [fu_pi, h]
theorem p1q (h : r ≠ q) : (fu_pi s a q x).1 b r = s.1 b r := by simp [fu_pi, h]
theorem p1r : (fu_pi s a q x).1 b r = if b = a ∧ r = q then x else s.1 b r := rfl
theorem p2 : (fu_pi s a q x).2 = s.2 := rfl
theorem l1 : (fu_pl s a q y).1 = s.1 := rfl
theorem l2 : (fu_pl s a q y).2 a q = y := by simp [fu_pl]
theorem l2n (h : b ≠ a) : (fu_pl s a q y).2 b = s.2 b := by funext r; simp [fu_pl, h]
theorem l2q (h : r ≠ q) : (fu_pl s a q y).2 b r = s.2 b r := by simp [fu_pl, h]
theorem l2r : (fu_pl s a q y).2 b r = if b = a ∧ r = q then y else s.2 b r := rfl
end FRM
theorem dC_congr {s s' : fu_S} {P : Nat} {D : dD} (h : ∀ k, k < 13 → s'.1 (P + k) = s.1 (P + k) ∧ s'.2 (P + k) = s.2 (P + k)) (hd : dC s P D) : dC s' P D := by
  have h0 := (h 0 (by omega)).1
  have h1 := (h 1 (by omega)).1
  have h2 := (h 2 (by omega)).1
  have h3 := (h 3 (by omega)).1
  have h4 := (h 4 (by omega)).2
  have h5 := (h 5 (by omega)).1
  have h6 := (h 6 (by omega)).1
  have h7 := (h 7 (by omega)).1
  have h8 := (h 8 (by omega)).1
  have h9 := (h 9 (by omega)).1
  have h10 := (h 10 (by omega)).1
  have h11 := (h 11 (by omega)).1
  have h12 := (h 12 (by omega)).1
  rw [Nat.add_zero] at h0
  unfold dC at hd ⊢
  rw [h0, h1, h2, h3, h4, h5, h6, h7, h8, h9, h10, h11, h12]
  exact hd
theorem dR_congr {s s' : fu_S} {b : Nat} {D : dD} (hv : dV D) (h : ∀ i, 355 * b ≤ i → i < 355 * b + 83 → s'.1 122 i = s.1 122 i) (hw : ∀ i, 7 * b ≤ i → i < 7 * b + 7 → s'.2 124 i = s.2 124 i) (hd : dR s b D) : dR s' b D := by
  obtain ⟨⟨v0, v1, v2, v3, v4, v5⟩, -⟩ := hv
  obtain ⟨⟨a0, a1, a2, a3, a4, a5⟩, k1, p1, t1⟩ := hd
  refine ⟨⟨?_, ?_, ?_, ?_, ?_, ?_⟩, fun k hk => ?_, fun p hp => ?_, fun t ht => ?_⟩
  · rw [h _ (by omega) (by omega)]; exact a0
  · rw [h _ (by omega) (by omega)]; exact a1
  · rw [h _ (by omega) (by omega)]; exact a2
  · rw [h _ (by omega) (by omega)]; exact a3
  · rw [h _ (by omega) (by omega)]; exact a4
  · rw [h _ (by omega) (by omega)]; exact a5
  · rw [h _ (by omega) (by omega), h _ (by omega) (by omega), h _ (by omega) (by omega)]; exact k1 k hk
  · rw [hw _ (by omega) (by omega), h _ (by omega) (by omega), h _ (by omega) (by omega)]; exact p1 p hp
  · rw [h _ (by omega) (by omega), h _ (by omega) (by omega), h _ (by omega) (by omega), h _ (by omega) (by omega), h _ (by omega) (by omega), h _ (by omega) (by omega)]; exact t1 t ht
theorem dS_congr {s1 t1 s2 t2 : fu_S} {P w l : Nat} {D : dD} (h : ∀ k, k < 5 → t1.1 (P + k) = s1.1 (P + k)) (hw : ∀ i, w ≤ i → i < w + 9 → t2.1 122 i = s2.1 122 i) (hd : dS s1 P s2 w D l) : dS t1 P t2 w D l := by
  unfold dS at hd ⊢
  rw [h 1 (by omega), h 2 (by omega), h 3 (by omega), hw w (by omega) (by omega), hw (w + 1) (by omega) (by omega), hw (w + 2) (by omega) (by omega)]
  exact hd
theorem dT_congr {s1 t1 s2 t2 : fu_S} {P w l : Nat} (h : ∀ k, k < 5 → t1.1 (P + k) = s1.1 (P + k)) (hw : ∀ i, w ≤ i → i < w + 9 → t2.1 122 i = s2.1 122 i) (hd : dT s1 P s2 w l) : dT t1 P t2 w l := by
  unfold dT at hd ⊢
  rw [h 1 (by omega), h 2 (by omega), h 3 (by omega), hw w (by omega) (by omega), hw (w + 1) (by omega) (by omega), hw (w + 5) (by omega) (by omega), hw (w + 6) (by omega) (by omega), hw (w + 7) (by omega) (by omega)]
  exact hd
theorem dW_congr {s1 t1 s2 t2 : fu_S} {P b : Nat} {D : dD} (h : ∀ k, k < 5 → t1.1 (P + k) = s1.1 (P + k)) (hw : ∀ i, 355 * b + 83 ≤ i → i < 355 * b + 355 → t2.1 122 i = s2.1 122 i) : ∀ {f g lo hi l e : Nat}, hi ≤ 30 → dW s1 P s2 b D f g lo hi l e → dW t1 P t2 b D f g lo hi l e
  | 0, _, _, _, _, _, _, hd => hd
  | f + 1, g, lo, hi, l, e, hh, hd => by
    rw [dW] at hd ⊢
    rcases hd with hd | ⟨h1, h2, hd⟩
    · exact .inl hd
    · refine .inr ⟨h1, h2, ?_⟩
      rcases hd with ⟨q1, q2, q3⟩ | ⟨q1, q2, n, m, r1, r2, r3, r4, r5, r6, r7, r8, r9, r10⟩
      · refine .inl ⟨dS_congr h (fun i hi1 hi2 => hw i (by omega) (by omega)) q1, ?_, dW_congr h hw hh q3⟩
        rw [hw _ (by omega) (by omega)]; exact q2
      · refine .inr ⟨dT_congr h (fun i hi1 hi2 => hw i (by omega) (by omega)) q1, q2, n, m, r1, r2, r3, r4, ?_, ?_, ?_, ?_, dW_congr h hw (by omega) r9, dW_congr h hw hh r10⟩
        · rw [hw _ (by omega) (by omega)]; exact r5
        · rw [h 4 (by omega)]; exact r6
        · rw [h 1 (by omega)]; exact r7
        · rw [h 4 (by omega)]; exact r8
theorem dQ_congr {s1 t1 s2 t2 : fu_S} {P b : Nat} {D : dD} (h : ∀ k, k < 5 → t1.1 (P + k) = s1.1 (P + k)) (hw : ∀ i, 355 * b + 83 ≤ i → i < 355 * b + 355 → t2.1 122 i = s2.1 122 i) (hd : dQ s1 P s2 b D) : dQ t1 P t2 b D := by
  obtain ⟨n, m, h1, h2, h3, h4, h5, h6, h7⟩ := hd
  have h0 := h 0 (by omega)
  rw [Nat.add_zero] at h0
  refine ⟨n, m, h1, h2, ?_, ?_, ?_, ?_, dW_congr h hw h2 h7⟩
  · rw [h0]; exact h3
  · rw [h0]; exact h4
  · rw [hw _ (by omega) (by omega)]; exact h5
  · rw [h0, hw _ (by omega) (by omega)]; exact h6
theorem dB_congr {s1 t1 s2 t2 : fu_S} {P Q b : Nat} (h : ∀ k, k < 13 → t1.1 (P + k) = s1.1 (P + k) ∧ t1.2 (P + k) = s1.2 (P + k)) (h' : ∀ k, k < 5 → t1.1 (Q + k) = s1.1 (Q + k)) (hw : ∀ i, 355 * b ≤ i → i < 355 * b + 355 → t2.1 122 i = s2.1 122 i) (hn : ∀ i, 7 * b ≤ i → i < 7 * b + 7 → t2.2 124 i = s2.2 124 i) (hd : dB s1 P Q s2 b) : dB t1 P Q t2 b := by
  obtain ⟨D, h1, h2, h3, h4⟩ := hd
  exact ⟨D, h1, dC_congr h h2, dR_congr h1 (fun i a b => hw i a (by omega)) hn h3, dQ_congr h' (fun i a b => hw i (by omega) b) h4⟩
/-- t has what s has, but for what no call tells of -/
def eqC (s t : fu_S) : Prop := t.1 0 14 = s.1 0 14 ∧ t.2 0 = s.2 0 ∧ t.1 5 2 = s.1 5 2 ∧ t.1 5 8 = s.1 5 8 ∧ (t.1 5 9 = s.1 5 9 ∧ ∀ i, 1024 ≤ i → t.1 113 i = s.1 113 i) ∧ ∀ a, (a = 2 ∨ a = 3 ∨ a = 4 ∨ a = 6 ∨ a = 7 ∨ a = 106 ∨ (11 ≤ a ∧ a < 29) ∨ (51 ≤ a ∧ a < 106)) → t.1 a = s.1 a ∧ t.2 a = s.2 a
def eqR (s t : fu_S) : Prop := t.2 117 2 = s.2 117 2 ∧ t.2 117 3 = s.2 117 3 ∧ t.1 117 8 = s.1 117 8 ∧ t.1 117 10 = s.1 117 10 ∧ t.1 117 11 = s.1 117 11 ∧ t.1 117 23 = s.1 117 23 ∧ t.1 117 31 = s.1 117 31 ∧ (∀ a, (a = 118 ∨ a = 119 ∨ a = 120 ∨ a = 121 ∨ a = 127) → t.1 a = s.1 a ∧ t.2 a = s.2 a) ∧ (∀ i, i < 1420 → t.1 122 i = s.1 122 i) ∧ ∀ i, i < 28 → t.2 124 i = s.2 124 i
theorem eqC_rf {s : fu_S} : eqC s s := ⟨rfl, rfl, rfl, rfl, ⟨rfl, fun _ _ => rfl⟩, fun _ _ => ⟨rfl, rfl⟩⟩
theorem eqR_rf {s : fu_S} : eqR s s := ⟨rfl, rfl, rfl, rfl, rfl, rfl, rfl, fun _ _ => ⟨rfl, rfl⟩, fun _ _ => rfl, fun _ _ => rfl⟩
theorem eqC_st {s : fu_S} {x : Int32} : eqC s (fu_pi s 0 15 x) := ⟨p1q (by omega), rfl, by rw [p1n (by omega)], by rw [p1n (by omega)], ⟨by rw [p1n (by omega)], fun i _ => by rw [p1n (by omega)]⟩, fun a h => ⟨p1n (by omega), rfl⟩⟩
theorem eqR_st {s : fu_S} {q : Nat} {x : Int32} (h8 : q ≠ 8) (h10 : q ≠ 10) (h11 : q ≠ 11) (h23 : q ≠ 23) (h31 : q ≠ 31) : eqR s (fu_pi s 117 q x) := ⟨rfl, rfl, p1q (Ne.symm h8), p1q (Ne.symm h10), p1q (Ne.symm h11), p1q (Ne.symm h23), p1q (Ne.symm h31), fun a h => ⟨p1n (by omega), rfl⟩, fun i _ => by rw [p1n (by omega)], fun _ _ => rfl⟩
theorem eqC_tr {s t u : fu_S} (h : eqC s t) (g : eqC t u) : eqC s u := by
  obtain ⟨h1, h2, h3, h4, h5, h6⟩ := h
  obtain ⟨g1, g2, g3, g4, g5, g6⟩ := g
  exact ⟨g1.trans h1, g2.trans h2, g3.trans h3, g4.trans h4, ⟨g5.1.trans h5.1, fun i hi => (g5.2 i hi).trans (h5.2 i hi)⟩, fun a ha => ⟨(g6 a ha).1.trans (h6 a ha).1, (g6 a ha).2.trans (h6 a ha).2⟩⟩
theorem eqR_tr {s t u : fu_S} (h : eqR s t) (g : eqR t u) : eqR s u := by
  obtain ⟨h1, h2, h3, h4, h5, h6, h7, h8, h9, h10⟩ := h
  obtain ⟨g1, g2, g3, g4, g5, g6, g7, g8, g9, g10⟩ := g
  exact ⟨g1.trans h1, g2.trans h2, g3.trans h3, g4.trans h4, g5.trans h5, g6.trans h6, g7.trans h7, fun a ha => ⟨(g8 a ha).1.trans (h8 a ha).1, (g8 a ha).2.trans (h8 a ha).2⟩, fun i hi => (g9 i hi).trans (h9 i hi), fun i hi => (g10 i hi).trans (h10 i hi)⟩
theorem dB_eq {s1 t1 s2 t2 : fu_S} (hc : eqC s1 t1) (hr : eqR s2 t2) {P Q b : Nat} (hP : (P = 11 ∧ Q = 24) ∨ (51 ≤ P ∧ P + 13 ≤ 106 ∧ 51 ≤ Q ∧ Q + 5 ≤ 106)) (hb : b ≤ 3) (hd : dB s1 P Q s2 b) : dB t1 P Q t2 b := by
  obtain ⟨-, -, -, -, -, c6⟩ := hc
  obtain ⟨-, -, -, -, -, -, -, -, r9, r10⟩ := hr
  exact dB_congr (fun k hk => c6 _ (by omega)) (fun k hk => (c6 _ (by omega)).1) (fun i h1 h2 => r9 i (by omega)) (fun i h1 h2 => r10 i (by omega)) hd
theorem dWd_congr {s t : fu_S} (h6 : t.2 6 = s.2 6) (hm : ∀ i, 1024 ≤ i → i < 1152 → t.1 113 i = s.1 113 i) (hW : dWd s) : dWd t := by
  refine ⟨fun x hx h => ?_, fun i h1 h2 => (hm i h1 h2).trans (hW.2 i h1 h2)⟩
  have := hW.1 x hx h
  rw [h, h6, ← h]
  exact this
theorem dJ_eq {s1 t1 s2 t2 : fu_S} (hc : eqC s1 t1) (hr : eqR s2 t2) (hJ : dJ s1 s2) : dJ t1 t2 := by
  obtain ⟨⟨f1, f2⟩, hT, hP, hW, hL, hB, m, m1, m2, m3, m4⟩ := hJ
  have hcc := id hc
  have hrr := id hr
  obtain ⟨c1, c2, c3, c4, c5, c6⟩ := hc
  obtain ⟨r1, r2, r3, r4, r5, r6, r7, r8, r9, r10⟩ := hr
  refine ⟨⟨by rw [c2, r1]; exact f1, by rw [c2, r2]; exact f2⟩, ?_, ?_, ?_, ?_, dB_eq hcc hrr (.inl ⟨rfl, rfl⟩) (by omega) hB, m, m1, c1.trans m2, r6.trans m3, fun j hj => dB_eq hcc hrr (.inr (by omega)) (by omega) (m4 j hj)⟩
  · intro t ht
    rw [(c6 4 (by omega)).1, (c6 3 (by omega)).1, (c6 2 (by omega)).2, (r8 119 (by omega)).1, (r8 118 (by omega)).1, (r8 120 (by omega)).2]
    exact hT t ht
  · unfold dTp at hP ⊢
    rw [c3, c4, c5.1, r3, r4, r5, (c6 7 (by omega)).1, (r8 121 (by omega)).1]
    exact hP
  · exact dWd_congr (c6 6 (by omega)).2 (fun i hi _ => c5.2 i hi) hW
  · unfold dLv at hL ⊢
    rw [(c6 106 (by omega)).1, r7, (r8 127 (by omega)).1]
    exact hL
/-- a call that tells, and writes nothing that is told of -/
theorem dI_eq {s1 t1 s2 t2 : fu_S} (hI : dI s1 s2) (hc : eqC s1 t1) (hr : eqR s2 t2) (hs : t1.1 0 15 = t2.1 117 0) : dI t1 t2 := ⟨hs, dJ_eq hc hr hI.2⟩
