/-! district -/
section DST
variable {s t r s1 s2 t1 t2 : fu_S} {u : Nat → Nat} {n T p q e f k i g v j m lo w P V W R a b lim : Nat} {x y : Int32} {z : Int64} {D : dD}
theorem f1_1 (h : f5 s1 t1) : fZ1 s1 t1 := fZ1_Q (fQ1_5 h)
/-- refused: a text begun and faulted -/
theorem op_bad (hI : dI s1 s2) (h1 : fZ1 s1 t1) (h2 : fZ2 s2 t2) (h8 : t2.1 117 8 = 0) (hb : BA t1 t2) : ∃ V, f_X12_isWell t2 = (false, V) ∧ dI (f_X8_wipe (fu_pi t1 0 15 10)) V := by
  obtain ⟨f, pl, hf, hpl, b1, b2, b3, b4⟩ := hb
  have hne : ¬ Int32.ofNat f = 0 := fun z => by have := (i_eq0 (by omega)).mp z; omega
  obtain ⟨V, hV⟩ : ∃ V, V = fu_pi (fu_pi (fu_pi t2 117 10 (Int32.ofNat f)) 117 11 (Int32.ofNat pl)) 117 0 10 := ⟨_, rfl⟩
  have vn : ∀ a, a ≠ 117 → V.1 a = t2.1 a := fun a ha => by rw [hV, p1n ha, p1n ha, p1n ha]
  have v2 : V.2 = t2.2 := by rw [hV]; rfl
  have vq : ∀ q, q ≠ 0 → q ≠ 10 → q ≠ 11 → V.1 117 q = t2.1 117 q := fun q x0 x1 x2 => by rw [hV, p1q x0, p1q x2, p1q x1]
  have v0 : V.1 117 0 = 10 := by rw [hV, p1]
  have v10 : V.1 117 10 = Int32.ofNat f := by rw [hV, p1q (by omega), p1q (by omega), p1]
  have v11 : V.1 117 11 = Int32.ofNat pl := by rw [hV, p1q (by omega), p1]
  obtain ⟨U, hU⟩ : ∃ U, U = f_X8_wipe (fu_pi t1 0 15 10) := ⟨_, rfl⟩
  have hU' : U = fu_pi (fu_pi t1 0 15 10) 5 2 0 := hU
  have un : ∀ a, a ≠ 0 → a ≠ 5 → U.1 a = t1.1 a := fun a x0 x5 => by rw [hU', p1n x5, p1n x0]
  have u2 : U.2 = t1.2 := by rw [hU']; rfl
  have u5 : ∀ q, q ≠ 2 → U.1 5 q = t1.1 5 q := fun q hq => by rw [hU', p1q hq, p1n (by omega)]
  have u52 : U.1 5 2 = 0 := by rw [hU', p1]
  have u015 : U.1 0 15 = 10 := by rw [hU', p1n (by omega), p1]
  have u0 : ∀ q, q ≠ 15 → U.1 0 q = t1.1 0 q := fun q hq => by rw [hU', p1n (by omega), p1q hq]
  refine ⟨V, ?_, ?_⟩
  · unfold f_X12_isWell f_X12_no fu_lt
    rw [b3]
    dsimp only
    rw [show (fu_pi t2 117 10 (Int32.ofNat f)).1 117 12 = Int32.ofNat f from by rw [p1q (by omega)]; exact b3, if_neg hne, show (fu_pi t2 117 10 (Int32.ofNat f)).1 117 13 = Int32.ofNat pl from by rw [p1q (by omega)]; exact b4, show (fu_pi (fu_pi t2 117 10 (Int32.ofNat f)) 117 11 (Int32.ofNat pl)).1 117 12 = Int32.ofNat f from by rw [p1q (by omega), p1q (by omega)]; exact b3, if_neg hne, if_neg Bool.false_ne_true, ← hV]
  · rw [← hU]
    have hI' := hI
    obtain ⟨-, -, -, -, -, hL, hB, m, m1, m2, m3, m4⟩ := hI'
    have kc : ∀ a, ¬ (a = 0 ∨ a = 5 ∨ a = 8 ∨ a = 9 ∨ a = 10 ∨ (29 ≤ a ∧ a < 51)) → U.1 a = s1.1 a ∧ U.2 a = s1.2 a := fun a ha => ⟨(un a (by omega) (by omega)).trans (h1 a (by omega)).1, by rw [u2]; exact (h1 a (by omega)).2⟩
    have kr : ∀ a, a ≠ 117 → a ≠ 122 → a ≠ 124 → V.1 a = s2.1 a ∧ V.2 a = s2.2 a := fun a x1 x2 x3 => ⟨(vn a x1).trans (h2.1 a x1 x2 x3).1, by rw [v2]; exact (h2.1 a x1 x2 x3).2⟩
    have k122 : ∀ i, i < 1420 → V.1 122 i = s2.1 122 i := fun i hi => by rw [vn 122 (by omega)]; exact h2.2.2.1 i hi
    have k124 : ∀ i, i < 28 → V.2 124 i = s2.2 124 i := fun i hi => by rw [v2]; exact h2.2.2.2.2 i hi
    refine dI_mk hI (by rw [u015, v0]) ⟨⟨0, by omega, u52, by rw [vq 8 (by omega) (by omega) (by omega)]; exact h8, fun i hi => absurd hi (by omega)⟩, ?_, ?_⟩ (dLv_c (kc 106 (by omega)).1 ?_ (kr 127 (by omega) (by omega) (by omega)).1 hL) (by rw [u2]; exact (h1 0 (by omega)).2) (fun a ha => kc a (by omega)) (fun i _ => by rw [(kc 113 (by omega)).1]) ⟨?_, ?_⟩ (fun a ha => kr a (by omega) (by omega) (by omega)) (dB_congr (fun k hk => kc _ (by omega)) (fun k hk => (kc _ (by omega)).1) (fun i x0 x1 => k122 i (by omega)) (fun i x0 x1 => k124 i (by omega)) hB) ⟨m, m1, ?_, ?_, fun j hj => dB_congr (fun k hk => kc _ (by omega)) (fun k hk => (kc _ (by omega)).1) (fun i x0 x1 => k122 i (by omega)) (fun i x0 x1 => k124 i (by omega)) (m4 j hj)⟩
    · rw [u5 8 (by omega), v10]; exact b1
    · rw [u5 9 (by omega), v11]; exact b2
    · rw [vq 31 (by omega) (by omega) (by omega)]; exact h2.2.1 31 (by omega)
    · rw [v2]; exact h2.2.2.2.1 2 (by omega)
    · rw [v2]; exact h2.2.2.2.1 3 (by omega)
    · rw [u0 14 (by omega), (h1 0 (by omega)).1]; exact m2
    · rw [vq 23 (by omega) (by omega) (by omega), h2.2.1 23 (by omega)]; exact m3
/-- well: a text read -/
theorem r_well (h : OK u n T s1 s2 i) : f_X12_isWell s2 = (true, fu_pi (fu_pi s2 117 10 0) 117 11 (-1)) := by
  have h12 := OK_0 h
  unfold f_X12_isWell fu_lt
  rw [h12]
  dsimp only
  rw [show (fu_pi s2 117 10 0).1 117 12 = 0 from by rw [p1q (by omega)]; exact h12, if_pos rfl, show (fu_pi (fu_pi s2 117 10 0) 117 11 (-1)).1 117 12 = 0 from by rw [p1q (by omega), p1q (by omega)]; exact h12, if_pos rfl]
/-- a text read whole -/
theorem op_good {U V : fu_S} (hI : dI s1 s2) (st : s1.1 0 15 = 0) (kc : ∀ a, ¬ (a = 5 ∨ a = 8 ∨ a = 9 ∨ a = 10 ∨ (11 ≤ a ∧ a < 51)) → U.1 a = s1.1 a ∧ U.2 a = s1.2 a) (u52 : U.1 5 2 = 0) (u58 : U.1 5 8 = 0) (u59 : U.1 5 9 = -1) (kr : ∀ a, a ≠ 117 → a ≠ 122 → a ≠ 124 → V.1 a = s2.1 a ∧ V.2 a = s2.2 a) (v8 : V.1 117 8 = 0) (v10 : V.1 117 10 = 0) (v11 : V.1 117 11 = -1) (vq : ∀ q, (q = 0 ∨ q = 23 ∨ q = 31) → V.1 117 q = s2.1 117 q) (vl : ∀ q, q ≠ 19 → V.2 117 q = s2.2 117 q) (k122 : ∀ i, 355 ≤ i → i < 1420 → V.1 122 i = s2.1 122 i) (k124 : ∀ i, 7 ≤ i → i < 28 → V.2 124 i = s2.2 124 i) (hB : dB U 11 24 V 0) : dI U V := by
  have hI' := hI
  obtain ⟨hs, -, -, -, -, hL, -, m, m1, m2, m3, m4⟩ := hI'
  have k0 := kc 0 (by omega)
  refine dI_mk hI (by rw [k0.1, vq 0 (by omega)]; exact hs) ⟨⟨0, by omega, u52, v8, fun i hi => absurd hi (by omega)⟩, u58.trans v10.symm, u59.trans v11.symm⟩ (dLv_c (kc 106 (by omega)).1 (vq 31 (by omega)) (kr 127 (by omega) (by omega) (by omega)).1 hL) k0.2 (fun a ha => kc a (by omega)) (fun i _ => by rw [(kc 113 (by omega)).1]) ⟨vl 2 (by omega), vl 3 (by omega)⟩ (fun a ha => kr a (by omega) (by omega) (by omega)) hB ⟨m, m1, by rw [k0.1]; exact m2, by rw [vq 23 (by omega)]; exact m3, fun j hj => dB_congr (fun k hk => kc _ (by omega)) (fun k hk => (kc _ (by omega)).1) (fun i x0 x1 => k122 i (by omega) (by omega)) (fun i x0 x1 => k124 i (by omega) (by omega)) (m4 j hj)⟩
end DST
theorem hd_8 : lw_E_8 dI := by
  intro s1 s2 hI a1
  have hI0 := dI_s (x := 0) hI
  obtain ⟨k, hk9, g1, g2, g3⟩ := hI0.2.2.2.1.1
  have hW := hI0.2.2.2.2.1
  by_cases h2 : ¬ a1 < 0 ∧ a1 ≤ Int32.ofNat k
  · obtain ⟨n, hn, rfl⟩ := i_upto (by omega) h2
    obtain ⟨u, T, o1, o2, a1, a2, a3, a4, a5, a6⟩ := op_ok (lim := 900) hW hk9 g1 g2 g3 hn (by omega) (by omega)
    have a2' : f_X12_starts (sR s2 0) (Int32.ofNat n) 900 = some (true, o2) := a2
    -- the class, cleared
    obtain ⟨C, hC⟩ : ∃ C, C = f_X4_clear (fu_pi o1 47 2 0) 29 := ⟨_, rfl⟩
    have hC' : C = fu_pi (fu_pi (fu_pi (fu_pi (fu_pi (fu_pi (fu_pi o1 47 2 0) 29 0 4) 29 1 5) 29 2 0) 29 3 0) 29 4 0) 29 5 0 := hC
    have cn : ∀ a, a ≠ 29 → a ≠ 47 → C.1 a = o1.1 a := fun a x1 x2 => by rw [hC', p1n x1, p1n x1, p1n x1, p1n x1, p1n x1, p1n x1, p1n x2]
    have c2 : C.2 = o1.2 := by rw [hC']; rfl
    have c47 : C.1 47 2 = 0 := by rw [hC', p1n (by omega), p1n (by omega), p1n (by omega), p1n (by omega), p1n (by omega), p1n (by omega), p1]
    have hCD : dC C 29 ini_D := by
      refine ⟨⟨?_, ?_, ?_, ?_, ?_, ?_⟩, fun k hk => absurd hk (by show ¬ k < 0; omega), fun k hk => absurd hk (by show ¬ k < 0; omega), fun k hk => absurd hk (by show ¬ k < 0; omega)⟩
      · rw [hC', p1q (by omega), p1q (by omega), p1q (by omega), p1q (by omega), p1q (by omega), p1]; rfl
      · rw [hC', p1q (by omega), p1q (by omega), p1q (by omega), p1q (by omega), p1]; rfl
      · rw [hC', p1q (by omega), p1q (by omega), p1q (by omega), p1]; rfl
      · rw [hC', p1q (by omega), p1q (by omega), p1]; rfl
      · rw [hC', p1q (by omega), p1]; rfl
      · rw [hC', p1]; rfl
    -- the reference, emptied
    obtain ⟨E, e1, e2, e3, e4, e5⟩ := r_emp (s := o2) (b := 4) (by omega)
    have e1' : f_X12_empties o2 4 = some E := e1
    obtain ⟨G, hG⟩ : ∃ G, G = fu_pi E 117 24 0 := ⟨_, rfl⟩
    have gn : ∀ a, a ≠ 117 → G.1 a = E.1 a := fun a ha => by rw [hG, p1n ha]
    have gq : ∀ q, q ≠ 24 → G.1 117 q = o2.1 117 q := fun q hq => by rw [hG, p1q hq, e2 117 (by omega)]
    have gg2 : G.2 = o2.2 := by rw [hG]; exact e3
    have g24 : G.1 117 24 = 0 := by rw [hG, p1]
    have ge : ∀ i, i < 355 → G.1 122 (1420 + i) = if i = 3 then 4 else if i = 4 then 5 else 0 := fun i hi => by rw [gn 122 (by omega)]; exact e5 i hi
    have hV0 : dV ini_D := ⟨by decide, fun k hk => absurd hk (by show ¬ k < 0; omega), fun k hk => absurd hk (by show ¬ k < 0; omega), fun k hk => absurd hk (by show ¬ k < 0; omega)⟩
    have hRD : dR G 4 ini_D := ⟨⟨ge 0 (by omega), ge 1 (by omega), ge 2 (by omega), ge 3 (by omega), ge 4 (by omega), ge 5 (by omega)⟩, fun k hk => absurd hk (by show ¬ k < 0; omega), fun k hk => absurd hk (by show ¬ k < 0; omega), fun k hk => absurd hk (by show ¬ k < 0; omega)⟩
    have hOK : OK u n T C G 0 := by
      obtain ⟨⟨⟨x1, x2⟩, xM⟩, x4, x5, x8, ⟨x9, x10, x11⟩, x12, x13⟩ := a3
      refine ⟨⟨⟨by rw [cn 5 (by omega) (by omega)]; exact x1, fun j hj => ?_⟩, xM⟩, x4, by rw [cn 5 (by omega) (by omega)]; exact x5, by rw [cn 5 (by omega) (by omega)]; exact x8, ⟨x9, by rw [gq 9 (by omega)]; exact x10, fun i hi => by rw [gn 121 (by omega), e2 121 (by omega)]; exact x11 i hi⟩, ?_, by rw [gq 12 (by omega)]; exact x13⟩
      · rw [cn 8 (by omega) (by omega), cn 9 (by omega) (by omega), c2]
        exact x2 j hj
      · unfold rS at x12 ⊢
        rw [gq 14 (by omega), gq 15 (by omega), gq 16 (by omega), gq 17 (by omega), gq 18 (by omega), gg2]
        exact x12
    have hT : TL C G := ⟨0, 0, by omega, by omega, c47, g24⟩
    have fC1 : fZ1 o1 C := fun a ha => ⟨cn a (by omega) (by omega), by rw [c2]⟩
    have fG : fZ2 o2 G := ⟨fun a x1 x2 x3 => ⟨(gn a x1).trans (e2 a x2), by rw [gg2]⟩, fun q hq => gq q (by omega), fun i hi => by rw [gn 122 (by omega)]; exact e4 i (by omega), fun q _ => by rw [gg2], fun i _ => by rw [gg2]⟩
    have hTn := a3.1.2.1
    rcases P_all (f := fu_N) hOK ⟨hV0, hCD, hRD⟩ hT rfl (fu_N_gt (by omega)) with ⟨w1, w2, D', b1, b2, b3, b4, b5, b6⟩ | ⟨w1, w2, b1, b2, b3, b4, b5⟩
    · have b1' : l_X2_takeAll_14 fu_N C 0 = some (.inr w1) := b1 0 (by omega)
      have z1 : fZ1 (sC s1 0) w1 := fZ1_tr a4 (fZ1_tr fC1 (fZ1_Q b5))
      have z2 : fZ2 (sR s2 0) w2 := fZ2_tr a5 (fZ2_tr fG (fZ2_Q b6))
      have w8 : w2.1 117 8 = 0 := by rw [b6.2.1 8 (by omega) (by omega) (by omega), gq 8 (by omega)]; exact a6
      have hwell := r_well b3
      obtain ⟨U0, hU0⟩ : ∃ U0, U0 = f_X4_copyFrom w1 11 29 := ⟨_, rfl⟩
      obtain ⟨U, hU⟩ : ∃ U, U = f_X8_wipe (f_X5_forget U0 24) := ⟨_, rfl⟩
      have hU' : U = fu_pi (fu_pi (fu_pi (fu_pi U0 24 4 0) 24 5 0) 24 6 (fu_b false)) 5 2 0 := hU
      have hF : fC 11 24 w1 U0 := by rw [hU0]; exact c_cpF
      have hUD : dC U0 11 D' := by rw [hU0]; exact c_cpC (by omega) b4.1 b4.2.1
      have un : ∀ a, a ≠ 5 → a ≠ 24 → U.1 a = U0.1 a := fun a x5 x24 => by rw [hU', p1n x5, p1n x24, p1n x24, p1n x24]
      have u2 : U.2 = U0.2 := by rw [hU']; rfl
      have u5 : ∀ q, q ≠ 2 → U.1 5 q = w1.1 5 q := fun q hq => by rw [hU', p1q hq, p1n (by omega), p1n (by omega), p1n (by omega), (hF 5 (by omega)).1]
      have u24a : U.1 24 4 = 0 := by rw [hU', p1n (by omega), p1q (by omega), p1q (by omega), p1]
      have u24b : U.1 24 5 = 0 := by rw [hU', p1n (by omega), p1q (by omega), p1]
      have u24c : U.1 24 6 = fu_b false := by rw [hU', p1n (by omega), p1]
      have u52 : U.1 5 2 = 0 := by rw [hU', p1]
      have kc : ∀ a, ¬ (a = 5 ∨ a = 8 ∨ a = 9 ∨ a = 10 ∨ (11 ≤ a ∧ a < 51)) → U.1 a = (sC s1 0).1 a ∧ U.2 a = (sC s1 0).2 a := fun a ha => ⟨(un a (by omega) (by omega)).trans ((hF a (by omega)).1.trans (z1 a (by omega)).1), by rw [u2]; exact (hF a (by omega)).2.trans (z1 a (by omega)).2⟩
      have u015 : U.1 0 15 = 0 := by rw [(kc 0 (by omega)).1]; exact sC_st
      have hUD' : dC U 11 D' := dC_congr (fun k hk => ⟨un _ (by omega) (by omega), by rw [u2]⟩) hUD
      obtain ⟨Y, hY⟩ : ∃ Y, Y = fu_pi (fu_pi w2 117 10 0) 117 11 (-1) := ⟨_, rfl⟩
      rw [← hY] at hwell
      have yn : ∀ a, a ≠ 117 → Y.1 a = w2.1 a := fun a ha => by rw [hY, p1n ha, p1n ha]
      have y2 : Y.2 = w2.2 := by rw [hY]; rfl
      have yq : ∀ q, q ≠ 10 → q ≠ 11 → Y.1 117 q = w2.1 117 q := fun q x0 x1 => by rw [hY, p1q x1, p1q x0]
      have y10 : Y.1 117 10 = 0 := by rw [hY, p1q (by omega), p1]
      have y11 : Y.1 117 11 = -1 := by rw [hY, p1]
      have hcp := r_cp (s := Y) (a := 4) (b := 0) (by omega) (by omega) (by omega)
      obtain ⟨V, hV⟩ : ∃ V, V = cpw (cps Y (355 * 4) (355 * 0) 355) (7 * 4) (7 * 0) 7 := ⟨_, rfl⟩
      rw [← hV] at hcp
      have hcp' : f_X12_copy Y 4 0 = some V := hcp
      have vn : ∀ a, a ≠ 122 → V.1 a = Y.1 a := fun a ha => by rw [hV, cpw_1, cps_n ha]
      have vn2 : ∀ a, a ≠ 124 → V.2 a = Y.2 a := fun a ha => by rw [hV, cpw_n ha]; rfl
      have vi : ∀ i, i < 355 → V.1 122 (355 * 0 + i) = w2.1 122 (355 * 4 + i) := fun i hi => by rw [hV, cpw_1, cps_i hi, yn 122 (by omega)]
      have vo : ∀ i, 355 ≤ i → V.1 122 i = w2.1 122 i := fun i hi => by rw [hV, cpw_1, cps_o (by omega), yn 122 (by omega)]
      have wi : ∀ i, i < 7 → V.2 124 (7 * 0 + i) = w2.2 124 (7 * 4 + i) := fun i hi => by rw [hV, cpw_i hi]; show Y.2 124 (7 * 4 + i) = _; rw [y2]
      have wo : ∀ i, 7 ≤ i → V.2 124 i = w2.2 124 i := fun i hi => by rw [hV, cpw_o (by omega)]; show Y.2 124 i = _; rw [y2]
      have hRD' : dR V 0 D' := dR_mv b4.1 (fun i hi => vi i (by omega)) wi b4.2.2
      have vst : ∀ i, 83 ≤ i → i < 355 → V.1 122 (355 * 0 + i) = 0 := fun i hi1 hi2 => by
        rw [vi i hi2, b6.2.2.1 (355 * 4 + i) (.inr (by omega)), show 355 * 4 + i = 1420 + i by omega, ge i hi2, if_neg (by omega), if_neg (by omega)]
      refine ⟨Int32.ofNat (D' 0 4), U, V, ?_, ?_, op_good hI0 sC_st kc u52 (by rw [u5 8 (by omega)]; exact b3.2.2.2.1.1) (by rw [u5 9 (by omega)]; exact b3.2.2.2.1.2) (fun a x1 x2 x3 => ⟨(vn a x2).trans ((yn a x1).trans (z2.1 a x1 x2 x3).1), (vn2 a x3).trans (by rw [y2]; exact (z2.1 a x1 x2 x3).2)⟩) ?_ ?_ ?_ ?_ ?_ ?_ ?_ ⟨D', b4.1, hUD', hRD', 0, 0, by omega, by omega, u24a, u24b, vst 84 (by omega) (by omega), ?_, .inl ⟨rfl, rfl⟩⟩⟩
      · have a1' : f_X8_open (fu_pi s1 0 15 0) (Int32.ofNat n) = some o1 := a1
        unfold f_X11_district fu_lt f_X8_size
        rw [if_neg h2.1, show s1.1 5 2 = Int32.ofNat k from g1, if_pos h2.2, Option.bind_some]
        dsimp only
        rw [show (fu_pi s1 0 15 0).1 0 15 = 0 from p1, if_pos rfl, a1', Option.bind_some]
        unfold f_X2_takeAll fu_lt
        dsimp only
        rw [← hC, b1', Option.bind_some]
        dsimp only [Sum.elim_inr]
        rw [Option.bind_some]
        dsimp only
        rw [if_pos rfl, Option.bind_some, ← hU0, ← hU, u015, if_pos rfl, Option.bind_some]
        unfold f_X4_people
        rw [hUD'.1.2.2.2.2.1]
      · unfold f_X12_district fu_lt
        dsimp only
        rw [sR_def, a2', Option.bind_some]
        dsimp only
        rw [if_pos rfl, e1', Option.bind_some, ← hG, b2, Option.bind_some, hwell]
        dsimp only
        rw [if_pos rfl, hcp', Option.bind_some, show V.1 122 1 = Int32.ofNat (D' 0 4) from hRD'.1.2.1]
      · rw [vn 117 (by omega), yq 8 (by omega) (by omega)]; exact w8
      · rw [vn 117 (by omega)]; exact y10
      · rw [vn 117 (by omega)]; exact y11
      · exact fun q hq => by rw [vn 117 (by omega), yq q (by omega) (by omega)]; exact z2.2.1 q (by omega)
      · exact fun q hq => by rw [vn2 117 (by omega), y2]; exact z2.2.2.2.1 q hq
      · exact fun i x1 x2 => by rw [vo i x1]; exact z2.2.2.1 i x2
      · exact fun i x1 x2 => by rw [wo i x1]; exact z2.2.2.2.2 i x2
      · rw [u24c, vst 83 (by omega) (by omega)]; decide
    · have b1' : l_X2_takeAll_14 fu_N C 0 = some (.inl (false, w1)) := b1 0 (by omega)
      have z1 : fZ1 (sC s1 0) w1 := fZ1_tr a4 (fZ1_tr fC1 (fZ1_Q b4))
      have z2 : fZ2 (sR s2 0) w2 := fZ2_tr a5 (fZ2_tr fG (fZ2_Q b5))
      have w8 : w2.1 117 8 = 0 := by rw [b5.2.1 8 (by omega) (by omega) (by omega), gq 8 (by omega)]; exact a6
      obtain ⟨V, v1, v2⟩ := op_bad hI0 z1 z2 w8 b3
      refine ⟨-1, _, V, ?_, ?_, v2⟩
      · have a1' : f_X8_open (fu_pi s1 0 15 0) (Int32.ofNat n) = some o1 := a1
        unfold f_X11_district fu_lt f_X8_size
        rw [if_neg h2.1, show s1.1 5 2 = Int32.ofNat k from g1, if_pos h2.2, Option.bind_some]
        dsimp only
        rw [show (fu_pi s1 0 15 0).1 0 15 = 0 from p1, if_pos rfl, a1', Option.bind_some]
        unfold f_X2_takeAll fu_lt
        dsimp only
        rw [← hC, b1', Option.bind_some]
        dsimp only [Sum.elim_inl]
        rw [Option.bind_some]
        dsimp only
        rw [if_neg Bool.false_ne_true, Option.bind_some, show (f_X8_wipe (fu_pi w1 0 15 10)).1 0 15 = 10 from by unfold f_X8_wipe fu_lt; rw [p1n (by omega), p1], if_neg (by decide), Option.bind_some]
      · unfold f_X12_district fu_lt
        dsimp only
        rw [sR_def, a2', Option.bind_some]
        dsimp only
        rw [if_pos rfl, e1', Option.bind_some, ← hG, b2, Option.bind_some, v1]
        dsimp only
        rw [if_neg Bool.false_ne_true]
  · refine ⟨-1, sC s1 5, sR s2 5, ?_, ?_, dI_s hI⟩
    · have h5 : (if a1 < 0 then some (5 : Int32) else if a1 ≤ f_X8_size s1 then some 0 else some 5) = some 5 := by
        unfold f_X8_size
        rw [show s1.1 5 2 = Int32.ofNat k from g1]
        by_cases z : a1 < 0
        · rw [if_pos z]
        · rw [if_neg z, if_neg (fun y => h2 ⟨z, y⟩)]
      unfold f_X11_district fu_lt
      rw [h5, Option.bind_some]
      dsimp only
      rw [show (fu_pi s1 0 15 5).1 0 15 = 5 from p1, if_neg (by decide)]
      rfl
    · have h5 : f_X12_starts (sR s2 0) a1 900 = some (false, sR s2 5) := by
        unfold f_X12_starts fu_lt
        rw [g2, sR_no]
        by_cases z : a1 < 0
        · rw [if_pos z]
        · rw [if_neg z, if_neg (fun y => h2 ⟨z, y⟩)]
      unfold f_X12_district fu_lt
      dsimp only
      rw [sR_def, h5, Option.bind_some]
      dsimp only
      rw [if_neg Bool.false_ne_true]
