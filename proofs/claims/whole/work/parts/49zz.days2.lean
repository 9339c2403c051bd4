/-! days: the call -/
section DY2
variable {s t r s1 s2 t1 t2 : fu_S} {l d B : Nat}
theorem fZ1_KC (h : KC s t l d) : fZ1 s t := fun a ha => ⟨h.1 a (by omega) (by omega), by rw [h.2.1]⟩
theorem fZ2_KR (h : KR s t B) (hB : 1420 ≤ B) : fZ2 s t := ⟨fun a h1 h2 h3 => ⟨h.1 a h1 h2, h.2.1 a h1⟩, fun q hq => h.2.2.1 q (by omega) (by omega), fun i hi => h.2.2.2.2 i (by omega), h.2.2.2.1, fun i _ => by rw [h.2.1 124 (by omega)]⟩
end DY2
theorem hd_9 : lw_E_9 dI := by
  intro s1 s2 hI a1
  have hI0 := dI_s (x := 0) hI
  obtain ⟨k, hk9, g1, g2, g3⟩ := hI0.2.2.2.1.1
  have hW := hI0.2.2.2.2.1
  by_cases h2 : (¬ a1 < 0 ∧ a1 ≤ Int32.ofNat k) ∧ a1 ≤ 300
  · obtain ⟨h2, h300⟩ := h2
    obtain ⟨n, hn, rfl⟩ := i_upto (by omega) h2
    have hn3 : n ≤ 300 := (i_lel (n := 300) (by omega) (show (300 : Nat) < 2147483648 by omega)).mp h300
    obtain ⟨u, T, o1, o2, a1, a2, a3, a4, a5, a6⟩ := op_ok (lim := 300) hW hk9 g1 g2 g3 hn hn3 (by omega)
    have a2' : f_X12_starts (sR s2 0) (Int32.ofNat n) 300 = some (true, o2) := a2
    obtain ⟨D, hv, hdC0, hdR0, -⟩ := dI_D hI0
    obtain ⟨C, hC⟩ : ∃ C, C = f_X5_begin (fu_pi o1 48 4 0) 42 := ⟨_, rfl⟩
    have hC' : C = fu_pi (fu_pi (fu_pi (fu_pi (fu_pi o1 48 4 0) 42 4 0) 42 5 0) 42 6 (fu_b false)) 42 6 (fu_b true) := hC
    have cn : ∀ a, a ≠ 42 → a ≠ 48 → C.1 a = o1.1 a := fun a x1 x2 => by rw [hC', p1n x1, p1n x1, p1n x1, p1n x1, p1n x2]
    have c2 : C.2 = o1.2 := by rw [hC']; rfl
    have c48 : C.1 48 4 = 0 := by rw [hC', p1n (by omega), p1n (by omega), p1n (by omega), p1n (by omega), p1]
    have c424 : C.1 42 4 = 0 := by rw [hC', p1q (by omega), p1q (by omega), p1q (by omega), p1]
    have c425 : C.1 42 5 = 0 := by rw [hC', p1q (by omega), p1q (by omega), p1]
    have c426 : C.1 42 6 = fu_b true := by rw [hC', p1]
    obtain ⟨G, hG⟩ : ∃ G, G = fu_pi o2 117 25 0 := ⟨_, rfl⟩
    have gn : ∀ a, a ≠ 117 → G.1 a = o2.1 a := fun a ha => by rw [hG, p1n ha]
    have gq : ∀ q, q ≠ 25 → G.1 117 q = o2.1 117 q := fun q hq => by rw [hG, p1q hq]
    have gg2 : G.2 = o2.2 := by rw [hG]; rfl
    have g25 : G.1 117 25 = 0 := by rw [hG, p1]
    have hOK : OK u n T C G 0 := by
      rw [hG]
      exact OK_r (OK_w a3 (cn 5 (by omega) (by omega)) (cn 8 (by omega) (by omega)) (cn 9 (by omega) (by omega)) (by rw [c2]) rfl rfl rfl) (.inr ⟨rfl, .inr rfl⟩)
    have fC1 : fZ1 o1 C := fun a ha => ⟨cn a (by omega) (by omega), by rw [c2]⟩
    have fG : fZ2 o2 G := ⟨fun a x1 x2 x3 => ⟨gn a x1, by rw [gg2]⟩, fun q hq => gq q (by omega), fun i hi => by rw [gn 122 (by omega)], fun q _ => by rw [gg2], fun i _ => by rw [gg2]⟩
    have z1 := fZ1_tr a4 fC1
    have z2 := fZ2_tr a5 fG
    have hPI : PI C G D 0 0 0 := ⟨⟨hv, dC_congr (fun k hk => z1 _ (by omega)) hdC0, dR_congr hv (fun i _ _ => z2.2.2.1 i (by omega)) (fun i _ _ => z2.2.2.2.2 i (by omega)) hdR0⟩, ⟨c48, c424, c425, g25⟩, by omega, by omega, by omega⟩
    have hTn := a3.1.2.1
    have hN : ∀ L, L ≤ T - 0 + 1 → (4096 - L) + L = fu_N := fun L hL => by show 4096 - L + L = 4096; omega
    have hpre : ∀ K : Int32 × fu_S, (Option.bind (f_X6_takeAll o1) fun r8 => Option.bind (if r8.1 = true then fu_lt (f_X5_copyFrom r8.2 24 42) fun r11 => some r11 else fu_lt (fu_pi r8.2 0 15 (10 : Int32)) fun s12 => some s12) fun (j9 : fu_S) => fu_lt (f_X8_wipe j9) fun r13 => Option.bind (if (r13.1 0 15) = 0 then some (f_X5_steps r13 24) else some (-1 : Int32)) fun (j14 : Int32) => some (j14, r13)) = some K → f_X11_days s1 (Int32.ofNat n) = some K := fun K hK => by
      have a1' : f_X8_open (fu_pi s1 0 15 0) (Int32.ofNat n) = some o1 := a1
      unfold f_X11_days f_X8_size
      rw [if_neg h2.1, show s1.1 5 2 = Int32.ofNat k from g1, if_pos h2.2, if_pos h300, Option.bind_some]
      unfold fu_lt
      dsimp only
      rw [show (fu_pi s1 0 15 0).1 0 15 = 0 from p1, if_pos rfl, a1', Option.bind_some]
      exact hK
    rcases S_top (f2 := fu_N) hOK hPI rfl (fu_N_gt (by omega)) with ⟨w1, w2, i', hi, e, L, b0, b1, b2, b3, b4, ⟨-, -, b5⟩, b6, b7⟩ | ⟨X, w2, L, b0, b1, b2, b3, b4⟩
    · have b1' : l_X6_takeAll_14 fu_N C 0 = some (.inr w1) := by rw [← hN L b0]; exact b1 _ 0 (by omega)
      obtain ⟨⟨-, hdC, hdR⟩, ⟨p48, p4, p5, p25⟩, hhi, he, -⟩ := b4
      have hta : f_X6_takeAll o1 = some (true, w1) := by
        unfold f_X6_takeAll fu_lt
        dsimp only
        rw [← hC, b1', Option.bind_some]
        dsimp only [Sum.elim_inr]
        rw [show w1.1 48 4 = 0 from p48, if_pos rfl, Option.bind_some]
      have zz1 : fZ1 (sC s1 0) w1 := fZ1_tr z1 (fZ1_KC b6)
      have zz2 : fZ2 (sR s2 0) w2 := fZ2_tr z2 (fZ2_KR b7 (by omega))
      have w8 : w2.1 117 8 = 0 := by rw [b7.2.2.1 8 (by omega) (by omega), gq 8 (by omega)]; exact a6
      have hwell := r_well b3
      obtain ⟨U0, hU0⟩ : ∃ U0, U0 = f_X5_copyFrom w1 24 42 := ⟨_, rfl⟩
      obtain ⟨U, hU⟩ : ∃ U, U = f_X8_wipe U0 := ⟨_, rfl⟩
      have hU' : U = fu_pi U0 5 2 0 := hU
      have hF : fC 24 29 w1 U0 := by rw [hU0]; exact c_cpP
      have un : ∀ a, a ≠ 5 → U.1 a = U0.1 a := fun a x5 => by rw [hU', p1n x5]
      have u2 : U.2 = U0.2 := by rw [hU']; rfl
      have u5 : ∀ q, q ≠ 2 → U.1 5 q = w1.1 5 q := fun q hq => by rw [hU', p1q hq, (hF 5 (by omega)).1]
      have u52 : U.1 5 2 = 0 := by rw [hU', p1]
      have u24a : U.1 24 4 = Int32.ofNat e := by rw [un 24 (by omega), hU0, c_cpQ4 (by omega)]; exact p4
      have u24b : U.1 24 5 = Int32.ofNat hi := by rw [un 24 (by omega), hU0, c_cpQ5 (by omega)]; exact p5
      have u24c : fu_tb (U.1 24 6) = true := by rw [un 24 (by omega), hU0, c_cpQ6 (by omega), b6.2.2.1, c426, tb_b]
      have kc : ∀ a, ¬ (a = 5 ∨ a = 8 ∨ a = 9 ∨ a = 10 ∨ (11 ≤ a ∧ a < 51)) → U.1 a = (sC s1 0).1 a ∧ U.2 a = (sC s1 0).2 a := fun a ha => ⟨(un a (by omega)).trans ((hF a (by omega)).1.trans (zz1 a (by omega)).1), by rw [u2]; exact (hF a (by omega)).2.trans (zz1 a (by omega)).2⟩
      have u015 : U.1 0 15 = 0 := by rw [(kc 0 (by omega)).1]; exact sC_st
      have hUD : dC U 11 D := dC_congr (fun k hk => ⟨by rw [un _ (by omega), (hF _ (by omega)).1], by rw [u2, (hF _ (by omega)).2]⟩) hdC
      obtain ⟨Y, hY⟩ : ∃ Y, Y = fu_pi (fu_pi w2 117 10 0) 117 11 (-1) := ⟨_, rfl⟩
      rw [← hY] at hwell
      have yn : ∀ a, a ≠ 117 → Y.1 a = w2.1 a := fun a ha => by rw [hY, p1n ha, p1n ha]
      have y2 : Y.2 = w2.2 := by rw [hY]; rfl
      have yq : ∀ q, q ≠ 10 → q ≠ 11 → Y.1 117 q = w2.1 117 q := fun q x0 x1 => by rw [hY, p1q x1, p1q x0]
      have y10 : Y.1 117 10 = 0 := by rw [hY, p1q (by omega), p1]
      have y11 : Y.1 117 11 = -1 := by rw [hY, p1]
      have y25 : (fu_pi Y 122 83 1).1 117 25 = Int32.ofNat hi := by rw [p1n (by omega), yq 25 (by omega) (by omega)]; exact p25
      obtain ⟨Z, hZ⟩ : ∃ Z, Z = fu_pi (fu_pi Y 122 83 1) 122 84 (Int32.ofNat hi) := ⟨_, rfl⟩
      have zn : ∀ a, a ≠ 122 → Z.1 a = Y.1 a := fun a ha => by rw [hZ, p1n ha, p1n ha]
      have zq : ∀ q, q ≠ 83 → q ≠ 84 → Z.1 122 q = w2.1 122 q := fun q x0 x1 => by rw [hZ, p1q x1, p1q x0, yn 122 (by omega)]
      have z83 : Z.1 122 83 = 1 := by rw [hZ, p1q (by omega), p1]
      have z84 : Z.1 122 84 = Int32.ofNat hi := by rw [hZ, p1]
      have zs2 : Z.2 = w2.2 := by rw [hZ]; exact y2
      have z25 : Z.1 117 25 = Int32.ofNat hi := by rw [zn 117 (by omega), yq 25 (by omega) (by omega)]; exact p25
      have hcp := r_d80 (s := Z) z25 hhi
      obtain ⟨V, hV⟩ : ∃ V, V = cps Z 1505 85 (9 * hi) := ⟨_, rfl⟩
      rw [← hV] at hcp
      have vn : ∀ a, a ≠ 122 → V.1 a = Y.1 a := fun a ha => by rw [hV, cps_n ha, zn a ha]
      have v2 : V.2 = w2.2 := by rw [hV]; exact zs2
      have vo : ∀ i, ¬ (85 ≤ i ∧ i < 85 + 9 * hi) → V.1 122 i = Z.1 122 i := fun i hi => by rw [hV, cps_o hi]
      have vi : ∀ i, i < 9 * hi → V.1 122 (85 + i) = w2.1 122 (1505 + i) := fun i hi => by rw [hV, cps_i hi, zq _ (by omega) (by omega)]
      have v25 : V.1 117 25 = Int32.ofNat hi := by rw [vn 117 (by omega), yq 25 (by omega) (by omega)]; exact p25
      have hRD : dR V 0 D := dR_congr hv (fun i x1 x2 => by rw [vo i (by omega), zq i (by omega) (by omega)]) (fun i _ _ => by rw [v2]) hdR
      have hWW : dW U 24 V 0 D 100 3 0 hi 0 e := dW_to (fun k i x1 x2 x3 => by rw [un (24 + k) (by omega), hU0]; exact c_cpQ1 (by omega) x1 x2 x3) (fun i hi => by rw [show 355 * 0 + 85 + i = 85 + i by omega, show 355 * 4 + 85 + i = 1505 + i by omega]; exact vi i hi) (by omega) (b5 100 (by omega))
      refine ⟨Int32.ofNat hi, U, V, hpre _ ?_, ?_, op_good hI0 sC_st kc u52 (by rw [u5 8 (by omega)]; exact b3.2.2.2.1.1) (by rw [u5 9 (by omega)]; exact b3.2.2.2.1.2) (fun a x1 x2 x3 => ⟨(vn a x2).trans ((yn a x1).trans (zz2.1 a x1 x2 x3).1), by rw [v2]; exact (zz2.1 a x1 x2 x3).2⟩) ?_ ?_ ?_ ?_ ?_ ?_ ?_ ⟨D, hv, hUD, hRD, e, hi, by omega, hhi, u24a, u24b, ?_, ?_, hWW⟩⟩
      · rw [hta, Option.bind_some]
        unfold fu_lt
        dsimp only
        rw [if_pos rfl, Option.bind_some, ← hU0, ← hU, u015, if_pos rfl, Option.bind_some]
        unfold f_X5_steps
        rw [u24b]
      · unfold f_X12_days fu_lt
        dsimp only
        rw [sR_def, a2', Option.bind_some]
        dsimp only
        rw [if_pos rfl, ← hG, b2, Option.bind_some, hwell]
        dsimp only
        rw [if_pos rfl, y25, ← hZ, hcp, Option.bind_some, v25]
      · rw [vn 117 (by omega), yq 8 (by omega) (by omega)]; exact w8
      · rw [vn 117 (by omega)]; exact y10
      · rw [vn 117 (by omega)]; exact y11
      · exact fun q hq => by rw [vn 117 (by omega), yq q (by omega) (by omega)]; exact zz2.2.1 q (by omega)
      · exact fun q hq => by rw [v2]; exact zz2.2.2.2.1 q hq
      · exact fun i x1 x2 => by rw [vo i (by omega), zq i (by omega) (by omega)]; exact zz2.2.2.1 i x2
      · exact fun i x1 x2 => by rw [v2]; exact zz2.2.2.2.2 i x2
      · show V.1 122 84 = _
        rw [vo 84 (by omega)]; exact z84
      · show _ = decide (V.1 122 83 ≠ 0)
        rw [u24c, vo 83 (by omega), z83]; decide
    · obtain ⟨t1, hta, hba, hkc⟩ : ∃ t1, f_X6_takeAll o1 = some (false, t1) ∧ BA t1 w2 ∧ KC C t1 0 0 := by
        have b1' : l_X6_takeAll_14 fu_N C 0 = some X := by rw [← hN L b0]; exact b1 _ 0 (by omega)
        rcases b3 with ⟨c1, rfl, c2, c3⟩ | ⟨c0, c1, rfl, c2, c3, c4, c5⟩
        · refine ⟨c1, ?_, c2, c3⟩
          unfold f_X6_takeAll fu_lt
          dsimp only
          rw [← hC, b1', Option.bind_some]
          rfl
        · refine ⟨c1, ?_, c4, c5⟩
          unfold f_X6_takeAll fu_lt
          dsimp only
          rw [← hC, b1', Option.bind_some]
          dsimp only [Sum.elim_inr]
          rw [if_neg c2, c3, Option.bind_some]
          dsimp only
          rw [if_neg Bool.false_ne_true, Option.bind_some]
      have zz1 : fZ1 (sC s1 0) t1 := fZ1_tr z1 (fZ1_KC hkc)
      have zz2 : fZ2 (sR s2 0) w2 := fZ2_tr z2 (fZ2_KR b4 (by omega))
      have w8 : w2.1 117 8 = 0 := by rw [b4.2.2.1 8 (by omega) (by omega), gq 8 (by omega)]; exact a6
      obtain ⟨V, v1, v2⟩ := op_bad hI0 zz1 zz2 w8 hba
      refine ⟨-1, _, V, hpre _ ?_, ?_, v2⟩
      · rw [hta, Option.bind_some]
        unfold fu_lt
        dsimp only
        rw [if_neg Bool.false_ne_true, Option.bind_some, show (f_X8_wipe (fu_pi t1 0 15 10)).1 0 15 = 10 from by unfold f_X8_wipe fu_lt; rw [p1n (by omega), p1], if_neg (by decide), Option.bind_some]
      · unfold f_X12_days fu_lt
        dsimp only
        rw [sR_def, a2', Option.bind_some]
        dsimp only
        rw [if_pos rfl, ← hG, b2, Option.bind_some, v1]
        dsimp only
        rw [if_neg Bool.false_ne_true]
  · refine ⟨-1, sC s1 5, sR s2 5, ?_, ?_, dI_s hI⟩
    · have h5 : (if a1 < 0 then some (5 : Int32) else if a1 ≤ f_X8_size s1 then if a1 ≤ (300 : Int32) then some 0 else some 5 else some 5) = some 5 := by
        unfold f_X8_size
        rw [show s1.1 5 2 = Int32.ofNat k from g1]
        by_cases z : a1 < 0
        · rw [if_pos z]
        · rw [if_neg z]
          by_cases z2 : a1 ≤ Int32.ofNat k
          · rw [if_pos z2, if_neg (fun y => h2 ⟨⟨z, z2⟩, y⟩)]
          · rw [if_neg z2]
      unfold f_X11_days fu_lt
      rw [h5, Option.bind_some]
      dsimp only
      rw [show (fu_pi s1 0 15 5).1 0 15 = 5 from p1, if_neg (by decide)]
      rfl
    · have h5 : f_X12_starts (sR s2 0) a1 300 = some (false, sR s2 5) := by
        unfold f_X12_starts fu_lt
        rw [g2, sR_no]
        by_cases z : a1 < 0
        · rw [if_pos z]
        · rw [if_neg z]
          by_cases z2 : a1 ≤ Int32.ofNat k
          · rw [if_pos z2, if_neg (fun y => h2 ⟨⟨z, z2⟩, y⟩)]
          · rw [if_neg z2]
      unfold f_X12_days fu_lt
      dsimp only
      rw [sR_def, h5, Option.bind_some]
      dsimp only
      rw [if_neg Bool.false_ne_true]
