/-! days: one step, read -/
section STX
variable {s t r s1 s2 t1 t2 r1 r2 a b : fu_S} {u : Nat → Nat} {n T p q e f k i g v j m l lo hi w P V W R G d c B : Nat} {x y : Int32} {z : Int64} {D : dD}
def opB (G : Nat) : Bool := decide (G = 115 ∨ G = 119)
/-- the class before the deed is stepped over -/
theorem S_open (h : OK u n T s1 s2 i) (hP : PI s1 s2 D d lo l) (h7 : d_sw (tG u n (tq u n i)) ≠ 7) (h30 : lo ≠ 30) (ho : ¬ (opB (tG u n (tq u n i)) = true ∧ d = 3)) : ∃ C, f_X6_takeStep s1 = f_X6_takeRest (f_X8_next C) (Int32.ofNat (tG u n (tq u n i))) ∧ OK u n T C s2 i ∧ KC s1 C l d ∧ C.1 42 = s1.1 42 ∧ C.1 48 4 = Int32.ofNat (if opB (tG u n (tq u n i)) = true then d + 1 else d) ∧ (opB (tG u n (tq u n i)) = true → C.1 49 d = Int32.ofNat l) := by
  have hG := tG_lt (u := u) (n := n) (q := tq u n i)
  have e0 := OK_sort h
  have hin := sw_in h7
  obtain ⟨-, ⟨p48, p4, p5, p25⟩, hlo, hl, hd3⟩ := hP
  have l30 : Int32.ofNat lo < 30 := (i_ltl (n := 30) (by omega) (show (30 : Nat) < 2147483648 by omega)).mpr (show lo < 30 by omega)
  have hj : (if Int32.ofNat (tG u n (tq u n i)) = (115 : Int32) then some true else if Int32.ofNat (tG u n (tq u n i)) = (119 : Int32) then some true else some false) = some (opB (tG u n (tq u n i))) := by
    rcases hin with z | z | z | z | z | z | z <;> rw [z] <;> decide
  cases hop : opB (tG u n (tq u n i))
  · rw [hop] at hj
    refine ⟨s1, ?_, h, KC_rf, rfl, by rw [if_neg Bool.false_ne_true]; exact p48, fun z => absurd z Bool.false_ne_true⟩
    unfold f_X6_takeStep f_X5_steps fu_lt
    rw [e0, Option.bind_some, deed_ok _ hG, decide_eq_true h7, if_pos rfl, p5, if_pos l30, hj, Option.bind_some, if_neg Bool.false_ne_true, if_neg Bool.false_ne_true, Option.bind_some]
    exact ob_id
  · rw [hop] at hj ho
    have hd : d < 3 := by
      have : d ≠ 3 := fun z => ho ⟨rfl, z⟩
      omega
    have d3 : Int32.ofNat d < 3 := (i_ltl (n := 3) (by omega) (show (3 : Nat) < 2147483648 by omega)).mpr hd
    have dn : ¬ Int32.ofNat d < 0 := fun z => (i_lt0 (by omega)).mp z
    have din : am_in (Int32.ofNat d) 3 = true := by rw [i_in (by omega)]; exact decide_eq_true hd
    obtain ⟨C, hC⟩ : ∃ C, C = fu_pi (fu_pi s1 49 d (Int32.ofNat l)) 48 4 (Int32.ofNat (d + 1)) := ⟨_, rfl⟩
    have cn : ∀ a, a ≠ 48 → a ≠ 49 → C.1 a = s1.1 a := fun a x1 x2 => by rw [hC, p1n x1, p1n x2]
    refine ⟨C, ?_, ?_, ⟨fun a _ x2 => cn a (by omega) (by omega), by rw [hC]; rfl, by rw [cn 42 (by omega) (by omega)], fun k i x1 x2 _ => by rw [cn (42 + k) (by omega) (by omega)], fun j hj => by rw [hC, p1n (by omega), p1q (by omega)]⟩, cn 42 (by omega) (by omega), by rw [if_pos rfl, hC, p1], fun _ => by rw [hC, p1n (by omega), p1]⟩
    · unfold f_X6_takeStep f_X5_steps f_X5_lines
      rw [e0, Option.bind_some, deed_ok _ hG, decide_eq_true h7, if_pos rfl, p5, if_pos l30, hj, Option.bind_some, if_pos rfl, p48, if_pos d3, if_pos rfl, if_neg dn, if_pos din, i_tn (by omega), p4]
      unfold fu_lt
      dsimp only
      rw [show (fu_pi s1 49 d (Int32.ofNat l)).1 48 4 = Int32.ofNat d from by rw [p1n (by omega)]; exact p48, i_add1, ← hC, Option.bind_some]
      exact ob_id
    · exact OK_w h (cn 5 (by omega) (by omega)) (cn 8 (by omega) (by omega)) (cn 9 (by omega) (by omega)) (by rw [hC]; rfl) rfl rfl rfl
/-- the reference, one step on -/
theorem S_ref (h12 : s2.1 117 12 = 0) (h7 : d_sw G ≠ 7) (hst : f_X12_stepWord s2 = e_s (d_sw G) 7) (p25 : s2.1 117 25 = Int32.ofNat lo) (hlo : lo < 30) (hd : d ≤ 3) (ho : ¬ (opB G = true ∧ d = 3)) (ha : f_X12_advance (fu_pi s2 117 25 (Int32.ofNat (lo + 1))) = some t2) : f_X12_readStep (g + 1) s2 (Int32.ofNat d) = Option.bind (f_X12_readRest (fu_pi t2 122 (1505 + 9 * lo) (Int32.ofNat (d_sw G))) (Int32.ofNat (1505 + 9 * lo))) fun r21 => Option.bind (f_X12_must r21 (f_X12_isSign r21 (59 : Int32))) fun r22 => Option.bind (l_X12_readStep_140 (f_X12_readStep g) fu_N r22 (Int32.ofNat d) (opB G) (Int32.ofNat (1505 + 9 * lo))) fun (r27 : fu_S) => Option.bind (if opB G = true then Option.bind (f_X12_must r27 (f_X12_isEnd r27)) fun r30 => Option.bind (f_X12_must r30 (f_X12_isSign r30 (59 : Int32))) fun r31 => some r31 else some r27) fun (j28 : fu_S) => some (fu_pi j28 122 (1505 + 9 * lo + 8) (j28.1 117 25)) := by
  have hin := sw_in h7
  have hst' : f_X12_stepWord s2 = Int32.ofNat (d_sw G) := by rw [hst]; exact if_neg h7
  have hsw : d_sw G < 7 := by
    rcases hin with z | z | z | z | z | z | z <;> rw [z] <;> decide
  have hn0 : ¬ Int32.ofNat (d_sw G) < 0 := fun z => (i_lt0 (by omega)).mp z
  have hj : (if Int32.ofNat (d_sw G) = 4 then some true else if Int32.ofNat (d_sw G) = 5 then some true else some false) = some (opB G) := by
    rcases hin with z | z | z | z | z | z | z <;> rw [z] <;> decide
  have p30 : ¬ s2.1 117 25 = 30 := by
    rw [p25]
    exact fun z => absurd ((i_eq (b := 30) (by omega) (by omega)).mp z) (by omega)
  have hww : (1505 : Int32) + (9 : Int32) * Int32.ofNat lo = Int32.ofNat (1505 + 9 * lo) := by rw [i_mulr, i_addr]
  have q0 : am_in (Int32.ofNat (1505 + 9 * lo)) 1775 = true := by rw [i_in (by omega)]; exact decide_eq_true (by omega)
  have w0 : (Int32.ofNat (1505 + 9 * lo)).toNatClampNeg = 1505 + 9 * lo := i_tn (by omega)
  obtain ⟨q8, w8⟩ : am_in (Int32.ofNat (1505 + 9 * lo) + 8) 1775 = true ∧ (Int32.ofNat (1505 + 9 * lo) + 8).toNatClampNeg = 1505 + 9 * lo + 8 := wq (j := 8) (by omega)
  have h11 : (if opB G = true then if Int32.ofNat d = (3 : Int32) then fu_lt (f_X12_fail s2 (7 : Int32) (s2.1 117 15)) fun r15 => some r15 else some s2 else some s2) = some s2 := by
    cases hop : opB G
    · rw [if_neg Bool.false_ne_true]
    · have hd3 : ¬ Int32.ofNat d = 3 := fun z => ho ⟨hop, (i_eq (b := 3) (by omega) (by omega)).mp z⟩
      rw [if_pos rfl, if_neg hd3]
  show fb_X12_readStep (f_X12_readStep g) s2 (Int32.ofNat d) = _
  unfold fb_X12_readStep
  rw [hst', hj, Option.bind_some, if_neg hn0, Option.bind_some, if_pos h12, if_neg p30, Option.bind_some, if_pos h12, h11, Option.bind_some, h12, if_pos (Int32.le_refl _), p25, i_add1, hww]
  unfold fu_lt
  dsimp only
  rw [ha, Option.bind_some, if_pos q0, w0]
  refine congrArg (Option.bind _) (funext fun r21 => congrArg (Option.bind _) (funext fun r22 => congrArg (Option.bind _) (funext fun r27 => congrArg (Option.bind _) (funext fun j28 => ?_))))
  rw [if_pos q8, w8]
theorem S_step (hS : d < 3 → SeqP u n T D (d + 1)) : StepP u n T D d := by
  intro i s1 s2 lo l g h hP hgf hc
  by_cases h7 : d_sw (tG u n (tq u n i)) = 7
  · exact S_no h hP hc h7
  by_cases hm : lo = 30 ∨ ((tG u n (tq u n i) = 115 ∨ tG u n (tq u n i) = 119) ∧ d = 3)
  · exact S_much h hP h7 hm
  have h30 : lo ≠ 30 := fun z => hm (.inl z)
  have ho : ¬ (opB (tG u n (tq u n i)) = true ∧ d = 3) := fun z => hm (.inr ⟨of_decide_eq_true z.1, z.2⟩)
  have hin := sw_in h7
  obtain ⟨C, c1, c2, c3, c4, c5, c6⟩ := S_open h hP h7 h30 ho
  have hP' := hP
  obtain ⟨⟨hv, hdC, hdR⟩, ⟨p48, p4, p5, p25⟩, hlo, hl, hd3⟩ := hP'
  have hg0 : tG u n (tq u n i) ≠ 0 := by omega
  have hiT := OK_lt h hg0
  obtain ⟨X, hX⟩ : ∃ X, X = fu_pi s2 117 25 (Int32.ofNat (lo + 1)) := ⟨_, rfl⟩
  have hOX : OK u n T C X i := by rw [hX]; exact OK_r c2 (.inr ⟨rfl, .inr rfl⟩)
  have x25 : X.1 117 25 = Int32.ofNat (lo + 1) := by rw [hX, p1]
  have kX : KR s2 X (1505 + 9 * lo) := by rw [hX]; exact KR_25
  obtain ⟨t1, t2, a1, a2, a3, a4, a5⟩ := OK_next hOX hg0
  rw [hX] at a2
  have href := S_ref (g := g) (OK_0 h) h7 (wd_step h) p25 (by omega) hd3 ho a2
  generalize hGG : tG u n (tq u n i) = G at *
  obtain ⟨Y, hY⟩ : ∃ Y, Y = fu_pi t2 122 (1505 + 9 * lo) (Int32.ofNat (d_sw G)) := ⟨_, rfl⟩
  rw [← hY] at href
  have yw : Y.1 122 (1505 + 9 * lo) = Int32.ofNat (d_sw G) := by rw [hY, p1]
  have hOY : OK u n T t1 Y (i + 1) := by rw [hY]; exact OK_r2 a3
  have y25 : Y.1 117 25 = Int32.ofNat (lo + 1) := by rw [hY, p1n (by omega), a5.2.1 25 (by omega)]; exact x25
  have kY : KR s2 Y (1505 + 9 * lo) := KR_tr (Nat.le_refl _) kX (KR_tr (Nat.le_refl _) (KR_7 a5) (by rw [hY]; exact KR_pi (Nat.le_refl _)))
  have kt : KC s1 t1 l d := KC_tr (Nat.le_refl _) (Nat.le_refl _) c3 (KC_5 a4)
  have t48 : t1.1 48 4 = Int32.ofNat (if opB G = true then d + 1 else d) := by rw [a4.1 48 (by omega)]; exact c5
  have key := R_rest (G := G) hOY (dC_K hdC kt) (dR_K hv hdR kY (by omega)) hv (by rw [a4.1 42 (by omega), c4]; exact p4) (by rw [a4.1 42 (by omega), c4]; exact p5) (by omega) (w := 1505 + 9 * lo) (by omega) (by omega) h7 yw
  have hit : itJ u n s1 i = f_X6_takeRest t1 (Int32.ofNat G) := by
    unfold itJ
    rw [hGG, if_neg (by omega), c1, a1]
  rcases key with ⟨v1, v2, i2, b1, b2, b3, b4, b5, b6, ⟨b7, b8⟩, b9⟩ | ⟨v1, v2, b1, b2, b3, b5, b6⟩
  · have kv : KC s1 v1 l d := KC_tr (Nat.le_refl _) (Nat.le_refl _) kt (KC_k b5)
    have kv2 : KR s2 v2 (1505 + 9 * lo) := KR_tr (Nat.le_refl _) kY (KR_k b6 (by omega))
    rcases L_take (g := 59) b3 (by omega) (wd_sign (k := 59) b3 (by omega)) with ⟨-, r1, r2, d1, d2, d3, d4, d5⟩ | ⟨r1, r2, d1, d2, d3, d4, d5⟩
    · have d1' : f_X8_take v1 59 = some (true, r1) := d1
      have d2' : f_X12_must v2 (f_X12_isSign v2 59) = some r2 := d2
      have kr : KC s1 r1 l d := KC_tr (Nat.le_refl _) (Nat.le_refl _) kv (KC_5 d4)
      have kr2 : KR s2 r2 (1505 + 9 * lo) := KR_tr (Nat.le_refl _) kv2 (KR_7 d5)
      have r25 : r2.1 117 25 = Int32.ofNat (lo + 1) := by rw [d5.2.1 25 (by omega), b6.2.2.1 25 (by omega)]; exact y25
      have r48 : r1.1 48 4 = Int32.ofNat (if opB G = true then d + 1 else d) := by rw [d4.1 48 (by omega), b5.1 48 (by omega) (by omega)]; exact t48
      have r4 : r1.1 42 4 = Int32.ofNat (l + 1) := by rw [d4.1 42 (by omega)]; exact b7
      have r5 : r1.1 42 5 = Int32.ofNat (lo + 1) := by rw [d4.1 42 (by omega)]; exact b8
      rw [b2, Option.bind_some, d2', Option.bind_some] at href
      have step1 : ∀ f c, c ≤ i → l_X6_takeAll_14 (f + 1) s1 (Int32.ofNat c) = l_X6_takeAll_14 f r1 (Int32.ofNat (c + 1)) := fun f c hcc => it_ok h (by rw [hGG]; exact hg0) hcc (hit.trans b1) d1'
      cases hop : opB G
      · rw [hop] at href r48
        rw [l140_f, Option.bind_some, if_neg Bool.false_ne_true, Option.bind_some, r25] at href
        rw [if_neg Bool.false_ne_true] at r48
        have hno : ¬ (G = 115 ∨ G = 119) := of_decide_eq_false hop
        rw [if_neg hno] at b9
        refine .inl ⟨r1, fu_pi r2 122 (1505 + 9 * lo + 8) (Int32.ofNat (lo + 1)), i2 + 1, lo + 1, l + 1, 1, step1, href, OK_r2 d3, by omega, ⟨⟨hv, dC_K hdC kr, dR_K hv hdR (KR_tr (Nat.le_refl _) kr2 (KR_pi (by omega))) (by omega)⟩, ⟨r48, r4, r5, by rw [p1n (by omega)]; exact r25⟩, by omega, by omega, hd3⟩, ⟨by omega, by omega, by omega, by omega, .inl ⟨?_, p1, rfl, rfl⟩⟩, kr, KR_tr (Nat.le_refl _) kr2 (KR_pi (by omega))⟩
        refine dS_m8 (fun k k1 k2 => by rw [d4.1 (42 + k) (by omega)]) (fun j hj => ?_) b9
        rw [p1q (by omega), (d5.1 122 (by omega)).1]
      · rw [hop] at href r48 c6
        rw [if_pos rfl] at r48
        have hd : d < 3 := by
          have : d ≠ 3 := fun z => ho ⟨hop, z⟩
          omega
        have hyes : G = 115 ∨ G = 119 := of_decide_eq_true hop
        rw [if_pos hyes] at b9
        obtain ⟨g, rfl⟩ : ∃ g', g = g' + 1 := ⟨g - 1, by omega⟩
        have hT8 := h.1.2.2.1
        have hT9 := h.1.2.1
        have hPI : PI r1 r2 D (d + 1) (lo + 1) (l + 1) := ⟨⟨hv, dC_K hdC kr, dR_K hv hdR kr2 (by omega)⟩, ⟨r48, r4, r5, r25⟩, by omega, by omega, by omega⟩
        have r49 : r1.1 49 d = Int32.ofNat l := by rw [d4.1 49 (by omega), b5.1 49 (by omega) (by omega), a4.1 49 (by omega)]; exact c6 rfl
        rcases hS hd (g := g) (f2 := fu_N) (x4 := Int32.ofNat (1505 + 9 * lo)) d3 hPI (by omega) rfl (fu_N_gt (by omega)) with ⟨w1, w2, i3, hi, e, L, e1, e2, e3, e4, e5, ⟨e6, e7, e8, e9⟩, e10, e11⟩ | ⟨X', w2, L, e0, e1, e2, e3, e4⟩
        · rw [Nat.add_sub_cancel] at e2
          rw [e2, Option.bind_some, if_pos rfl] at href
          have hT1 : i3 < T := OK_lt e3 (by omega)
          obtain ⟨-, ⟨f48, f4, f5', f25⟩, f30, fl, -⟩ := e5
          obtain ⟨y1, y2, g1, g2, g3, g4, g5⟩ := L_next e3 (by omega)
          have hend : f_X12_isEnd w2 = true := by rw [wd_20 e3]; exact decide_eq_true e6
          rw [hend, g2, Option.bind_some] at href
          obtain ⟨E0, hE0⟩ : ∃ E0, E0 = fu_pi y1 48 4 (Int32.ofNat d) := ⟨_, rfl⟩
          have en : ∀ a, a ≠ 48 → E0.1 a = y1.1 a := fun a ha => by rw [hE0, p1n ha]
          have e48 : E0.1 48 4 = Int32.ofNat d := by rw [hE0, p1]
          have e49 : E0.1 49 d = Int32.ofNat l := by rw [en 49 (by omega), g4.1 49 (by omega), e10.2.2.2.2 d (by omega)]; exact r49
          obtain ⟨E, k1, k2, k3, k4, k5, k6, k7, k8, k9⟩ := c_addE (s := E0) (l := l) (e := e) (by rw [en 42 (by omega), g4.1 42 (by omega)]; exact f4) (by omega) (by omega)
          have hE2 : E.2 = y1.2 := by rw [k8, hE0]; rfl
          have hOE : OK u n T E y2 (i3 + 1) := OK_w g3 (by rw [k7 5 (by omega), en 5 (by omega)]) (by rw [k7 8 (by omega), en 8 (by omega)]) (by rw [k7 9 (by omega), en 9 (by omega)]) (by rw [hE2]) rfl rfl rfl
          have hitE : itJ u n w1 i3 = some (true, E) := by
            have x1 : ¬ Int32.ofNat (d + 1) ≤ 0 := fun z => by have := (i_le0 (by omega)).mp z; omega
            have x2 : Int32.ofNat (d + 1) ≤ 3 := (i_lel (n := 3) (by omega) (show (3 : Nat) < 2147483648 by omega)).mpr (show d + 1 ≤ 3 by omega)
            have x3 : y1.1 48 4 = Int32.ofNat (d + 1) := by rw [g4.1 48 (by omega)]; exact f48
            have x4 : Int32.ofNat (d + 1) - 1 = Int32.ofNat d := i_subl (n := 1) (show (1 : Nat) ≤ d + 1 by omega)
            have x5 : am_in (Int32.ofNat d) 3 = true := by rw [i_in (by omega)]; exact decide_eq_true hd
            unfold itJ
            rw [if_pos e6]
            unfold f_X6_takeEnd
            rw [f48, if_neg x1, if_pos x2, g1]
            unfold fu_lt
            dsimp only
            rw [x3, x4, ← hE0, e48, if_pos x5, i_tn (by omega), e49, k1, Option.bind_some]
          have kE : KC y1 E l d := by
            refine ⟨fun a _ h2 => by rw [k7 a (by omega), en a (by omega)], hE2, by rw [k6 6 (by omega), en 42 (by omega)], fun k i x1 x2 x3 => ?_, fun j _ => by rw [k7 49 (by omega), en 49 (by omega)]⟩
            rw [k9 k i x1 x2 (by omega) (fun _ => by omega), en (42 + k) (by omega)]
          have kE' : KC s1 E l d := KC_tr (Nat.le_refl _) (Nat.le_refl _) kr (KC_tr (Nat.le_refl _) (Nat.le_refl _) (KC_tr (by omega) (by omega) KC_rf e10) (KC_tr (Nat.le_refl _) (Nat.le_refl _) (KC_5 g4) kE))
          have kw2 : KR s2 w2 (1505 + 9 * lo) := KR_tr (Nat.le_refl _) kr2 (KR_le (by omega) e11)
          have ky2 : KR s2 y2 (1505 + 9 * lo) := KR_tr (Nat.le_refl _) kw2 (KR_7 g5)
          have step2 : ∀ f c, c ≤ i → l_X6_takeAll_14 (f + (L + 2)) s1 (Int32.ofNat c) = l_X6_takeAll_14 (f + 1) w1 (Int32.ofNat (c + 1 + L)) := fun f c hcc => by
            rw [show f + (L + 2) = (f + 1 + L) + 1 by omega, step1 _ c hcc]
            exact e1 (f + 1) (c + 1) (by omega)
          rcases L_take (g := 59) hOE (by omega) (wd_sign (k := 59) hOE (by omega)) with ⟨-, z1, z2, m1, m2, m3, m4, m5⟩ | ⟨z1, z2, m1, m2, m3, m4, m5⟩
          · have m1' : f_X8_take E 59 = some (true, z1) := m1
            have m2' : f_X12_must y2 (f_X12_isSign y2 59) = some z2 := m2
            have z25 : z2.1 117 25 = Int32.ofNat hi := by rw [m5.2.1 25 (by omega), g5.2.1 25 (by omega)]; exact f25
            rw [m2', Option.bind_some, Option.bind_some, z25] at href
            have kz : KC s1 z1 l d := KC_tr (Nat.le_refl _) (Nat.le_refl _) kE' (KC_5 m4)
            have kZ : KR s2 (fu_pi z2 122 (1505 + 9 * lo + 8) (Int32.ofNat hi)) (1505 + 9 * lo) := KR_tr (Nat.le_refl _) ky2 (KR_tr (Nat.le_refl _) (KR_7 m5) (KR_pi (by omega)))
            have cell : ∀ j, j ≠ 1505 + 9 * lo + 8 → (fu_pi z2 122 (1505 + 9 * lo + 8) (Int32.ofNat hi)).1 122 j = w2.1 122 j := fun j hj => by rw [p1q hj, (m5.1 122 (by omega)).1, (g5.1 122 (by omega)).1]
            have row : ∀ k j, 1 ≤ k → k < 5 → j ≠ e → (k = 4 → j ≠ l) → z1.1 (42 + k) j = w1.1 (42 + k) j := fun k j x1 x2 x3 x4 => by rw [m4.1 (42 + k) (by omega), k9 k j x1 x2 x3 x4, en (42 + k) (by omega), g4.1 (42 + k) (by omega)]
            refine .inl ⟨z1, _, i3 + 1 + 1, hi, e + 1, L + 2, fun f c hcc => ?_, href, OK_r2 m3, by omega, ⟨⟨hv, dC_K hdC kz, dR_K hv hdR kZ (by omega)⟩, ⟨?_, ?_, ?_, ?_⟩, f30, by omega, hd3⟩, ⟨by omega, by omega, by omega, f30, .inr ⟨?_, hd, e, by omega, rfl, p1, ?_, ?_, ?_, fun f hf => ?_⟩⟩, kz, kZ⟩
            · rw [step2 f c hcc, show c + (L + 2) = c + 1 + L + 1 by omega]
              exact it_ok e3 (by omega) (by omega) hitE m1'
            · rw [m4.1 48 (by omega), k7 48 (by omega)]; exact e48
            · rw [m4.1 42 (by omega)]; exact k5
            · rw [m4.1 42 (by omega), k6 5 (by omega), en 42 (by omega), g4.1 42 (by omega)]; exact f5'
            · rw [p1n (by omega)]; exact z25
            · refine dT_m8 (fun k x1 x2 => ?_) (fun j hj => ?_) b9
              · rw [row k l x1 (by omega) (by omega) (by omega), e10.2.2.2.1 k l x1 (by omega) (by omega), d4.1 (42 + k) (by omega)]
              · rw [cell _ (by omega), e11.2.2.2.2 _ (by omega), (d5.1 122 (by omega)).1]
            · rw [m4.1 46 (by omega)]; exact k4
            · rw [m4.1 43 (by omega)]; exact k2
            · rw [m4.1 46 (by omega)]; exact k3
            · rw [show 3 - d - 1 = 3 - (d + 1) by omega]
              exact dW_kp (fun k j x1 x2 x3 x4 => row k j x1 x2 (by omega) (fun _ => by omega)) (fun j x1 x2 => cell j (by omega)) (e9 f hf)
          · have m1' : f_X8_take E 59 = some (false, z1) := m1
            have m2' : f_X12_must y2 (f_X12_isSign y2 59) = some z2 := m2
            rw [m2', Option.bind_some, Option.bind_some] at href
            refine .inr ⟨_, _, L + 2, by omega, fun f c hcc => ?_, href, .inl ⟨z1, rfl, BA_r m3, KC_0 (KC_tr (Nat.le_refl _) (Nat.le_refl _) kE' (KC_5 m4))⟩, KR_tr (Nat.le_refl _) (KR_le (by omega) ky2) (KR_tr (Nat.le_refl _) (KR_7 m5) (KR_pi (by omega)))⟩
            rw [step2 f c hcc]
            exact it_b2 e3 (by omega) (by omega) hitE m1'
        · rw [Nat.add_sub_cancel] at e2
          have hbd := FL_bd e3
          rw [e2, Option.bind_some, if_pos rfl, B_must hbd, Option.bind_some, B_must hbd, Option.bind_some, Option.bind_some] at href
          refine .inr ⟨X', _, L + 1, by omega, fun f c hcc => ?_, href, FL_r (FL_tr (KC_0 kr) e3), KR_tr (Nat.le_refl _) (KR_le (by omega) kr2) (KR_tr (Nat.le_refl _) e4 (KR_pi (by omega)))⟩
          rw [← Nat.add_assoc, step1 _ c hcc]
          exact e1 f (c + 1) (by omega)
    · have d1' : f_X8_take v1 59 = some (false, r1) := d1
      have d2' : f_X12_must v2 (f_X12_isSign v2 59) = some r2 := d2
      have hbd := bd_BA d3
      have kr : KC s1 r1 l d := KC_tr (Nat.le_refl _) (Nat.le_refl _) kv (KC_5 d4)
      rw [b2, Option.bind_some, d2', Option.bind_some, l140_b hbd, Option.bind_some] at href
      have href2 : f_X12_readStep (g + 1) s2 (Int32.ofNat d) = some (fu_pi r2 122 (1505 + 9 * lo + 8) (r2.1 117 25)) := by
        rw [href]
        cases opB G
        · rw [if_neg Bool.false_ne_true, Option.bind_some]
        · rw [if_pos rfl, B_must hbd, Option.bind_some, B_must hbd, Option.bind_some, Option.bind_some]
      exact .inr ⟨_, _, 1, by omega, fun f c hcc => it_b2 h (by rw [hGG]; exact hg0) hcc (hit.trans b1) d1', href2, .inl ⟨r1, rfl, BA_r d3, KC_0 kr⟩, KR_tr (Nat.le_refl _) (KR_le (by omega) kv2) (KR_tr (Nat.le_refl _) (KR_7 d5) (KR_pi (by omega)))⟩
  · have hbd := bd_BA b3
    have kv : KC s1 v1 l d := KC_tr (Nat.le_refl _) (Nat.le_refl _) kt (KC_k b5)
    have kv2 : KR s2 v2 (1505 + 9 * lo) := KR_tr (Nat.le_refl _) kY (KR_k b6 (by omega))
    rw [b2, Option.bind_some, B_must hbd, Option.bind_some, l140_b hbd, Option.bind_some] at href
    have href2 : f_X12_readStep (g + 1) s2 (Int32.ofNat d) = some (fu_pi v2 122 (1505 + 9 * lo + 8) (v2.1 117 25)) := by
      rw [href]
      cases opB G
      · rw [if_neg Bool.false_ne_true, Option.bind_some]
      · rw [if_pos rfl, B_must hbd, Option.bind_some, B_must hbd, Option.bind_some, Option.bind_some]
    exact .inr ⟨_, _, 1, by omega, fun f c hcc => it_b1 h (by rw [hGG]; exact hg0) hcc (hit.trans b1), href2, .inl ⟨v1, rfl, BA_r b3, KC_0 kv⟩, KR_tr (Nat.le_refl _) (KR_le (by omega) kv2) (KR_pi (by omega))⟩
end STX
