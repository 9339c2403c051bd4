/-! district: a person, read -/
section PS2
variable {s t r s1 s2 t1 t2 : fu_S} {u : Nat → Nat} {n T p q e f k i g v j m lo w P V W R a b : Nat} {x y : Int32} {z : Int64} {D : dD}
theorem f5_fQ (h : fC 29 36 s t) : fQ1 s t := ⟨fun a _ x1 _ => h a (by omega), (h 5 (by omega)).2, fun q _ _ _ => by rw [(h 5 (by omega)).1]⟩
theorem OK_w {W : fu_S} (h : OK u n T s1 s2 i) (e5 : t1.1 5 = s1.1 5) (e8 : t1.1 8 = s1.1 8) (e9 : t1.1 9 = s1.1 9) (e10 : t1.2 10 = s1.2 10) (w7 : W.1 117 = s2.1 117) (w21 : W.1 121 = s2.1 121) (w19 : W.2 117 = s2.2 117) : OK u n T t1 W i := by
  obtain ⟨⟨⟨g1, g2⟩, gM⟩, g4, g5, g8, ⟨g9, g10, g11⟩, g12, g13⟩ := h
  refine ⟨⟨⟨by rw [e5]; exact g1, fun j hj => ?_⟩, gM⟩, g4, by rw [e5]; exact g5, by rw [e5]; exact g8, ⟨g9, by rw [w7]; exact g10, fun i hi => by rw [w21]; exact g11 i hi⟩, ?_, by rw [w7]; exact g13⟩
  · rw [e8, e9, e10]
    exact g2 j hj
  · unfold rS at g12 ⊢
    rw [w7, w19]
    exact g12
theorem P_person (h : OK u n T s1 s2 i) (hg : tG u n (tq u n i) = 106) (hD : QD s1 s2 D) : PT u n T s1 s2 i (f_X2_takePerson s1) (f_X12_readPerson s2) (fun _ t1 t2 => t1.1 47 = s1.1 47 ∧ t2.1 117 24 = s2.1 117 24) := by
  have hk := hD.2.1.1.2.2.2.2.1
  have hr : s2.1 122 1421 = Int32.ofNat (D 0 4) := hD.2.2.1.2.1
  have hp4 := hD.1.1
  have q1 : am_in ((1420 : Int32) + 1) 1775 = true := by decide
  have q2 : ((1420 : Int32) + 1).toNatClampNeg = 1421 := by decide
  by_cases h7 : D 0 4 < 7
  · have hne : ¬ Int32.ofNat (D 0 4) = 7 := fun z => by have z' : D 0 4 = 7 := (i_eql (n := 7) (by omega) (show (7 : Nat) < 2147483648 by omega)).mp z; omega
    have hlt : Int32.ofNat (D 0 4) < 7 := (i_ltl (n := 7) (by omega) (show (7 : Nat) < 2147483648 by omega)).mpr h7
    obtain ⟨u1, u2, a1, a2, a3, a4, a5⟩ := r_an1 (cc := 1) (mm := 7) h (by omega) q1 q2 hr hne
    have hD1 := QD_57 hD a4 a5
    have nN := wd_name a3
    by_cases g3 : tG u n (tq u n (i + 1)) = 3
    · rw [decide_eq_true g3] at nN
      have n1 := OK_hereY a3 g3
      obtain ⟨n2, hV⟩ := OK_nam a3 g3
      generalize tV u n (tq u n (i + 1)) = V at *
      have n3 := c_named hD1.2.1 hD1.1 hV
      have n4 := r_named hD1.2.2 hD1.1 (by omega) hV n2
      have n4' : f_X12_named u2 4 = some (e_b (d_nm D V)) := n4
      have n5 := d_nm_le (D := D) (V := V)
      have n6 := j_n1 (a := V) (by omega)
      by_cases hd : d_nm D V = 0
      · rw [hd] at n3 n4'
        replace n3 : f_X4_personNamed u1 29 (Int64.ofNat V) = some (-1) := n3
        replace n4' : f_X12_named u2 4 = some (-1) := n4'
        have hOK1 := OK_rl (a := 124) (q := 28 + D 0 4) (z := Int64.ofNat V) a3 (by omega)
        have fX : fQ2 u2 (fu_pl u2 124 (28 + D 0 4) (Int64.ofNat V)) := ⟨fun _ _ _ => rfl, fun _ _ _ _ => rfl, fun _ _ => rfl, fun a _ ha => l2n ha, fun q _ => by rw [l2n (by omega)], fun i hi => l2q (by omega)⟩
        have hD2 : QD u1 (fu_pl u2 124 (28 + D 0 4) (Int64.ofNat V)) D := ⟨hD1.1, hD1.2.1, hD1.2.2.1, hD1.2.2.2.1, fun p hp => ⟨by rw [l2q (by omega)]; exact (hD1.2.2.2.2.1 p hp).1, (hD1.2.2.2.2.1 p hp).2⟩, hD1.2.2.2.2.2⟩
        obtain ⟨X, hX⟩ : ∃ X, X = fu_pl u2 124 (28 + D 0 4) (Int64.ofNat V) := ⟨_, rfl⟩
        have x24 : X.2 124 (28 + D 0 4) = Int64.ofNat V := by rw [hX]; exact l2
        have x11 : X.1 = u2.1 := by rw [hX]; rfl
        rw [← hX] at hOK1 fX hD2
        have m35 : am_in ((28 : Int32) + Int32.ofNat (D 0 4)) 35 = true := by rw [i_addr, i_in (by omega)]; exact decide_eq_true (show 28 + D 0 4 < 35 by omega)
        have w28 : ((28 : Int32) + Int32.ofNat (D 0 4)).toNatClampNeg = 28 + D 0 4 := by rw [i_addr]; exact i_tn (show 28 + D 0 4 < 2147483648 by omega)
        obtain ⟨b1, b2, c1, c2, c3, c4, c5⟩ := L_next hOK1 (by omega)
        have hD3 := QD_57 hD2 c4 c5
        have y24 : b2.2 124 (28 + D 0 4) = Int64.ofNat V := by rw [(c5.1 124 (by omega)).2]; exact x24
        have n40 : (-1 : Int32) < 0 := by decide
        rcases L_behind (g := 107) (lo := 0) (y := 59) c3 (by omega) (wd_7 c3) (by omega) with ⟨v1, k1, k2, k3, t1, t2, d1, d2, d3, d4, d5⟩ | ⟨t1, t2, d1, d2, d3, d4, d5⟩
        · have hv1 : v1 ≤ 59 := (i_lel (n := 59) (by omega) (show (59 : Nat) < 2147483648 by omega)).mp k3
          have d2' : f_X12_behindWord b2 (f_X12_isHome b2) 0 59 = some (Int32.ofNat v1, t2) := d2
          rcases L_reachP (x1 := Int32.ofNat (D 0 4)) (x2 := Int32.ofNat v1) d3 with ⟨R, i', r1, r2, hR, hi', e1, e2, e3, e4, e5⟩ | ⟨r1, r2, y, e1, e2, e3, e4, e5⟩
          · have hD4 := QD_57 (QD_57 hD3 d4 d5) e4 e5
            obtain ⟨w1, p1', p2', p3'⟩ := c_padd (V := V) (w := v1) (R := R) hD4.2.1 h7
            have z24 : r2.2 124 (28 + D 0 4) = Int64.ofNat V := by rw [(e5.1 124 (by omega)).2, (d5.1 124 (by omega)).2]; exact y24
            have p4' := r_padd (w := v1) (R := R) hD4.2.2 hD.1 h7 z24
            have hr' : r2.1 122 1421 = Int32.ofNat (D 0 4) := hD4.2.2.1.2.1
            obtain ⟨W, hW⟩ : ∃ W, W = fu_pi (fu_pi (fu_pi r2 122 (1441 + D 0 4) (Int32.ofNat v1)) 122 (1448 + D 0 4) (Int32.ofNat R)) 122 1421 (Int32.ofNat (D 0 4 + 1)) := ⟨_, rfl⟩
            have wn : ∀ a, a ≠ 122 → W.1 a = r2.1 a := fun a ha => by rw [hW, p1n ha, p1n ha, p1n ha]
            have w2 : W.2 = r2.2 := by rw [hW]; rfl
            have wo : ∀ q, (q < 1420 ∨ 1503 ≤ q) → W.1 122 q = r2.1 122 q := fun q hq => by rw [hW, p1q (by omega), p1q (by omega), p1q (by omega)]
            rw [← hW] at p4'
            have hOK : OK u n T w1 W i' := OK_w e3 (p3' 5 (by omega)).1 (p3' 8 (by omega)).1 (p3' 9 (by omega)).1 (p3' 10 (by omega)).2 (wn 117 (by omega)) (wn 121 (by omega)) (by rw [w2])
            refine .inl ⟨w1, W, dper D V v1 R, i', ?_, ?_, hOK, by omega, ⟨dV_per hD.1 h7 hV hv1 hR, p2', p4'⟩, ⟨?_, ?_⟩, ?_, ?_⟩
            · unfold f_X2_takePerson fu_lt f_X4_people
              rw [hk, if_pos hlt, a1]
              dsimp only
              rw [n1, Option.bind_some, if_neg n6, n3, Option.bind_some, if_pos rfl, c1]
              refine (ob_k d1 _).trans ?_
              dsimp only
              rw [if_neg (e_neg1 (by omega)), e1, Option.bind_some]
              dsimp only
              rw [if_neg (e_neg1 (by omega)), p1', Option.bind_some]
            · unfold f_X12_readPerson fu_lt
              rw [a2, Option.bind_some]
              dsimp only
              rw [if_pos (OK_0 a3), nN, if_pos rfl, Option.bind_some, if_pos (OK_0 a3), n4', Option.bind_some, if_pos n40, Option.bind_some, if_pos (OK_0 a3), if_pos m35, w28, n2, ← hX, Option.bind_some, c2, Option.bind_some]
              rw [d2', Option.bind_some]
              dsimp only
              refine (ob_k e2 _).trans ?_
              dsimp only
              have m1 : 1441 + D 0 4 < 1775 := by omega
              have m2 : 1448 + D 0 4 < 1775 := by omega
              have rr : (fu_pi (fu_pi r2 122 (1441 + D 0 4) (Int32.ofNat v1)) 122 (1448 + D 0 4) (Int32.ofNat R)).1 122 1421 = Int32.ofNat (D 0 4) := by rw [p1q (by omega), p1q (by omega)]; exact hr'
              rw [if_pos (OK_le e3)]
              rw [hW]
              generalize D 0 4 = M at *
              simp (maxSteps := 1000000) (disch := omega) only [ne_eq, i_lt0, i_le0, i_eq0, i_n1, i_ltl, i_lel, i_eql, i_lt, i_le, i_eq, i_in, i_tn, i_add, i_addl, i_addr, i_mul, i_mulr, i_mull, if_true, if_false, eq_self, decide_eq_true_eq, decide_true, decide_false, Option.bind_some, Option.bind_none, ↓fu_ltd, ↓reduceIte, ↓ob_ite, ↓ob_asc, Bool.false_eq_true, Bool.true_eq_false, not_true_eq_false, not_false_eq_true, Nat.not_lt_zero, Nat.le_zero_eq, Nat.reduceAdd, Nat.reduceMul, Nat.reduceSub, Nat.reduceEqDiff, Nat.reduceLT, Nat.reduceLeDiff, sC_def, sR_def, sC_1, sC_2, sR_1, sR_2, sC_st, sR_st, sR_no, sR_refuse, and_self, true_and, and_true, false_and, and_false, m1, m2, rr, i_add1]
            · rw [(p3' 47 (by omega)).1, e4.1 47 (by omega), d4.1 47 (by omega), c4.1 47 (by omega), a4.1 47 (by omega)]
            · rw [wn 117 (by omega), e5.2.1 24 (by omega), d5.2.1 24 (by omega), c5.2.1 24 (by omega), x11, a5.2.1 24 (by omega)]
            · exact fQ1_tr (fQ1_5 a4) (fQ1_tr (fQ1_5 c4) (fQ1_tr (fQ1_5 d4) (fQ1_tr (fQ1_5 e4) (f5_fQ p3'))))
            · exact fQ2_tr (fQ2_7 a5) (fQ2_tr fX (fQ2_tr (fQ2_7 c5) (fQ2_tr (fQ2_7 d5) (fQ2_tr (fQ2_7 e5) ⟨fun a _ x1 => wn a x1, fun q _ _ _ => by rw [wn 117 (by omega)], fun i hi => wo i hi, fun a _ _ => by rw [w2], fun q _ => by rw [w2], fun i _ => by rw [w2]⟩))))
          · refine .inr ⟨r1, r2, ?_, ?_, e3, fQ1_tr (fQ1_5 a4) (fQ1_tr (fQ1_5 c4) (fQ1_tr (fQ1_5 d4) (fQ1_5 e4))), fQ2_tr (fQ2_7 a5) (fQ2_tr fX (fQ2_tr (fQ2_7 c5) (fQ2_tr (fQ2_7 d5) (fQ2_7 e5))))⟩
            · unfold f_X2_takePerson fu_lt f_X4_people
              rw [hk, if_pos hlt, a1]
              dsimp only
              rw [n1, Option.bind_some, if_neg n6, n3, Option.bind_some, if_pos rfl, c1]
              refine (ob_k d1 _).trans ?_
              dsimp only
              rw [if_neg (e_neg1 (by omega)), e1, Option.bind_some]
              dsimp only
              rw [if_pos rfl]
            · unfold f_X12_readPerson fu_lt
              rw [a2, Option.bind_some]
              dsimp only
              rw [if_pos (OK_0 a3), nN, if_pos rfl, Option.bind_some, if_pos (OK_0 a3), n4', Option.bind_some, if_pos n40, Option.bind_some, if_pos (OK_0 a3), if_pos m35, w28, n2, ← hX, Option.bind_some, c2, Option.bind_some]
              rw [d2', Option.bind_some]
              dsimp only
              refine (ob_k e2 _).trans ?_
              dsimp only
              rw [if_neg (bd_le (bd_BA e3))]
        · have hbd := bd_BA d3
          have d2' : f_X12_behindWord b2 (f_X12_isHome b2) 0 59 = some (0, t2) := d2
          refine .inr ⟨t1, t2, ?_, ?_, d3, fQ1_tr (fQ1_5 a4) (fQ1_tr (fQ1_5 c4) (fQ1_5 d4)), fQ2_tr (fQ2_7 a5) (fQ2_tr fX (fQ2_tr (fQ2_7 c5) (fQ2_7 d5)))⟩
          · unfold f_X2_takePerson fu_lt f_X4_people
            rw [hk, if_pos hlt, a1]
            dsimp only
            rw [n1, Option.bind_some, if_neg n6, n3, Option.bind_some, if_pos rfl, c1]
            refine (ob_k d1 _).trans ?_
            dsimp only
            rw [if_pos rfl]
          · unfold f_X12_readPerson fu_lt
            rw [a2, Option.bind_some]
            dsimp only
            rw [if_pos (OK_0 a3), nN, if_pos rfl, Option.bind_some, if_pos (OK_0 a3), n4', Option.bind_some, if_pos n40, Option.bind_some, if_pos (OK_0 a3), if_pos m35, w28, n2, ← hX, Option.bind_some, c2, Option.bind_some]
            rw [d2', Option.bind_some]
            dsimp only
            refine (ob_k (B_reach hbd) _).trans ?_
            dsimp only
            rw [if_neg (bd_le hbd)]
      · obtain ⟨t1, t2, b1, b2, b3, b4, b5⟩ := L_fail a3 (k := 3) (by omega) (by omega)
        have hbd := bd_BA b3
        have b1' : f_X8_refuse u1 3 = some (false, t1) := b1
        have b2' : f_X12_fail u2 3 (u2.1 117 15) = t2 := b2
        have he : e_b (d_nm D V) = Int32.ofNat (d_nm D V - 1) := if_neg hd
        rw [he] at n3 n4'
        refine .inr ⟨t1, t2, ?_, ?_, b3, fQ1_tr (fQ1_5 a4) (fQ1_5 b4), fQ2_tr (fQ2_7 a5) (fQ2_7 b5)⟩
        · unfold f_X2_takePerson fu_lt f_X4_people
          rw [hk, if_pos hlt, a1]
          dsimp only
          rw [n1, Option.bind_some, if_neg n6, n3, Option.bind_some, if_neg (e_neg1 (by omega)), b1', Option.bind_some]
        · unfold f_X12_readPerson fu_lt
          rw [a2, Option.bind_some]
          dsimp only
          rw [if_pos (OK_0 a3), nN, if_pos rfl, Option.bind_some, if_pos (OK_0 a3), n4', Option.bind_some, if_neg (fun z => (i_lt0 (by omega)).mp z), b2', Option.bind_some, if_neg (bd_eq hbd), Option.bind_some, B_must hbd, Option.bind_some, B_behind hbd, Option.bind_some]
          dsimp only
          refine (ob_k (B_reach hbd) _).trans ?_
          dsimp only
          rw [if_neg (bd_le hbd)]
    · rw [decide_eq_false g3] at nN
      have n1 := OK_hereN a3 g3
      obtain ⟨t1, t2, b1, b2, b3, b4, b5⟩ := L_amiss a3
      have hbd := bd_BA b3
      refine .inr ⟨t1, t2, ?_, ?_, b3, fQ1_tr (fQ1_5 a4) (fQ1_5 b4), fQ2_tr (fQ2_7 a5) (fQ2_7 b5)⟩
      · unfold f_X2_takePerson fu_lt f_X4_people
        rw [hk, if_pos hlt, a1]
        dsimp only
        rw [n1, Option.bind_some, if_pos rfl, b1, Option.bind_some]
      · unfold f_X12_readPerson fu_lt
        rw [a2, Option.bind_some]
        dsimp only
        rw [if_pos (OK_0 a3), nN, if_neg Bool.false_ne_true, b2, Option.bind_some, if_neg (bd_eq hbd), Option.bind_some, if_neg (bd_eq hbd), Option.bind_some, B_must hbd, Option.bind_some, B_behind hbd, Option.bind_some]
        dsimp only
        refine (ob_k (B_reach hbd) _).trans ?_
        dsimp only
        rw [if_neg (bd_le hbd)]
  · have h77 : D 0 4 = 7 := by omega
    have hlt : ¬ Int32.ofNat (D 0 4) < 7 := fun z => h7 ((i_ltl (n := 7) (by omega) (show (7 : Nat) < 2147483648 by omega)).mp z)
    obtain ⟨t1, t2, a1, a2, a3, a4, a5⟩ := r_an2 (cc := 1) (mm := 7) h (by omega) q1 q2 hr (by rw [h77]; rfl)
    have hbd := bd_BA a3
    refine .inr ⟨t1, t2, ?_, ?_, a3, fQ1_5 a4, fQ2_7 a5⟩
    · unfold f_X2_takePerson fu_lt f_X4_people
      rw [hk, if_neg hlt, a1, Option.bind_some]
    · unfold f_X12_readPerson fu_lt
      rw [a2, Option.bind_some]
      dsimp only
      rw [if_neg (bd_eq hbd), Option.bind_some, if_neg (bd_eq hbd), Option.bind_some, if_neg (bd_eq hbd), Option.bind_some, B_must hbd, Option.bind_some, B_behind hbd, Option.bind_some]
      dsimp only
      refine (ob_k (B_reach hbd) _).trans ?_
      dsimp only
      rw [if_neg (bd_le hbd)]
end PS2
