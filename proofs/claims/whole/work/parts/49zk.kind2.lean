/-! district: a kind, read -/
theorem ob_k {α β γ : Type} {x : Option α} {X : α → Option β} {z : β} (h : (Option.bind x fun a => Option.bind (X a) fun b => some b) = some z) (K : β → Option γ) : (Option.bind x fun a => Option.bind (X a) K) = K z := by
  cases x with
  | none => simp at h
  | some a =>
    rw [Option.bind_some] at h ⊢
    cases hX : X a with
    | none => rw [hX] at h; simp at h
    | some b =>
      rw [hX, Option.bind_some] at h
      cases h
      rw [Option.bind_some]
section KN2
variable {s t r s1 s2 t1 t2 : fu_S} {u : Nat → Nat} {n T p q e f k i g v j m lo w P x1 x2 x3 : Nat} {x y cc mm : Int32} {z : Int64} {b : Bool} {D : dD}
theorem r_an1 (h : OK u n T s1 s2 i) (hg : tG u n (tq u n i) ≠ 0) (hcc : am_in ((1420 : Int32) + cc) 1775 = true) (hq : ((1420 : Int32) + cc).toNatClampNeg = q) (hk : s2.1 122 q = Int32.ofNat k) (hne : ¬ Int32.ofNat k = mm) : ∃ t1 t2, f_X8_next s1 = t1 ∧ f_X12_another s2 cc mm = some (Int32.ofNat k, t2) ∧ OK u n T t1 t2 (i + 1) ∧ f5 s1 t1 ∧ f7 s2 t2 := by
  obtain ⟨t1, t2, a1, a2, a3⟩ := L_next h hg
  refine ⟨t1, t2, a1, ?_, a3⟩
  unfold f_X12_another
  rw [if_pos hcc, hq, hk, if_neg hne, Option.bind_some, a2, Option.bind_some]
theorem r_an2 (h : OK u n T s1 s2 i) (hg : tG u n (tq u n i) ≠ 1) (hcc : am_in ((1420 : Int32) + cc) 1775 = true) (hq : ((1420 : Int32) + cc).toNatClampNeg = q) (hk : s2.1 122 q = Int32.ofNat k) (hne : Int32.ofNat k = mm) : ∃ t1 t2, f_X8_refuse s1 6 = some (false, t1) ∧ f_X12_another s2 cc mm = some (Int32.ofNat k, t2) ∧ BA t1 t2 ∧ f5 s1 t1 ∧ f7 s2 t2 := by
  obtain ⟨t1, t2, a1, a2, a3⟩ := L_fail h (k := 6) hg (by omega)
  refine ⟨t1, t2, a1, ?_, a3⟩
  have a2' : f_X12_fail s2 6 (s2.1 117 15) = t2 := a2
  unfold f_X12_another fu_lt
  rw [if_pos hcc, hq, hk, if_pos hne, a2', Option.bind_some, B_must (bd_BA a3.1), Option.bind_some]
/-- once faulted, the rest of a kind is nothing -/
theorem B_rest (h : bd t) : (Option.bind (f_X12_perhaps t b) fun r4 => Option.bind (if r4.1 = true then Option.bind (f_X12_count r4.2 (1 : Int32) (9 : Int32)) fun r7 => some (r7.1, r7.2) else some ((1 : Int32), r4.2)) fun j5 => some j5) = some (1, t) := by
  rw [B_perhaps h, Option.bind_some]
  dsimp only
  rw [if_neg Bool.false_ne_true, Option.bind_some]
theorem P_kind (h : OK u n T s1 s2 i) (hg : tG u n (tq u n i) = 102) (hD : QD s1 s2 D) : PT u n T s1 s2 i (f_X2_takeKind s1) (f_X12_readKind s2) (fun _ t1 t2 => t1.1 47 = s1.1 47 ∧ t2.1 117 24 = s2.1 117 24) := by
  have hk := hD.2.1.1.2.2.2.1
  have hr : s2.1 122 1420 = Int32.ofNat (D 0 3) := hD.2.2.1.1
  have hp4 := hD.1.1
  have q1 : am_in ((1420 : Int32) + 0) 1775 = true := by decide
  have q2 : ((1420 : Int32) + 0).toNatClampNeg = 1420 := by decide
  by_cases h5 : D 0 3 < 5
  · have hne : ¬ Int32.ofNat (D 0 3) = 5 := fun z => by have z' : D 0 3 = 5 := (i_eql (n := 5) (by omega) (show (5 : Nat) < 2147483648 by omega)).mp z; omega
    obtain ⟨u1, u2, a1, a2, a3, a4, a5⟩ := r_an1 (cc := 0) (mm := 5) h (by omega) q1 q2 hr hne
    have hlt : Int32.ofNat (D 0 3) < 5 := (i_ltl (n := 5) (by omega) (show (5 : Nat) < 2147483648 by omega)).mpr h5
    rcases L_behind (g := 103) (lo := 1) (y := 9) a3 (by omega) (wd_3 a3) (by omega) with ⟨v1, k1, k2, k3, t1, t2, b1, b2, b3, b4, b5⟩ | ⟨t1, t2, b1, b2, b3, b4, b5⟩
    · have hv1 : v1 ≤ 9 := (i_lel (n := 9) (by omega) (show (9 : Nat) < 2147483648 by omega)).mp k3
      rcases L_behind (g := 104) (lo := 0) (y := 9) b3 (by omega) (wd_4 b3) (by omega) with ⟨v2, k4, k5, k6, r1, r2, c1, c2, c3, c4, c5⟩ | ⟨r1, r2, c1, c2, c3, c4, c5⟩
      · have hv2 : v2 ≤ 9 := (i_lel (n := 9) (by omega) (show (9 : Nat) < 2147483648 by omega)).mp k6
        rcases L_perhaps (g := 105) c3 (by omega) (wd_5 c3) with ⟨v3, i', k7, k8, k9, p1', p2', d1, d2, d3, d4, d5⟩ | ⟨p1', p2', y', d1, d2, d3, d4, d5⟩
        · have hD' := QD_57 (QD_57 (QD_57 (QD_57 hD a4 a5) b4 b5) c4 c5) d4 d5
          obtain ⟨w1, e1, e2, e3⟩ := c_kadd (x1 := v1) (x2 := v2) (x3 := v3) hD'.2.1 hD.1 h5 (by omega) (by omega) (by omega)
          have e4 := r_kadd (x1 := v1) (x2 := v2) (x3 := v3) hD'.2.2 hD.1 h5 ⟨k1, hv1⟩ hv2 ⟨k7, k8⟩
          have hr' : p2'.1 122 1420 = Int32.ofNat (D 0 3) := hD'.2.2.1.1
          obtain ⟨W, hW⟩ : ∃ W, W = fu_pi (fu_pi (fu_pi (fu_pi p2' 122 (1426 + D 0 3) (Int32.ofNat v1)) 122 (1431 + D 0 3) (Int32.ofNat v2)) 122 (1436 + D 0 3) (Int32.ofNat v3)) 122 1420 (Int32.ofNat (D 0 3 + 1)) := ⟨_, rfl⟩
          have wn : ∀ a, a ≠ 122 → W.1 a = p2'.1 a := fun a ha => by rw [hW, p1n ha, p1n ha, p1n ha, p1n ha]
          have w2 : W.2 = p2'.2 := by rw [hW]; rfl
          have wo : ∀ q, (q < 1420 ∨ 1503 ≤ q) → W.1 122 q = p2'.1 122 q := fun q hq => by rw [hW, p1q (by omega), p1q (by omega), p1q (by omega), p1q (by omega)]
          rw [← hW] at e4
          have hOK : OK u n T w1 W i' := by
            obtain ⟨⟨⟨g1, g2⟩, gM⟩, g4, g5, g8, ⟨g9, g10, g11⟩, g12, g13⟩ := d3
            refine ⟨⟨⟨by rw [(e3 5 (by omega)).1]; exact g1, fun j hj => ?_⟩, gM⟩, g4, by rw [(e3 5 (by omega)).1]; exact g5, by rw [(e3 5 (by omega)).1]; exact g8, ⟨g9, by rw [wn 117 (by omega)]; exact g10, fun i hi => by rw [wn 121 (by omega)]; exact g11 i hi⟩, ?_, by rw [wn 117 (by omega)]; exact g13⟩
            · rw [(e3 8 (by omega)).1, (e3 9 (by omega)).1, (e3 10 (by omega)).2]
              exact g2 j hj
            · unfold rS at g12 ⊢
              rw [wn 117 (by omega), w2]
              exact g12
          refine .inl ⟨w1, W, dkind D v1 v2 v3, i', ?_, ?_, hOK, by omega, ⟨dV_kind hD.1 h5 ⟨k1, hv1⟩ hv2 ⟨k7, k8⟩, e2, e4⟩, ⟨?_, ?_⟩, ?_, ?_⟩
          · unfold f_X2_takeKind fu_lt f_X4_kinds
            rw [hk, if_pos hlt, a1]
            dsimp only
            refine (ob_k b1 _).trans ?_
            dsimp only
            rw [if_neg (e_neg1 (by omega))]
            refine (ob_k c1 _).trans ?_
            dsimp only
            have d1' : f_X2_takePerhaps r1 105 9 = some (Int32.ofNat v3, p1') := d1
            rw [if_neg (e_neg1 (by omega)), d1', Option.bind_some]
            dsimp only
            rw [if_neg (e_neg1 (by omega)), e1, Option.bind_some]
          · unfold f_X12_readKind
            rw [a2, Option.bind_some]
            dsimp only
            have b2' : f_X12_behindWord u2 (f_X12_isStepWord u2) 1 9 = some (Int32.ofNat v1, t2) := b2
            have c2' : f_X12_behindWord t2 (f_X12_isSpotWord t2) 0 9 = some (Int32.ofNat v2, r2) := c2
            rw [b2', Option.bind_some]
            dsimp only
            rw [c2', Option.bind_some]
            dsimp only
            refine (ob_k d2 _).trans ?_
            dsimp only
            have m1 : 1426 + D 0 3 < 1775 := by omega
            have m2 : 1431 + D 0 3 < 1775 := by omega
            have m3 : 1436 + D 0 3 < 1775 := by omega
            have rr : (fu_pi (fu_pi (fu_pi p2' 122 (1426 + D 0 3) (Int32.ofNat v1)) 122 (1431 + D 0 3) (Int32.ofNat v2)) 122 (1436 + D 0 3) (Int32.ofNat v3)).1 122 1420 = Int32.ofNat (D 0 3) := by rw [p1q (by omega), p1q (by omega), p1q (by omega)]; exact hr'
            rw [if_pos (OK_le d3)]
            rw [hW]
            generalize D 0 3 = M at *
            simp (maxSteps := 1000000) (disch := omega) only [ne_eq, i_lt0, i_le0, i_eq0, i_n1, i_ltl, i_lel, i_eql, i_lt, i_le, i_eq, i_in, i_tn, i_add, i_addl, i_addr, i_mul, i_mulr, i_mull, if_true, if_false, eq_self, decide_eq_true_eq, decide_true, decide_false, Option.bind_some, Option.bind_none, ↓fu_ltd, ↓reduceIte, ↓ob_ite, ↓ob_asc, Bool.false_eq_true, Bool.true_eq_false, not_true_eq_false, not_false_eq_true, Nat.not_lt_zero, Nat.le_zero_eq, Nat.reduceAdd, Nat.reduceMul, Nat.reduceSub, Nat.reduceEqDiff, Nat.reduceLT, Nat.reduceLeDiff, sC_def, sR_def, sC_1, sC_2, sR_1, sR_2, sC_st, sR_st, sR_no, sR_refuse, and_self, true_and, and_true, false_and, and_false, m1, m2, m3, rr, i_add1]
          · rw [(e3 47 (by omega)).1, d4.1 47 (by omega), c4.1 47 (by omega), b4.1 47 (by omega), a4.1 47 (by omega)]
          · rw [wn 117 (by omega), d5.2.1 24 (by omega), c5.2.1 24 (by omega), b5.2.1 24 (by omega), a5.2.1 24 (by omega)]
          · exact fQ1_tr (fQ1_5 a4) (fQ1_tr (fQ1_5 b4) (fQ1_tr (fQ1_5 c4) (fQ1_tr (fQ1_5 d4) ⟨fun a x0 x1 x2 => e3 a (by omega), (e3 5 (by omega)).2, fun q _ _ _ => by rw [(e3 5 (by omega)).1]⟩)))
          · exact fQ2_tr (fQ2_7 a5) (fQ2_tr (fQ2_7 b5) (fQ2_tr (fQ2_7 c5) (fQ2_tr (fQ2_7 d5) ⟨fun a _ x1 => wn a x1, fun q _ _ _ => by rw [wn 117 (by omega)], fun i hi => wo i hi, fun a _ _ => by rw [w2], fun q _ => by rw [w2], fun i _ => by rw [w2]⟩)))
        · refine .inr ⟨p1', p2', ?_, ?_, d3, fQ1_tr (fQ1_5 a4) (fQ1_tr (fQ1_5 b4) (fQ1_tr (fQ1_5 c4) (fQ1_5 d4))), fQ2_tr (fQ2_7 a5) (fQ2_tr (fQ2_7 b5) (fQ2_tr (fQ2_7 c5) (fQ2_7 d5)))⟩
          · unfold f_X2_takeKind fu_lt f_X4_kinds
            rw [hk, if_pos hlt, a1]
            dsimp only
            refine (ob_k b1 _).trans ?_
            dsimp only
            rw [if_neg (e_neg1 (by omega))]
            refine (ob_k c1 _).trans ?_
            dsimp only
            have d1' : f_X2_takePerhaps r1 105 9 = some (-1, p1') := d1
            rw [if_neg (e_neg1 (by omega)), d1', Option.bind_some]
            dsimp only
            rw [if_pos rfl]
          · unfold f_X12_readKind
            rw [a2, Option.bind_some]
            dsimp only
            have b2' : f_X12_behindWord u2 (f_X12_isStepWord u2) 1 9 = some (Int32.ofNat v1, t2) := b2
            have c2' : f_X12_behindWord t2 (f_X12_isSpotWord t2) 0 9 = some (Int32.ofNat v2, r2) := c2
            rw [b2', Option.bind_some]
            dsimp only
            rw [c2', Option.bind_some]
            dsimp only
            refine (ob_k d2 _).trans ?_
            dsimp only
            rw [if_neg (bd_le (bd_BA d3))]
      · have hbd := bd_BA c3
        refine .inr ⟨r1, r2, ?_, ?_, c3, fQ1_tr (fQ1_5 a4) (fQ1_tr (fQ1_5 b4) (fQ1_5 c4)), fQ2_tr (fQ2_7 a5) (fQ2_tr (fQ2_7 b5) (fQ2_7 c5))⟩
        · unfold f_X2_takeKind fu_lt f_X4_kinds
          rw [hk, if_pos hlt, a1]
          dsimp only
          refine (ob_k b1 _).trans ?_
          dsimp only
          rw [if_neg (e_neg1 (by omega))]
          refine (ob_k c1 _).trans ?_
          dsimp only
          rw [if_pos rfl]
        · unfold f_X12_readKind
          rw [a2, Option.bind_some]
          dsimp only
          have b2' : f_X12_behindWord u2 (f_X12_isStepWord u2) 1 9 = some (Int32.ofNat v1, t2) := b2
          have c2' : f_X12_behindWord t2 (f_X12_isSpotWord t2) 0 9 = some (0, r2) := c2
          rw [b2', Option.bind_some]
          dsimp only
          rw [c2', Option.bind_some]
          dsimp only
          refine (ob_k (B_rest hbd) _).trans ?_
          dsimp only
          rw [if_neg (bd_le hbd)]
    · have hbd := bd_BA b3
      refine .inr ⟨t1, t2, ?_, ?_, b3, fQ1_tr (fQ1_5 a4) (fQ1_5 b4), fQ2_tr (fQ2_7 a5) (fQ2_7 b5)⟩
      · unfold f_X2_takeKind fu_lt f_X4_kinds
        rw [hk, if_pos hlt, a1]
        dsimp only
        refine (ob_k b1 _).trans ?_
        dsimp only
        rw [if_pos rfl]
      · unfold f_X12_readKind
        rw [a2, Option.bind_some]
        dsimp only
        have b2' : f_X12_behindWord u2 (f_X12_isStepWord u2) 1 9 = some (0, t2) := b2
        rw [b2', Option.bind_some]
        dsimp only
        rw [B_behind hbd, Option.bind_some]
        dsimp only
        refine (ob_k (B_rest hbd) _).trans ?_
        dsimp only
        rw [if_neg (bd_le hbd)]
  · have h55 : D 0 3 = 5 := by omega
    have hlt : ¬ Int32.ofNat (D 0 3) < 5 := fun z => h5 ((i_ltl (n := 5) (by omega) (show (5 : Nat) < 2147483648 by omega)).mp z)
    obtain ⟨t1, t2, a1, a2, a3, a4, a5⟩ := r_an2 (cc := 0) (mm := 5) h (by omega) q1 q2 hr (by rw [h55]; rfl)
    have hbd := bd_BA a3
    refine .inr ⟨t1, t2, ?_, ?_, a3, fQ1_5 a4, fQ2_7 a5⟩
    · unfold f_X2_takeKind fu_lt f_X4_kinds
      rw [hk, if_neg hlt, a1, Option.bind_some]
    · unfold f_X12_readKind
      rw [a2, Option.bind_some]
      dsimp only
      rw [B_behind hbd, Option.bind_some]
      dsimp only
      rw [B_behind hbd, Option.bind_some]
      dsimp only
      refine (ob_k (B_rest hbd) _).trans ?_
      dsimp only
      rw [if_neg (bd_le hbd)]
end KN2
