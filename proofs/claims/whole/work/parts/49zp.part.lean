/-! district: a part, and all of it -/
section PRT
variable {s t r s1 s2 t1 t2 : fu_S} {u : Nat → Nat} {n T p q e f k i g v j m lo w P V W R a b : Nat} {x y : Int32} {z : Int64} {D : dD}
theorem TL_eq (hT : TL s1 s2) (h1 : t1.1 47 = s1.1 47) (h2 : t2.1 117 24 = s2.1 117 24) : TL t1 t2 := by
  unfold TL at hT ⊢
  rw [h1, h2]
  exact hT
theorem PT_w {A : Option (Bool × fu_S)} {B : Option fu_S} {W W' : dD → fu_S → fu_S → Prop} (h : ∀ D t1 t2, W D t1 t2 → W' D t1 t2) (hP : PT u n T s1 s2 i A B W) : PT u n T s1 s2 i A B W' := by
  rcases hP with ⟨t1, t2, D', i', a1, a2, a3, a4, a5, a6, a7⟩ | h2
  · exact .inl ⟨t1, t2, D', i', a1, a2, a3, a4, a5, h _ _ _ a6, a7⟩
  · exact .inr h2
theorem PT_id {A : Option (Bool × fu_S)} {B : Option fu_S} {W : dD → fu_S → fu_S → Prop} (hP : PT u n T s1 s2 i A B W) : PT u n T s1 s2 i (Option.bind A fun r => some (r.1, r.2)) (Option.bind (Option.bind B fun r => some r) fun j => some j) W := by
  rcases hP with ⟨t1, t2, D', i', a1, a2, a3⟩ | ⟨t1, t2, a1, a2, a3⟩
  · exact .inl ⟨t1, t2, D', i', by rw [a1, Option.bind_some], by rw [a2, Option.bind_some, Option.bind_some], a3⟩
  · exact .inr ⟨t1, t2, by rw [a1, Option.bind_some], by rw [a2, Option.bind_some, Option.bind_some], a3⟩
theorem P_part (h : OK u n T s1 s2 i) (hg : tG u n (tq u n i) ≠ 0) (hD : QD s1 s2 D) (hT : TL s1 s2) : PT u n T s1 s2 i (f_X2_takePart s1) (f_X12_readPart s2) (fun _ t1 t2 => TL t1 t2) := by
  have e0 := OK_sort h
  have hG := tG_lt (u := u) (n := n) (q := tq u n i)
  have w0 := wd_0 h
  have w1 := wd_1 h
  have w2 := wd_2 h
  have w6 := wd_6 h
  have w9 := wd_9 h
  have ne : ∀ k : Nat, k < 1000 → tG u n (tq u n i) ≠ k → ¬ Int32.ofNat (tG u n (tq u n i)) = Int32.ofNat k := fun k hk hz z => hz ((i_eq (by omega) (by omega)).mp z)
  have n0 : tG u n (tq u n i) ≠ 100 → ¬ Int32.ofNat (tG u n (tq u n i)) = 100 := ne 100 (by omega)
  have n1 : tG u n (tq u n i) ≠ 101 → ¬ Int32.ofNat (tG u n (tq u n i)) = 101 := ne 101 (by omega)
  have n2 : tG u n (tq u n i) ≠ 102 → ¬ Int32.ofNat (tG u n (tq u n i)) = 102 := ne 102 (by omega)
  have n6 : tG u n (tq u n i) ≠ 106 → ¬ Int32.ofNat (tG u n (tq u n i)) = 106 := ne 106 (by omega)
  have n9 : tG u n (tq u n i) ≠ 109 → ¬ Int32.ofNat (tG u n (tq u n i)) = 109 := ne 109 (by omega)
  unfold f_X2_takePart f_X12_readPart
  rw [e0, Option.bind_some]
  by_cases h0 : tG u n (tq u n i) = 100
  · rw [w0, decide_eq_true h0, if_pos rfl, if_pos (show Int32.ofNat (tG u n (tq u n i)) = 100 from by rw [h0]; rfl)]
    exact PT_id (P_odds h h0 hD hT)
  rw [w0, decide_eq_false h0, if_neg Bool.false_ne_true, if_neg (n0 h0)]
  by_cases h1 : tG u n (tq u n i) = 101
  · rw [w1, decide_eq_true h1, if_pos rfl, if_pos (show Int32.ofNat (tG u n (tq u n i)) = 101 from by rw [h1]; rfl)]
    exact PT_id (P_arm h h1 hD hT)
  rw [w1, decide_eq_false h1, if_neg Bool.false_ne_true, if_neg (n1 h1)]
  by_cases h2 : tG u n (tq u n i) = 102
  · rw [w2, decide_eq_true h2, if_pos rfl, if_pos (show Int32.ofNat (tG u n (tq u n i)) = 102 from by rw [h2]; rfl)]
    exact PT_id (PT_w (fun _ _ _ hW => TL_eq hT hW.1 hW.2) (P_kind h h2 hD))
  rw [w2, decide_eq_false h2, if_neg Bool.false_ne_true, if_neg (n2 h2)]
  by_cases h6 : tG u n (tq u n i) = 106
  · rw [w6, decide_eq_true h6, if_pos rfl, if_pos (show Int32.ofNat (tG u n (tq u n i)) = 106 from by rw [h6]; rfl)]
    exact PT_id (PT_w (fun _ _ _ hW => TL_eq hT hW.1 hW.2) (P_person h h6 hD))
  rw [w6, decide_eq_false h6, if_neg Bool.false_ne_true, if_neg (n6 h6)]
  by_cases h9 : tG u n (tq u n i) = 109
  · rw [w9, decide_eq_true h9, if_pos rfl, if_pos (show Int32.ofNat (tG u n (tq u n i)) = 109 from by rw [h9]; rfl)]
    exact PT_id (PT_w (fun _ _ _ hW => TL_eq hT hW.1 hW.2) (P_thing h h9 hD))
  rw [w9, decide_eq_false h9, if_neg Bool.false_ne_true, if_neg (n9 h9)]
  obtain ⟨t1, t2, a1, a2, a3, a4, a5⟩ := L_amiss h
  refine .inr ⟨t1, t2, ?_, ?_, a3, fQ1_5 a4, fQ2_7 a5⟩
  · rw [a1, Option.bind_some]
  · unfold fu_lt
    rw [a2, Option.bind_some]
/-- all the parts -/
theorem P_all : ∀ {m i f : Nat} {s1 s2 : fu_S} {D : dD}, OK u n T s1 s2 i → QD s1 s2 D → TL s1 s2 → T - i = m → m + 1 < f → (∃ t1 t2 D', (∀ c, c ≤ i → l_X2_takeAll_14 f s1 (Int32.ofNat c) = some (.inr t1)) ∧ l_X12_district_33 f s2 = some t2 ∧ OK u n T t1 t2 T ∧ QD t1 t2 D' ∧ fQ1 s1 t1 ∧ fQ2 s2 t2) ∨ (∃ t1 t2, (∀ c, c ≤ i → l_X2_takeAll_14 f s1 (Int32.ofNat c) = some (.inl (false, t1))) ∧ l_X12_district_33 f s2 = some t2 ∧ BA t1 t2 ∧ fQ1 s1 t1 ∧ fQ2 s2 t2) := by
  intro m
  induction m using Nat.strongRecOn with
  | _ m ih =>
  intro i f s1 s2 D h hD hT hm hf
  obtain ⟨f, rfl⟩ : ∃ g, f = g + 1 := ⟨f - 1, by omega⟩
  have e0 := OK_sort h
  have hG := tG_lt (u := u) (n := n) (q := tq u n i)
  have z12 := OK_0 h
  have htk := (OK_tok h).2.2.1
  have hi := h.2.1
  have hT9 := h.1.2.1
  have hT8 := h.1.2.2.1
  rw [l_X12_district_33, if_pos z12]
  by_cases hg : tG u n (tq u n i) = 0
  · have hiT : i = T := by
      refine Classical.byContradiction fun z => ?_
      have hq := h.1.2.2.2.2 i (by omega)
      unfold tG at hg
      rw [if_neg (by omega)] at hg
      split at hg
      · split at hg
        · rcases d_ws_ok (c := d_cw u (tq u n i) (d_en c_L u n (tq u n i) - tq u n i)) (w := 22) (Nat.le_refl _) with ⟨z, -⟩ | ⟨j, z1, z2, -⟩ <;> omega
        · omega
      · split at hg
        · split at hg <;> omega
        · split at hg <;> omega
    have e1 : f_X8_isAtEnd s1 = some true := by
      unfold f_X8_isAtEnd
      rw [e0, Option.bind_some, if_pos (show Int32.ofNat (tG u n (tq u n i)) = 0 from by rw [hg]; rfl), Option.bind_some]
    rw [if_pos (htk.mpr hg)]
    subst hiT
    refine .inl ⟨s1, s2, D, fun c hc => ?_, rfl, h, hD, fQ1_rf, fQ2_rf⟩
    rw [l_X2_takeAll_14]
    by_cases h9 : Int32.ofNat c < 900
    · rw [if_pos h9, e1, Option.bind_some, if_pos rfl]
    · rw [if_neg h9]
  · have hlt := OK_lt h hg
    have e1 : f_X8_isAtEnd s1 = some false := by
      unfold f_X8_isAtEnd
      rw [e0, Option.bind_some, if_neg (fun z => hg ((i_eq0 (by omega)).mp z)), Option.bind_some]
    have c9 : ∀ c, c ≤ i → Int32.ofNat c < 900 := fun c hc => (i_ltl (n := 900) (by omega) (show (900 : Nat) < 2147483648 by omega)).mpr (show c < 900 by omega)
    rw [if_neg (fun z => hg (htk.mp z))]
    rcases P_part h hg hD hT with ⟨t1, t2, D', i', a1, a2, a3, a4, a5, a6, a7, a8⟩ | ⟨t1, t2, a1, a2, a3, a4, a5⟩
    · rcases L_take (g := 59) a3 (by omega) (wd_sign (k := 59) a3 (by omega)) with ⟨-, r1, r2, b1, b2, b3, b4, b5⟩ | ⟨r1, r2, b1, b2, b3, b4, b5⟩
      · have b1' : f_X8_take t1 59 = some (true, r1) := b1
        have b2' : f_X12_must t2 (f_X12_isSign t2 59) = some r2 := b2
        have key : ∀ c, c ≤ i → l_X2_takeAll_14 (f + 1) s1 (Int32.ofNat c) = l_X2_takeAll_14 f r1 (Int32.ofNat (c + 1)) := fun c hc => by
          rw [l_X2_takeAll_14, if_pos (c9 c hc), e1, Option.bind_some, if_neg Bool.false_ne_true, a1, Option.bind_some]
          dsimp only
          rw [if_pos rfl, b1', Option.bind_some]
          dsimp only
          rw [if_pos rfl, i_add1]
        rw [a2, Option.bind_some, b2', Option.bind_some]
        rcases ih (T - (i' + 1)) (by omega) b3 (QD_57 a5 b4 b5) (TL_57 a6 b4 b5) rfl (f := f) (by omega) with ⟨w1, w2, D2, c1, c2, c3, c4, c5, c6⟩ | ⟨w1, w2, c1, c2, c3, c4, c5⟩
        · exact .inl ⟨w1, w2, D2, fun c hc => (key c hc).trans (c1 (c + 1) (by omega)), c2, c3, c4, fQ1_tr a7 (fQ1_tr (fQ1_5 b4) c5), fQ2_tr a8 (fQ2_tr (fQ2_7 b5) c6)⟩
        · exact .inr ⟨w1, w2, fun c hc => (key c hc).trans (c1 (c + 1) (by omega)), c2, c3, fQ1_tr a7 (fQ1_tr (fQ1_5 b4) c4), fQ2_tr a8 (fQ2_tr (fQ2_7 b5) c5)⟩
      · have b1' : f_X8_take t1 59 = some (false, r1) := b1
        have b2' : f_X12_must t2 (f_X12_isSign t2 59) = some r2 := b2
        have hbd := bd_BA b3
        refine .inr ⟨r1, r2, fun c hc => ?_, ?_, b3, fQ1_tr a7 (fQ1_5 b4), fQ2_tr a8 (fQ2_7 b5)⟩
        · rw [l_X2_takeAll_14, if_pos (c9 c hc), e1, Option.bind_some, if_neg Bool.false_ne_true, a1, Option.bind_some]
          dsimp only
          rw [if_pos rfl, b1', Option.bind_some]
          dsimp only
          rw [if_neg Bool.false_ne_true]
        · rw [a2, Option.bind_some, b2', Option.bind_some]
          obtain ⟨f, rfl⟩ : ∃ g, f = g + 1 := ⟨f - 1, by omega⟩
          rw [l_X12_district_33, if_neg (bd_eq hbd)]
    · have hbd := bd_BA a3
      refine .inr ⟨t1, t2, fun c hc => ?_, ?_, a3, a4, a5⟩
      · rw [l_X2_takeAll_14, if_pos (c9 c hc), e1, Option.bind_some, if_neg Bool.false_ne_true, a1, Option.bind_some]
        dsimp only
        rw [if_neg Bool.false_ne_true]
      · rw [a2, Option.bind_some, B_must hbd, Option.bind_some]
        obtain ⟨f, rfl⟩ : ∃ g, f = g + 1 := ⟨f - 1, by omega⟩
        rw [l_X12_district_33, if_neg (bd_eq hbd)]
end PRT
