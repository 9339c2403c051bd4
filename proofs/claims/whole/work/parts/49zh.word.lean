/-! texts: what stands here, on both sides; a token taken, or a fault -/
section WRD
variable {s t r s1 s2 t1 t2 : fu_S} {u : Nat → Nat} {n T p q e f k i g v j m lo w : Nat} {x y : Int32} {z : Int64} {b : Bool} {D : dD}
theorem wd_w (h : OK u n T s1 s2 i) (hw : w < 22) : f_X12_isWord s2 (Int64.ofNat (wc w)) = decide (tG u n (tq u n i) = 100 + w) := by
  have h14 := (OK_tok h).2.2.2.2
  obtain ⟨-, -, -, -, -, hS, -⟩ := h
  have hp := wc_pos w hw
  generalize tG u n (tq u n i) = G at *
  unfold f_X12_isWord fu_lt
  rcases hS.2.2 with ⟨z1, z2⟩ | ⟨z1, z2⟩ | ⟨z1, z2, -⟩ | ⟨z1, z2, z3, z4, -, z5⟩ | ⟨z1, z2, z3, -⟩ | ⟨z1, z2, -⟩ | ⟨z1, z2, z3, -⟩
  · rw [if_neg (by rw [z2]; decide), decide_eq_false (by omega)]
  · rw [if_neg (by rw [z2]; decide), decide_eq_false (by omega)]
  · rw [if_neg (by rw [z2]; decide), decide_eq_false (by omega)]
  · rw [if_pos z2, z3, if_neg (fun q => z5 w hw ((j_eq (by omega) (by omega)).mp q).symm), decide_eq_false (by omega)]
  · rw [if_pos z2, z3, if_neg, decide_eq_false (by omega)]
    intro q
    have := congrArg Int64.toInt q
    rw [j_ti (by omega), show (-1 : Int64).toInt = -1 from rfl] at this
    omega
  · rw [if_neg (by rw [z2]; decide), decide_eq_false (by omega)]
  · have hp' := wc_pos (G - 100) (by omega)
    rw [if_pos z2, z3]
    by_cases hg : G = 100 + w
    · rw [decide_eq_true hg, hg, show 100 + w - 100 = w by omega, if_pos rfl]
    · rw [decide_eq_false hg, if_neg]
      intro q
      have := wc_inj (G - 100) (by omega) w hw ((j_eq (by omega) (by omega)).mp q)
      omega
theorem wd_0 (h : OK u n T s1 s2 i) : f_X12_isOdds s2 = decide (tG u n (tq u n i) = 100) := (show f_X12_isOdds s2 = f_X12_isWord s2 (Int64.ofNat (wc 0)) from congrArg (f_X12_isWord s2) (by decide +kernel)).trans (wd_w h (by omega))
theorem wd_1 (h : OK u n T s1 s2 i) : f_X12_isArm s2 = decide (tG u n (tq u n i) = 101) := (show f_X12_isArm s2 = f_X12_isWord s2 (Int64.ofNat (wc 1)) from congrArg (f_X12_isWord s2) (by decide +kernel)).trans (wd_w h (by omega))
theorem wd_2 (h : OK u n T s1 s2 i) : f_X12_isKindWord s2 = decide (tG u n (tq u n i) = 102) := (show f_X12_isKindWord s2 = f_X12_isWord s2 (Int64.ofNat (wc 2)) from congrArg (f_X12_isWord s2) (by decide +kernel)).trans (wd_w h (by omega))
theorem wd_3 (h : OK u n T s1 s2 i) : f_X12_isStepWord s2 = decide (tG u n (tq u n i) = 103) := (show f_X12_isStepWord s2 = f_X12_isWord s2 (Int64.ofNat (wc 3)) from congrArg (f_X12_isWord s2) (by decide +kernel)).trans (wd_w h (by omega))
theorem wd_4 (h : OK u n T s1 s2 i) : f_X12_isSpotWord s2 = decide (tG u n (tq u n i) = 104) := (show f_X12_isSpotWord s2 = f_X12_isWord s2 (Int64.ofNat (wc 4)) from congrArg (f_X12_isWord s2) (by decide +kernel)).trans (wd_w h (by omega))
theorem wd_5 (h : OK u n T s1 s2 i) : f_X12_isWeight s2 = decide (tG u n (tq u n i) = 105) := (show f_X12_isWeight s2 = f_X12_isWord s2 (Int64.ofNat (wc 5)) from congrArg (f_X12_isWord s2) (by decide +kernel)).trans (wd_w h (by omega))
theorem wd_6 (h : OK u n T s1 s2 i) : f_X12_isPerson s2 = decide (tG u n (tq u n i) = 106) := (show f_X12_isPerson s2 = f_X12_isWord s2 (Int64.ofNat (wc 6)) from congrArg (f_X12_isWord s2) (by decide +kernel)).trans (wd_w h (by omega))
theorem wd_7 (h : OK u n T s1 s2 i) : f_X12_isHome s2 = decide (tG u n (tq u n i) = 107) := (show f_X12_isHome s2 = f_X12_isWord s2 (Int64.ofNat (wc 7)) from congrArg (f_X12_isWord s2) (by decide +kernel)).trans (wd_w h (by omega))
theorem wd_8 (h : OK u n T s1 s2 i) : f_X12_isReach s2 = decide (tG u n (tq u n i) = 108) := (show f_X12_isReach s2 = f_X12_isWord s2 (Int64.ofNat (wc 8)) from congrArg (f_X12_isWord s2) (by decide +kernel)).trans (wd_w h (by omega))
theorem wd_9 (h : OK u n T s1 s2 i) : f_X12_isThing s2 = decide (tG u n (tq u n i) = 109) := (show f_X12_isThing s2 = f_X12_isWord s2 (Int64.ofNat (wc 9)) from congrArg (f_X12_isWord s2) (by decide +kernel)).trans (wd_w h (by omega))
theorem wd_10 (h : OK u n T s1 s2 i) : f_X12_isWorth s2 = decide (tG u n (tq u n i) = 110) := (show f_X12_isWorth s2 = f_X12_isWord s2 (Int64.ofNat (wc 10)) from congrArg (f_X12_isWord s2) (by decide +kernel)).trans (wd_w h (by omega))
theorem wd_20 (h : OK u n T s1 s2 i) : f_X12_isEnd s2 = decide (tG u n (tq u n i) = 120) := (show f_X12_isEnd s2 = f_X12_isWord s2 (Int64.ofNat (wc 20)) from congrArg (f_X12_isWord s2) (by decide +kernel)).trans (wd_w h (by omega))
/-- which step a word begins; 7: none -/
def d_sw (G : Nat) : Nat := if G = 112 then 0 else if G = 111 then 1 else if G = 113 then 2 else if G = 114 then 3 else if G = 115 then 4 else if G = 119 then 5 else if G = 121 then 6 else 7
def d_tw (G : Nat) : Nat := if G = 116 then 0 else if G = 117 then 1 else if G = 118 then 2 else 3
def e_s (k m : Nat) : Int32 := if k = m then -1 else Int32.ofNat k
theorem wd_step (h : OK u n T s1 s2 i) : f_X12_stepWord s2 = e_s (d_sw (tG u n (tq u n i))) 7 := by
  have w12 := wd_w h (w := 12) (by omega)
  have w11 := wd_w h (w := 11) (by omega)
  have w13 := wd_w h (w := 13) (by omega)
  have w14 := wd_w h (w := 14) (by omega)
  have w15 := wd_w h (w := 15) (by omega)
  have w19 := wd_w h (w := 19) (by omega)
  have w21 := wd_w h (w := 21) (by omega)
  unfold f_X12_stepWord fu_lt
  rw [show f_X12_spelled 119 97 105 116 0 0 = Int64.ofNat (wc 12) by decide +kernel, show f_X12_spelled 108 111 115 101 0 0 = Int64.ofNat (wc 11) by decide +kernel, show f_X12_spelled 115 99 114 97 116 99 * 32 + 104 - 96 = Int64.ofNat (wc 13) by decide +kernel, show f_X12_spelled 97 110 121 0 0 0 = Int64.ofNat (wc 14) by decide +kernel, show f_X12_spelled 119 104 101 110 0 0 = Int64.ofNat (wc 15) by decide +kernel, show f_X12_spelled 108 111 111 112 0 0 = Int64.ofNat (wc 19) by decide +kernel, show f_X12_spelled 115 116 111 112 0 0 = Int64.ofNat (wc 21) by decide +kernel, w12, w11, w13, w14, w15, w19, w21]
  unfold d_sw
  generalize tG u n (tq u n i) = G at *
  simp only [decide_eq_true_eq, Nat.reduceAdd]
  by_cases a1 : G = 112
  · simp only [if_pos a1]; decide
  · by_cases a2 : G = 111
    · simp only [if_neg a1, if_pos a2]; decide
    · by_cases a3 : G = 113
      · simp only [if_neg a1, if_neg a2, if_pos a3]; decide
      · by_cases a4 : G = 114
        · simp only [if_neg a1, if_neg a2, if_neg a3, if_pos a4]; decide
        · by_cases a5 : G = 115
          · simp only [if_neg a1, if_neg a2, if_neg a3, if_neg a4, if_pos a5]; decide
          · by_cases a6 : G = 119
            · simp only [if_neg a1, if_neg a2, if_neg a3, if_neg a4, if_neg a5, if_pos a6]; decide
            · by_cases a7 : G = 121
              · simp only [if_neg a1, if_neg a2, if_neg a3, if_neg a4, if_neg a5, if_neg a6, if_pos a7]; decide
              · simp only [if_neg a1, if_neg a2, if_neg a3, if_neg a4, if_neg a5, if_neg a6, if_neg a7]; decide
theorem wd_test (h : OK u n T s1 s2 i) : f_X12_testWord s2 = e_s (d_tw (tG u n (tq u n i))) 3 := by
  have w16 := wd_w h (w := 16) (by omega)
  have w17 := wd_w h (w := 17) (by omega)
  have w18 := wd_w h (w := 18) (by omega)
  unfold f_X12_testWord fu_lt
  rw [show f_X12_spelled 102 111 117 110 100 0 = Int64.ofNat (wc 16) by decide +kernel, show f_X12_spelled 117 112 0 0 0 0 = Int64.ofNat (wc 17) by decide +kernel, show f_X12_spelled 109 105 110 117 116 101 = Int64.ofNat (wc 18) by decide +kernel, w16, w17, w18]
  unfold d_tw
  generalize tG u n (tq u n i) = G at *
  simp only [decide_eq_true_eq, Nat.reduceAdd]
  by_cases a1 : G = 116
  · simp only [if_pos a1]; decide
  · by_cases a2 : G = 117
    · simp only [if_neg a1, if_pos a2]; decide
    · by_cases a3 : G = 118
      · simp only [if_neg a1, if_neg a2, if_pos a3]; decide
      · simp only [if_neg a1, if_neg a2, if_neg a3]; decide
theorem tG_lt : tG u n q < 122 := by
  unfold tG
  split
  · omega
  · split
    · split
      · rcases d_ws_ok (c := d_cw u q (d_en c_L u n q - q)) (w := 22) (Nat.le_refl _) with ⟨z, -⟩ | ⟨j, z1, z2, -⟩ <;> omega
      · omega
    · split
      · split <;> omega
      · split <;> omega
theorem wd_kept (h : OK u n T s1 s2 i) (hg : 100 ≤ tG u n (tq u n i)) : f_X12_isKept s2 = true := by
  have hl := tG_lt (u := u) (n := n) (q := tq u n i)
  unfold f_X12_isKept fu_lt
  rw [wd_0 h, wd_1 h, wd_2 h, wd_3 h, wd_4 h, wd_5 h, wd_6 h, wd_7 h, wd_8 h, wd_9 h, wd_10 h, wd_step h, wd_test h, wd_20 h]
  generalize tG u n (tq u n i) = G at *
  have key : ∀ G, 100 ≤ G → G < 122 → (if decide (G = 100) = true then true else if decide (G = 101) = true then true else if decide (G = 102) = true then true else if decide (G = 103) = true then true else if decide (G = 104) = true then true else if decide (G = 105) = true then true else if decide (G = 106) = true then true else if decide (G = 107) = true then true else if decide (G = 108) = true then true else if decide (G = 109) = true then true else if decide (G = 110) = true then true else if e_s (d_sw G) 7 < 0 then if e_s (d_tw G) 3 < 0 then if decide (G = 120) = true then true else false else true else true) = true := by
    intro G h1 h2
    obtain ⟨k, rfl⟩ : ∃ k, G = 100 + k := ⟨G - 100, by omega⟩
    have : ∀ k, k < 22 → (if decide (100 + k = 100) = true then true else if decide (100 + k = 101) = true then true else if decide (100 + k = 102) = true then true else if decide (100 + k = 103) = true then true else if decide (100 + k = 104) = true then true else if decide (100 + k = 105) = true then true else if decide (100 + k = 106) = true then true else if decide (100 + k = 107) = true then true else if decide (100 + k = 108) = true then true else if decide (100 + k = 109) = true then true else if decide (100 + k = 110) = true then true else if e_s (d_sw (100 + k)) 7 < 0 then if e_s (d_tw (100 + k)) 3 < 0 then if decide (100 + k = 120) = true then true else false else true else true) = true := by decide +kernel
    exact this k (by omega)
  exact key G hg hl
theorem wd_kept0 (h : OK u n T s1 s2 i) (hg : tG u n (tq u n i) < 100) : f_X12_isKept s2 = false := by
  unfold f_X12_isKept fu_lt
  have e7 : d_sw (tG u n (tq u n i)) = 7 := by
    unfold d_sw
    rw [if_neg (by omega), if_neg (by omega), if_neg (by omega), if_neg (by omega), if_neg (by omega), if_neg (by omega), if_neg (by omega)]
  have e3 : d_tw (tG u n (tq u n i)) = 3 := by
    unfold d_tw
    rw [if_neg (by omega), if_neg (by omega), if_neg (by omega)]
  rw [wd_0 h, wd_1 h, wd_2 h, wd_3 h, wd_4 h, wd_5 h, wd_6 h, wd_7 h, wd_8 h, wd_9 h, wd_10 h, wd_step h, wd_test h, wd_20 h, e7, e3, decide_eq_false (by omega), decide_eq_false (by omega), decide_eq_false (by omega), decide_eq_false (by omega), decide_eq_false (by omega), decide_eq_false (by omega), decide_eq_false (by omega), decide_eq_false (by omega), decide_eq_false (by omega), decide_eq_false (by omega), decide_eq_false (by omega), decide_eq_false (by omega)]
  decide
theorem wd_name (h : OK u n T s1 s2 i) : f_X12_isName s2 = decide (tG u n (tq u n i) = 3) := by
  have k1 := wd_kept h
  have k0 := wd_kept0 h
  obtain ⟨-, -, -, -, -, hS, -⟩ := h
  generalize tG u n (tq u n i) = G at *
  unfold f_X12_isName fu_lt
  rcases hS.2.2 with ⟨z1, z2⟩ | ⟨z1, z2⟩ | ⟨z1, z2, -⟩ | ⟨z1, z2, z3, z4, ⟨m, z6, z7⟩, z5⟩ | ⟨z1, z2, z3, m, z6, z8, z7⟩ | ⟨z1, z2, -⟩ | ⟨z1, z2, z3, m, z6, z7⟩
  · rw [if_neg (by rw [z2]; decide), decide_eq_false (by omega)]
  · rw [if_neg (by rw [z2]; decide), decide_eq_false (by omega)]
  · rw [if_neg (by rw [z2]; decide), decide_eq_false (by omega)]
  · rw [if_pos z2, z7, if_pos ((i_lel (n := 8) (by omega) (show (8 : Nat) < 2147483648 by omega)).mpr z6), k0 (by omega), if_neg Bool.false_ne_true, decide_eq_true z1]
  · rw [if_pos z2, z7, if_neg (fun q => by have q' : m ≤ 8 := (i_lel (n := 8) (by omega) (show (8 : Nat) < 2147483648 by omega)).mp q; omega), decide_eq_false (by omega)]
  · rw [if_neg (by rw [z2]; decide), decide_eq_false (by omega)]
  · rw [if_pos z2, z7, if_pos ((i_lel (n := 8) (by omega) (show (8 : Nat) < 2147483648 by omega)).mpr z6), k1 (by omega), if_pos rfl, decide_eq_false (by omega)]
theorem wd_sign (h : OK u n T s1 s2 i) (hx : 59 ≤ k ∧ k ≤ 62) : f_X12_isSign s2 (Int32.ofNat k) = decide (tG u n (tq u n i) = k) := by
  obtain ⟨-, -, -, -, -, hS, -⟩ := h
  generalize tG u n (tq u n i) = G at *
  unfold f_X12_isSign fu_lt
  rcases hS.2.2 with ⟨z1, z2⟩ | ⟨z1, z2⟩ | ⟨z1, z2, -⟩ | ⟨z1, z2, -⟩ | ⟨z1, z2, -⟩ | ⟨z1, z2, z3⟩ | ⟨z1, z2, -⟩
  · rw [if_neg (by rw [z2]; decide), decide_eq_false (by omega)]
  · rw [if_neg (by rw [z2]; decide), decide_eq_false (by omega)]
  · rw [if_neg (by rw [z2]; decide), decide_eq_false (by omega)]
  · rw [if_neg (by rw [z2]; decide), decide_eq_false (by omega)]
  · rw [if_neg (by rw [z2]; decide), decide_eq_false (by omega)]
  · rw [if_pos z2, z3]
    by_cases e : G = k
    · rw [if_pos ((i_eq (by omega) (by omega)).mpr e), decide_eq_true e]
    · rw [if_neg (fun q => e ((i_eq (by omega) (by omega)).mp q)), decide_eq_false e]
  · rw [if_neg (by rw [z2]; decide), decide_eq_false (by omega)]
/-- a fault told of what stands here -/
theorem L_amiss (h : OK u n T s1 s2 i) : ∃ t1 t2, f_X8_refuse s1 2 = some (false, t1) ∧ f_X12_amiss s2 = t2 ∧ BA t1 t2 ∧ f5 s1 t1 ∧ f7 s2 t2 := by
  have e1 := OK_ref h (k := 2) (by omega)
  have e2 := fun x => OK_fail (x := x) h
  have e3 := (OK_tok h).1
  have hq := tq_le (u := u) (n := n) (i := i)
  have hn := h.1.2.2.1
  refine ⟨_, fu_pi (fu_pi s2 117 12 (Int32.ofNat (if tG u n (tq u n i) = 1 then 1 else 2))) 117 13 (Int32.ofNat (tq u n i)), e1, ?_, BA_of (by split <;> omega) (by omega), f5_tr (f5_q (by omega)) (f5_q (by omega)), f7_tr (f7_q (by omega)) (f7_q (by omega))⟩
  unfold f_X12_amiss fu_lt
  dsimp only
  rw [e2]
  by_cases hg : tG u n (tq u n i) = 1
  · rw [if_pos (e3.mpr hg), if_pos hg]; rfl
  · rw [if_neg (fun z => hg (e3.mp z)), if_neg hg]; rfl
theorem L_fail (h : OK u n T s1 s2 i) (hg : tG u n (tq u n i) ≠ 1) (hk : 1 ≤ k ∧ k ≤ 7) : ∃ t1 t2, f_X8_refuse s1 (Int32.ofNat k) = some (false, t1) ∧ f_X12_fail s2 (Int32.ofNat k) (s2.1 117 15) = t2 ∧ BA t1 t2 ∧ f5 s1 t1 ∧ f7 s2 t2 := by
  have e1 := OK_ref h (k := k) (by omega)
  rw [if_neg hg] at e1
  have hq := tq_le (u := u) (n := n) (i := i)
  have hn := h.1.2.2.1
  exact ⟨_, _, e1, OK_fail h, BA_of hk (by omega), f5_tr (f5_q (by omega)) (f5_q (by omega)), f7_tr (f7_q (by omega)) (f7_q (by omega))⟩
theorem L_take (h : OK u n T s1 s2 i) (hg : 0 < g ∧ g < 1000) (hb : b = decide (tG u n (tq u n i) = g)) : (tG u n (tq u n i) = g ∧ ∃ t1 t2, f_X8_take s1 (Int32.ofNat g) = some (true, t1) ∧ f_X12_must s2 b = some t2 ∧ OK u n T t1 t2 (i + 1) ∧ f5 s1 t1 ∧ f7 s2 t2) ∨ (∃ t1 t2, f_X8_take s1 (Int32.ofNat g) = some (false, t1) ∧ f_X12_must s2 b = some t2 ∧ BA t1 t2 ∧ f5 s1 t1 ∧ f7 s2 t2) := by
  have e0 := OK_sort h
  have hG := tG_lt (u := u) (n := n) (q := tq u n i)
  have h12 := h.2.2.2.2.2.2
  by_cases hz : tG u n (tq u n i) = g
  · refine .inl ⟨hz, ?_⟩
    obtain ⟨t1, t2, a1, a2, a3, a4, a5⟩ := OK_next h (by omega)
    rw [decide_eq_true hz] at hb
    subst hb
    refine ⟨t1, t2, ?_, ?_, a3, a4, a5⟩
    · unfold f_X8_take
      rw [e0, Option.bind_some, if_pos (congrArg Int32.ofNat hz)]
      unfold fu_lt
      rw [a1]
    · unfold f_X12_must
      rw [h12, if_pos (Int32.le_refl _), if_pos rfl, a2]
      rfl
  · refine .inr ?_
    obtain ⟨t1, t2, a1, a2, a3, a4, a5⟩ := L_amiss h
    rw [decide_eq_false hz] at hb
    subst hb
    refine ⟨t1, t2, ?_, ?_, a3, a4, a5⟩
    · unfold f_X8_take
      rw [e0, Option.bind_some, if_neg (fun z => hz ((i_eq (by omega) (by omega)).mp z)), a1]
      rfl
    · unfold f_X12_must
      rw [h12, if_pos (Int32.le_refl _), if_neg Bool.false_ne_true]
      unfold fu_lt
      rw [a2]
      rfl
/-- must(true), where something stands -/
theorem L_next (h : OK u n T s1 s2 i) (hg : tG u n (tq u n i) ≠ 0) : ∃ t1 t2, f_X8_next s1 = t1 ∧ f_X12_must s2 true = some t2 ∧ OK u n T t1 t2 (i + 1) ∧ f5 s1 t1 ∧ f7 s2 t2 := by
  have h12 := h.2.2.2.2.2.2
  obtain ⟨t1, t2, a1, a2, a3, a4, a5⟩ := OK_next h hg
  refine ⟨t1, t2, a1, ?_, a3, a4, a5⟩
  unfold f_X12_must
  rw [h12, if_pos (Int32.le_refl _), if_pos rfl, a2]
  rfl
theorem L_num (h : OK u n T s1 s2 i) (hlo : lo < 1000) : (tG u n (tq u n i) = 2 ∧ ∃ v, v = tV u n (tq u n i) ∧ lo ≤ v ∧ v ≤ 9999 ∧ Int32.ofNat v ≤ y ∧ ∃ t1 t2, f_X8_takeNumber s1 (Int32.ofNat lo) y = some (Int32.ofNat v, t1) ∧ f_X12_count s2 (Int32.ofNat lo) y = some (Int32.ofNat v, t2) ∧ OK u n T t1 t2 (i + 1) ∧ f5 s1 t1 ∧ f7 s2 t2) ∨ (∃ t1 t2, f_X8_takeNumber s1 (Int32.ofNat lo) y = some (-1, t1) ∧ f_X12_count s2 (Int32.ofNat lo) y = some (0, t2) ∧ BA t1 t2 ∧ f5 s1 t1 ∧ f7 s2 t2) := by
  have e0 := OK_sort h
  have h12 := h.2.2.2.2.2.2
  have htk := (OK_tok h).2.1
  have hG := tG_lt (u := u) (n := n) (q := tq u n i)
  by_cases hg : tG u n (tq u n i) = 2
  · have e1 := OK_val h (.inl hg)
    have hS := h.2.2.2.2.2.1.2.2
    have h17 : s2.1 117 17 = Int32.ofNat (tV u n (tq u n i)) ∧ tV u n (tq u n i) ≤ 9999 := by
      rcases hS with ⟨z1, -⟩ | ⟨z1, -⟩ | ⟨-, -, z3, z4⟩ | ⟨z1, -⟩ | ⟨z1, -⟩ | ⟨z1, -⟩ | ⟨z1, -⟩
      · omega
      · omega
      · exact ⟨z3, z4⟩
      · omega
      · omega
      · omega
      · omega
    generalize hv : tV u n (tq u n i) = v at *
    obtain ⟨h17, hv9⟩ := h17
    have jv : Int64.ofNat v = Int32.toInt64 (Int32.ofNat v) := (j_of (by omega)).symm
    have c1 : (Int64.ofNat v < Int32.toInt64 (Int32.ofNat lo)) ↔ v < lo := by rw [jv, l_lt, i_lt (by omega) (by omega)]
    have c2 : (Int64.ofNat v ≤ Int32.toInt64 y) ↔ Int32.ofNat v ≤ y := by rw [jv, l_le]
    have hin : f_X12_isIn (Int32.toInt64 (s2.1 117 17)) (Int32.toInt64 (Int32.ofNat lo)) (Int32.toInt64 y) = decide (lo ≤ v ∧ Int32.ofNat v ≤ y) := by
      rw [h17]
      have l1 : (Int32.toInt64 (Int32.ofNat v) < Int32.toInt64 (Int32.ofNat lo)) ↔ v < lo := l_lt.trans (i_lt (by omega) (by omega))
      exact (r_isIn _ _ _).trans (decide_eq_decide.mpr ⟨fun z => ⟨Nat.not_lt.mp fun w => z.1 (l1.mpr w), l_le.mp z.2⟩, fun z => ⟨fun w => by have := l1.mp w; omega, l_le.mpr z.2⟩⟩)
    rw [hg] at e0
    replace e0 : f_X8_sortHere s1 = some 2 := e0
    have j32 : Int64.toInt32 (Int64.ofNat v) = Int32.ofNat v := j_32 (by omega)
    by_cases hok : lo ≤ v ∧ Int32.ofNat v ≤ y
    · obtain ⟨t1, t2, a1, a2, a3, a4, a5⟩ := OK_next h (by omega)
      refine .inl ⟨hg, v, rfl, hok.1, hv9, hok.2, t1, t2, ?_, ?_, a3, a4, a5⟩
      · unfold f_X8_takeNumber fu_lt
        rw [e1, Option.bind_some, e0, Option.bind_some, if_pos rfl, if_neg (fun z => by have := c1.mp z; omega), if_pos (c2.mpr hok.2), j32, a1]
      · rw [decide_eq_true hok] at hin
        unfold f_X12_count
        rw [if_pos h12, if_pos (htk.mpr hg), Option.bind_some, if_pos h12, if_pos hin, Option.bind_some, h12, if_pos (Int32.le_refl _), a2, Option.bind_some, h17]
    · obtain ⟨t1, t2, a1, a2, a3, a4, a5⟩ := L_fail h (by omega) (k := 4) (by omega)
      obtain ⟨ff, pl, hb1, -, -, -, hb2, -⟩ := id a3
      refine .inr ⟨t1, t2, ?_, ?_, a3, a4, a5⟩
      · have a1' : f_X8_refuse s1 4 = some (false, t1) := a1
        unfold f_X8_takeNumber fu_lt
        rw [e1, Option.bind_some, e0, Option.bind_some, if_pos rfl]
        by_cases h1 : v < lo
        · rw [if_pos (c1.mpr h1), Option.bind_some, if_pos rfl, Option.bind_some, a1', Option.bind_some]
        · rw [if_neg (fun z => h1 (c1.mp z)), if_neg (fun z => hok ⟨by omega, c2.mp z⟩), Option.bind_some, if_pos rfl, Option.bind_some, a1', Option.bind_some]
      · rw [decide_eq_false hok] at hin
        have a2' : f_X12_fail s2 4 (s2.1 117 15) = t2 := a2
        unfold f_X12_count fu_lt
        rw [if_pos h12, if_pos (htk.mpr hg), Option.bind_some, if_pos h12, hin, if_neg Bool.false_ne_true, a2', Option.bind_some, hb2, if_neg (fun z => by have := (i_le0 (by omega)).mp z; omega)]
  · obtain ⟨y', e1⟩ := OK_valS h
    obtain ⟨t1, t2, a1, a2, a3, a4, a5⟩ := L_amiss h
    obtain ⟨ff, pl, hb1, -, -, -, hb2, -⟩ := id a3
    have hne : ¬ (Int32.ofNat (tG u n (tq u n i)) = 2) := fun z => hg ((i_eq (b := 2) (by omega) (by omega)).mp z)
    refine .inr ⟨t1, t2, ?_, ?_, a3, a4, a5⟩
    · unfold f_X8_takeNumber fu_lt
      rw [e1, Option.bind_some, e0, Option.bind_some, if_neg hne, Option.bind_some, if_neg hne, Option.bind_some, a1, Option.bind_some]
    · have hb3 : ¬ t2.1 117 12 = 0 := by rw [hb2]; exact fun z => by have := (i_eq0 (by omega)).mp z; omega
      unfold f_X12_count fu_lt
      rw [if_pos h12, if_neg (fun z => hg (htk.mp z)), a2, Option.bind_some, if_neg hb3, Option.bind_some, hb2, if_neg (fun z => by have := (i_le0 (by omega)).mp z; omega)]
end WRD
