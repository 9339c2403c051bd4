/-! the law over the list heap, out of what is to be shown of each pair of methods -/
def rl_R (s1 s2 : fu_S) (h : am_H) : Prop := h.length = 128 ∧ (∀ a k, fc_sh a = some k → ∃ c, h[a]? = some c ∧ fu_ok k (s1.1 a) (s1.2 a) c) ∧ ∀ a k, fr_sh a = some k → ∃ c, h[a]? = some c ∧ fu_ok k (s2.1 a) (s2.2 a) c
noncomputable abbrev rl_X (L : Nat) (xs : Nat → Int32) (pc : Nat) (ls st : List Value) (h : am_H) : Option (Option Value × am_H) := am_X (am_ho L xs) (am_D (am_ho L xs) am_m 998) (some .boolean) k_L_law pc ls st h
theorem rl_cs {a : Nat} {k : fu_K} (h : fc_sh a = some k) : a < 117 := (List.getElem?_eq_some_iff.mp h).1
theorem rl_rs {a : Nat} {k : fu_K} (h : fr_sh a = some k) : 117 ≤ a ∧ a < 128 := by
  unfold fr_sh at h
  rw [cond_eq_ite] at h
  split at h
  · cases h
  · rename_i hn
    have h1 := (List.getElem?_eq_some_iff.mp h).1
    have h2 : fr_shl.length = 128 - 117 := rfl
    have h3 : ¬ a < 117 := fun z => hn (Nat.blt_eq.mpr z)
    omega
theorem rl_cn {a : Nat} (h : 117 ≤ a) : fc_sh a = none := List.getElem?_eq_none h
theorem rl_rn {a : Nat} (h : a < 117 ∨ 128 ≤ a) : fr_sh a = none := by
  cases e : fr_sh a with
  | none => rfl
  | some k => have := rl_rs e; omega
theorem rl_len {h h' : am_H} (hl : h.length = 128) (e1 : h'[127]? ≠ none) (e2 : h'[128]? = h[128]?) : h'.length = 128 := by
  rw [List.getElem?_eq_none (show h.length ≤ 128 by omega)] at e2
  have h1 := List.getElem?_eq_none_iff.mp e2
  have h2 : ¬ h'.length ≤ 127 := fun z => e1 (List.getElem?_eq_none z)
  omega
theorem rl_c {s1 s2 t1 : fu_S} {h : am_H} {L : Nat} {xs : Nat → Int32} {d m : Nat} {as : List Value} {v : Option Value} (hR : rl_R s1 s2 h) (e : am_D (fu_ho fc_sh) am_m d m as s1 = some (v, t1)) : ∃ h', am_D (am_ho L xs) am_m d m as h = some (v, h') ∧ rl_R t1 s2 h' := by
  obtain ⟨h', e1, r1, r2⟩ := sm_D (fu_ho_sim (L := L) (xs := xs) (H := h) (sh := fc_sh) (rl_cn (by omega))) d _ _ _ _ _ _ ⟨fun a _ => rfl, hR.2.1⟩ e
  have hfr : ∀ a k, fr_sh a = some k → ∃ c, h'[a]? = some c ∧ fu_ok k (s2.1 a) (s2.2 a) c := fun a k ha => by
    rw [r1 a (rl_cn (rl_rs ha).1)]
    exact hR.2.2 a k ha
  refine ⟨h', e1, rl_len hR.1 ?_ (r1 _ (rl_cn (by omega))), r2, hfr⟩
  obtain ⟨c, hc, -⟩ := hfr 127 _ fr_127
  rw [hc]; exact fun z => by cases z
theorem rl_r {s1 s2 t2 : fu_S} {h : am_H} {L : Nat} {xs : Nat → Int32} {d m : Nat} {as : List Value} {v : Option Value} (hR : rl_R s1 s2 h) (e : am_D (fu_ho fr_sh) am_m d m as s2 = some (v, t2)) : ∃ h', am_D (am_ho L xs) am_m d m as h = some (v, h') ∧ rl_R s1 t2 h' := by
  obtain ⟨h', e1, r1, r2⟩ := sm_D (fu_ho_sim (L := L) (xs := xs) (H := h) (sh := fr_sh) (rl_rn (by omega))) d _ _ _ _ _ _ ⟨fun a _ => rfl, hR.2.2⟩ e
  refine ⟨h', e1, rl_len hR.1 ?_ (r1 _ (rl_rn (by omega))), fun a k ha => ?_, r2⟩
  · obtain ⟨c, hc, -⟩ := r2 127 _ fr_127
    rw [hc]; exact fun z => by cases z
  · rw [r1 a (rl_rn (.inl (rl_cs ha)))]
    exact hR.2.1 a k ha
theorem rl_rvc {s1 s2 : fu_S} {h : am_H} {L : Nat} {xs : Nat → Int32} {p o nL : Nat} {y : MethodName} {rt : Option FieldType} {code : List am_I} (hR : rl_R s1 s2 h) (hm : am_m p = some (y, nL, rt, code, o)) (ho : Nat.beq (am_oc 9) o = true) : am_ho L xs 16 p 0 [.ref 0] h = some ([], h) := by
  obtain ⟨c, e1, fs, rfl, -⟩ := hR.2.1 0 _ fc_0
  simp only [am_ho, hm, e1, ho, cond_true]
theorem rl_rvr {s1 s2 : fu_S} {h : am_H} {L : Nat} {xs : Nat → Int32} {p o nL : Nat} {y : MethodName} {rt : Option FieldType} {code : List am_I} (hR : rl_R s1 s2 h) (hm : am_m p = some (y, nL, rt, code, o)) (ho : Nat.beq (am_oc 10) o = true) : am_ho L xs 16 p 0 [.ref 117] h = some ([], h) := by
  obtain ⟨c, e1, fs, rfl, -⟩ := hR.2.2 117 _ fr_117
  simp only [am_ho, hm, e1, ho, cond_true]
theorem rl_go {η : Type} {ho : Nat → Nat → Nat → List Value → η → Option (List Value × η)} {C : Nat → List Value → η → Option (Option Value × η)} {rt : Option FieldType} {code : List am_I} {pc : Nat} {ls st : List Value} {h : η} {c' : Nat × List Value × List Value × η} {k : Nat} (e : am_go ho code k (pc, ls, st, h) = some c') : am_X ho C rt code pc ls st h = am_X ho C rt code c'.1 c'.2.1 c'.2.2.1 c'.2.2.2 := am_go_X e
section RLX
variable {L : Nat} {xs : Nat → Int32} {C : Nat → List Value → am_H → Option (Option Value × am_H)} {rt : Option FieldType} {code : List am_I} {pc n p q : Nat} {ls st : List Value} {h : am_H} {v : Value}
theorem rl_ld {j : Int32} (hat : am_at code pc = some (.iaload, n, p, q, v)) (hj : am_in j L = true) : am_X (am_ho L xs) C rt code pc ls (.int j :: .ref 2000000 :: st) h = am_X (am_ho L xs) C rt code (pc + n) ls (.int (xs j.toNatClampNeg) :: st) h :=
  am_X_step hat (c' := (pc + n, ls, .int (xs j.toNatClampNeg) :: st, h)) (by
    have e : am_ho L xs 2 p q (.int j :: .ref 2000000 :: st) h = some (.int (xs j.toNatClampNeg) :: st, h) := by
      simp only [am_ho]
      rw [if_pos trivial, if_pos hj]
    simp only [am_step, e])
theorem rl_al (hat : am_at code pc = some (.arraylength, n, p, q, v)) : am_X (am_ho L xs) C rt code pc ls (.ref 2000000 :: st) h = am_X (am_ho L xs) C rt code (pc + n) ls (.int (Int32.ofNat L) :: st) h :=
  am_X_step hat (c' := (pc + n, ls, .int (Int32.ofNat L) :: st, h)) (by
    have e : am_ho L xs 10 p q (.ref 2000000 :: st) h = some (.int (Int32.ofNat L) :: st, h) := by
      simp only [am_ho]
      rw [if_pos trivial]
    simp only [am_step, e])
theorem rl_bool {x : Int32} {f0 g0 : Int} {j n1 p1 q1 n2 q2 n3 p3 q3 : Nat} {v2 : Value} {m1 m0 : Int} (hat : am_at code pc = some (.ifCond .eq f0, n, p, q, v)) (h1 : am_at code (pc + n) = some (.iconst m1, n1, p1, q1, .int 1)) (h2 : am_at code (pc + n + n1) = some (.goto g0, n2, j, q2, v2)) (h3 : am_at code p = some (.iconst m0, n3, p3, q3, .int 0)) (h4 : p + n3 = j) : am_X (am_ho L xs) C rt code pc ls (.int x :: st) h = am_X (am_ho L xs) C rt code j ls (.int (fu_b (!decide (x = 0))) :: st) h := by
  by_cases hx : x = 0
  · rw [am_X_step hat (c' := (p, ls, st, h)) (by simp only [am_step, if_pos hx]), am_X_step h3 (c' := (p + n3, ls, .int 0 :: st, h)) rfl]
    simp [hx, fu_b, h4]
  · rw [am_X_step hat (c' := (pc + n, ls, st, h)) (by simp only [am_step, if_neg hx]), am_X_step h1 (c' := (pc + n + n1, ls, .int 1 :: st, h)) rfl, am_X_step h2 (c' := (j, ls, .int 1 :: st, h)) rfl]
    simp [hx, fu_b]
theorem rl_tsw {d lo hi : Int} {offs : Array Int} {x k : Int32} {t : Nat} (hat : am_at code pc = some (.tableswitch d lo hi offs, n, p, q, v)) (hx : x = k) (hk : fu_tsw pc d lo hi offs k.toInt = some t) : am_X (am_ho L xs) C rt code pc ls (.int x :: st) h = am_X (am_ho L xs) C rt code t ls st h := by
  subst hx
  refine am_X_step hat (c' := (t, ls, st, h)) ?_
  unfold fu_tsw at hk
  simp only [am_step]
  split at hk
  · rename_i h
    cases hk
    rw [if_pos h]
  · rename_i h
    rw [if_neg h]
    cases ho : offs[(x.toInt - lo).toNat]? with
    | none => rw [ho] at hk; cases hk
    | some o => rw [ho] at hk; cases hk; rfl
theorem rl_tswd {d lo hi : Int} {offs : Array Int} {x : Int32} {t : Nat} (keys : List Int) (hat : am_at code pc = some (.tableswitch d lo hi offs, n, p, q, v)) (hk : fu_tswk d lo hi offs keys = true) (hx : ∀ k ∈ keys, ¬ x.toInt = k) (ht : ((pc : Int) + d).toNat = t) : am_X (am_ho L xs) C rt code pc ls (.int x :: st) h = am_X (am_ho L xs) C rt code t ls st h := by
  refine am_X_step hat (c' := (t, ls, st, h)) ?_
  simp only [am_step]
  simp only [fu_tswk, Bool.and_eq_true, decide_eq_true_eq, List.all_eq_true, List.mem_range, Bool.or_eq_true, List.contains_eq_mem] at hk
  obtain ⟨h1, h2⟩ := hk
  split
  · rw [ht]
  · rename_i h
    have h3 : (x.toInt - lo).toNat < offs.size := by omega
    rcases h2 _ h3 with h4 | h4
    · rw [h4]; simp only [ht]
    · refine absurd ?_ (hx _ h4)
      omega
end RLX

set_option maxRecDepth 100000 in
theorem lw_case_0 {I : fu_S → fu_S → Prop} (hE : lw_E_0 I) {L : Nat} {xs : Nat → Int32} {i : Int32} {s1 s2 : fu_S} {h : am_H} (hI : I s1 s2) (hR : rl_R s1 s2 h) : ∃ t1 t2 h1, I t1 t2 ∧ rl_R t1 t2 h1 ∧ rl_X L xs 244 [.ref 2000000, .ref 0, .ref 117, .int i] [] h = rl_X L xs 1770 [.ref 2000000, .ref 0, .ref 117, .int i] [] h1 := by
  obtain ⟨r, t1, t2, hc, hr, hI1⟩ := hE s1 s2 hI 
  have fc : am_D (fu_ho fc_sh) am_m 998 179 [.ref 0] s1 = some (some (.int r), t1) := (by have z := fu_eq (e_X11_status 998 (by omega) s1 ) rfl; rw [hc.1] at z; rw [hc.2]; exact z)
  have fr : am_D (fu_ho fr_sh) am_m 998 234 [.ref 117] s2 = some (some (.int r), t2) := (by have z := fu_eq (e_X12_status 998 (by omega) s2 ) rfl; rw [hr] at z; exact z)
  obtain ⟨ha, ea, hRa⟩ := rl_c (L := L) (xs := xs) hR fc
  obtain ⟨hb, eb, hRb⟩ := rl_r (L := L) (xs := xs) hRa fr
  refine ⟨t1, t2, hb, hI1, hRb, ?_⟩
  refine (rl_go (c' := (245, [.ref 2000000, .ref 0, .ref 117, .int i], [.ref 0], h)) (k := 1) rfl).trans ?_
  refine (fu_cV rfl rfl rfl rfl rfl (rl_rvc hR am_at_X11_status rfl) ea).trans ?_
  show rl_X L xs 248 [.ref 2000000, .ref 0, .ref 117, .int i] [.int r] ha = _
  refine (rl_go (c' := (249, [.ref 2000000, .ref 0, .ref 117, .int i], [.ref 117, .int r], ha)) (k := 1) rfl).trans ?_
  refine (fu_cV rfl rfl rfl rfl rfl (rl_rvr hRa am_at_X12_status rfl) eb).trans ?_
  show rl_X L xs 252 [.ref 2000000, .ref 0, .ref 117, .int i] [.int r, .int r] hb = _
  exact am_X_step (i := .if_icmp .eq 1518) rfl (c' := (1770, [.ref 2000000, .ref 0, .ref 117, .int i], [], hb)) (by simp only [am_step, if_true])
set_option maxRecDepth 100000 in
theorem lw_case_1 {I : fu_S → fu_S → Prop} (hE : lw_E_1 I) {L : Nat} {xs : Nat → Int32} {i : Int32} {s1 s2 : fu_S} {h : am_H} (hI : I s1 s2) (hR : rl_R s1 s2 h) : ∃ t1 t2 h1, I t1 t2 ∧ rl_R t1 t2 h1 ∧ rl_X L xs 257 [.ref 2000000, .ref 0, .ref 117, .int i] [] h = rl_X L xs 1770 [.ref 2000000, .ref 0, .ref 117, .int i] [] h1 := by
  obtain ⟨r, t1, t2, hc, hr, hI1⟩ := hE s1 s2 hI 
  have fc : am_D (fu_ho fc_sh) am_m 998 180 [.ref 0] s1 = some (some (.long r), t1) := (by have z := fu_eq (e_X11_top 998 (by omega) s1 ) rfl; rw [hc.1] at z; rw [hc.2]; exact z)
  have fr : am_D (fu_ho fr_sh) am_m 998 235 [.ref 117] s2 = some (some (.long r), t2) := (by have z := fu_eq (e_X12_top 998 (by omega) s2 ) rfl; rw [hr] at z; exact z)
  obtain ⟨ha, ea, hRa⟩ := rl_c (L := L) (xs := xs) hR fc
  obtain ⟨hb, eb, hRb⟩ := rl_r (L := L) (xs := xs) hRa fr
  refine ⟨t1, t2, hb, hI1, hRb, ?_⟩
  refine (rl_go (c' := (258, [.ref 2000000, .ref 0, .ref 117, .int i], [.ref 0], h)) (k := 1) rfl).trans ?_
  refine (fu_cV rfl rfl rfl rfl rfl (rl_rvc hR am_at_X11_top rfl) ea).trans ?_
  show rl_X L xs 261 [.ref 2000000, .ref 0, .ref 117, .int i] [.long r] ha = _
  refine (rl_go (c' := (262, [.ref 2000000, .ref 0, .ref 117, .int i], [.ref 117, .long r], ha)) (k := 1) rfl).trans ?_
  refine (fu_cV rfl rfl rfl rfl rfl (rl_rvr hRa am_at_X12_top rfl) eb).trans ?_
  show rl_X L xs 265 [.ref 2000000, .ref 0, .ref 117, .int i] [.long r, .long r] hb = _
  refine (rl_go (c' := (266, [.ref 2000000, .ref 0, .ref 117, .int i], [.int (lg_cmp r r)], hb)) (k := 1) rfl).trans ?_
  exact am_X_step (i := .ifCond .eq 1504) rfl (c' := (1770, [.ref 2000000, .ref 0, .ref 117, .int i], [], hb)) (by simp only [am_step, if_pos ((fu_lc0 r r).mpr rfl)])
set_option maxRecDepth 100000 in
theorem lw_case_2 {I : fu_S → fu_S → Prop} (hE : lw_E_2 I) {L : Nat} {xs : Nat → Int32} {i : Int32} {s1 s2 : fu_S} {h : am_H} (hI : I s1 s2) (hR : rl_R s1 s2 h) : ∃ t1 t2 h1, I t1 t2 ∧ rl_R t1 t2 h1 ∧ rl_X L xs 271 [.ref 2000000, .ref 0, .ref 117, .int i] [] h = rl_X L xs 1770 [.ref 2000000, .ref 0, .ref 117, .int i] [] h1 := by
  obtain ⟨r, t1, t2, hc, hr, hI1⟩ := hE s1 s2 hI 
  have fc : am_D (fu_ho fc_sh) am_m 998 181 [.ref 0] s1 = some (some (.long r), t1) := (by have z := fu_eq (e_X11_bottom 998 (by omega) s1 ) rfl; rw [hc.1] at z; rw [hc.2]; exact z)
  have fr : am_D (fu_ho fr_sh) am_m 998 236 [.ref 117] s2 = some (some (.long r), t2) := (by have z := fu_eq (e_X12_bottom 998 (by omega) s2 ) rfl; rw [hr] at z; exact z)
  obtain ⟨ha, ea, hRa⟩ := rl_c (L := L) (xs := xs) hR fc
  obtain ⟨hb, eb, hRb⟩ := rl_r (L := L) (xs := xs) hRa fr
  refine ⟨t1, t2, hb, hI1, hRb, ?_⟩
  refine (rl_go (c' := (272, [.ref 2000000, .ref 0, .ref 117, .int i], [.ref 0], h)) (k := 1) rfl).trans ?_
  refine (fu_cV rfl rfl rfl rfl rfl (rl_rvc hR am_at_X11_bottom rfl) ea).trans ?_
  show rl_X L xs 275 [.ref 2000000, .ref 0, .ref 117, .int i] [.long r] ha = _
  refine (rl_go (c' := (276, [.ref 2000000, .ref 0, .ref 117, .int i], [.ref 117, .long r], ha)) (k := 1) rfl).trans ?_
  refine (fu_cV rfl rfl rfl rfl rfl (rl_rvr hRa am_at_X12_bottom rfl) eb).trans ?_
  show rl_X L xs 279 [.ref 2000000, .ref 0, .ref 117, .int i] [.long r, .long r] hb = _
  refine (rl_go (c' := (280, [.ref 2000000, .ref 0, .ref 117, .int i], [.int (lg_cmp r r)], hb)) (k := 1) rfl).trans ?_
  exact am_X_step (i := .ifCond .eq 1490) rfl (c' := (1770, [.ref 2000000, .ref 0, .ref 117, .int i], [], hb)) (by simp only [am_step, if_pos ((fu_lc0 r r).mpr rfl)])
set_option maxRecDepth 100000 in
theorem lw_case_3 {I : fu_S → fu_S → Prop} (hE : lw_E_3 I) {L : Nat} {xs : Nat → Int32} {i : Int32} {s1 s2 : fu_S} {h : am_H} (hI : I s1 s2) (hR : rl_R s1 s2 h) (h1 : am_in (i + (1 : Int32)) L = true) (h2 : am_in (i + (2 : Int32)) L = true) (h3 : am_in (i + (3 : Int32)) L = true) : ∃ t1 t2 h1, I t1 t2 ∧ rl_R t1 t2 h1 ∧ rl_X L xs 285 [.ref 2000000, .ref 0, .ref 117, .int i] [] h = rl_X L xs 1770 [.ref 2000000, .ref 0, .ref 117, .int i] [] h1 := by
  obtain ⟨r, t1, t2, hc, hr, hI1⟩ := hE s1 s2 hI (xs (Int32.toNatClampNeg (i + (1 : Int32)))) (xs (Int32.toNatClampNeg (i + (2 : Int32)))) (xs (Int32.toNatClampNeg (i + (3 : Int32))))
  have fc : am_D (fu_ho fc_sh) am_m 998 182 [.ref 0, .int (xs (Int32.toNatClampNeg (i + (1 : Int32)))), .int (xs (Int32.toNatClampNeg (i + (2 : Int32)))), .int (xs (Int32.toNatClampNeg (i + (3 : Int32))))] s1 = some (some (.int (fu_b r)), t1) := ((e_X11_tray 998 (by omega) s1 (xs (Int32.toNatClampNeg (i + (1 : Int32)))) (xs (Int32.toNatClampNeg (i + (2 : Int32)))) (xs (Int32.toNatClampNeg (i + (3 : Int32))))) _ hc _ rfl)
  have fr : am_D (fu_ho fr_sh) am_m 998 242 [.ref 117, .int (xs (Int32.toNatClampNeg (i + (1 : Int32)))), .int (xs (Int32.toNatClampNeg (i + (2 : Int32)))), .int (xs (Int32.toNatClampNeg (i + (3 : Int32))))] s2 = some (some (.int (fu_b r)), t2) := ((e_X12_tray 998 (by omega) s2 (xs (Int32.toNatClampNeg (i + (1 : Int32)))) (xs (Int32.toNatClampNeg (i + (2 : Int32)))) (xs (Int32.toNatClampNeg (i + (3 : Int32))))) _ hr _ rfl)
  obtain ⟨ha, ea, hRa⟩ := rl_c (L := L) (xs := xs) hR fc
  obtain ⟨hb, eb, hRb⟩ := rl_r (L := L) (xs := xs) hRa fr
  refine ⟨t1, t2, hb, hI1, hRb, ?_⟩
  refine (rl_go (c' := (290, [.ref 2000000, .ref 0, .ref 117, .int i], [.int (i + (1 : Int32)), .ref 2000000, .ref 0], h)) (k := 5) rfl).trans ?_
  refine (rl_ld rfl h1).trans ?_
  refine (rl_go (c' := (295, [.ref 2000000, .ref 0, .ref 117, .int i], [.int (i + (2 : Int32)), .ref 2000000, .int (xs (Int32.toNatClampNeg (i + (1 : Int32)))), .ref 0], h)) (k := 4) rfl).trans ?_
  refine (rl_ld rfl h2).trans ?_
  refine (rl_go (c' := (300, [.ref 2000000, .ref 0, .ref 117, .int i], [.int (i + (3 : Int32)), .ref 2000000, .int (xs (Int32.toNatClampNeg (i + (2 : Int32)))), .int (xs (Int32.toNatClampNeg (i + (1 : Int32)))), .ref 0], h)) (k := 4) rfl).trans ?_
  refine (rl_ld rfl h3).trans ?_
  refine (fu_cV rfl rfl rfl rfl rfl (rl_rvc hR am_at_X11_tray rfl) ea).trans ?_
  show rl_X L xs 304 [.ref 2000000, .ref 0, .ref 117, .int i] [.int (fu_b r)] ha = _
  refine (rl_go (c' := (309, [.ref 2000000, .ref 0, .ref 117, .int i], [.int (i + (1 : Int32)), .ref 2000000, .ref 117, .int (fu_b r)], ha)) (k := 5) rfl).trans ?_
  refine (rl_ld rfl h1).trans ?_
  refine (rl_go (c' := (314, [.ref 2000000, .ref 0, .ref 117, .int i], [.int (i + (2 : Int32)), .ref 2000000, .int (xs (Int32.toNatClampNeg (i + (1 : Int32)))), .ref 117, .int (fu_b r)], ha)) (k := 4) rfl).trans ?_
  refine (rl_ld rfl h2).trans ?_
  refine (rl_go (c' := (319, [.ref 2000000, .ref 0, .ref 117, .int i], [.int (i + (3 : Int32)), .ref 2000000, .int (xs (Int32.toNatClampNeg (i + (2 : Int32)))), .int (xs (Int32.toNatClampNeg (i + (1 : Int32)))), .ref 117, .int (fu_b r)], ha)) (k := 4) rfl).trans ?_
  refine (rl_ld rfl h3).trans ?_
  refine (fu_cV rfl rfl rfl rfl rfl (rl_rvr hRa am_at_X12_tray rfl) eb).trans ?_
  show rl_X L xs 323 [.ref 2000000, .ref 0, .ref 117, .int i] [.int (fu_b r), .int (fu_b r)] hb = _
  exact am_X_step (i := .if_icmp .eq 1447) rfl (c' := (1770, [.ref 2000000, .ref 0, .ref 117, .int i], [], hb)) (by simp only [am_step, if_true])
set_option maxRecDepth 100000 in
theorem lw_case_4 {I : fu_S → fu_S → Prop} (hE : lw_E_4 I) {L : Nat} {xs : Nat → Int32} {i : Int32} {s1 s2 : fu_S} {h : am_H} (hI : I s1 s2) (hR : rl_R s1 s2 h) (h1 : am_in (i + (1 : Int32)) L = true) (h2 : am_in (i + (2 : Int32)) L = true) (h3 : am_in (i + (3 : Int32)) L = true) (h4 : am_in (i + (4 : Int32)) L = true) : ∃ t1 t2 h1, I t1 t2 ∧ rl_R t1 t2 h1 ∧ rl_X L xs 328 [.ref 2000000, .ref 0, .ref 117, .int i] [] h = rl_X L xs 1770 [.ref 2000000, .ref 0, .ref 117, .int i] [] h1 := by
  obtain ⟨r, t1, t2, hc, hr, hI1⟩ := hE s1 s2 hI (xs (Int32.toNatClampNeg (i + (1 : Int32)))) (xs (Int32.toNatClampNeg (i + (2 : Int32)))) (((Int32.toInt64 (xs (Int32.toNatClampNeg (i + (3 : Int32))))) <<< (Int32.toInt64 (32 : Int32) &&& 63)) ||| ((Int32.toInt64 (xs (Int32.toNatClampNeg (i + (4 : Int32))))) &&& (4294967295 : Int64)))
  have fc : am_D (fu_ho fc_sh) am_m 998 183 [.ref 0, .int (xs (Int32.toNatClampNeg (i + (1 : Int32)))), .int (xs (Int32.toNatClampNeg (i + (2 : Int32)))), .long (((Int32.toInt64 (xs (Int32.toNatClampNeg (i + (3 : Int32))))) <<< (Int32.toInt64 (32 : Int32) &&& 63)) ||| ((Int32.toInt64 (xs (Int32.toNatClampNeg (i + (4 : Int32))))) &&& (4294967295 : Int64)))] s1 = some (some (.int (fu_b r)), t1) := ((e_X11_write 998 (by omega) s1 (xs (Int32.toNatClampNeg (i + (1 : Int32)))) (xs (Int32.toNatClampNeg (i + (2 : Int32)))) (((Int32.toInt64 (xs (Int32.toNatClampNeg (i + (3 : Int32))))) <<< (Int32.toInt64 (32 : Int32) &&& 63)) ||| ((Int32.toInt64 (xs (Int32.toNatClampNeg (i + (4 : Int32))))) &&& (4294967295 : Int64)))) _ hc _ rfl)
  have fr : am_D (fu_ho fr_sh) am_m 998 245 [.ref 117, .int (xs (Int32.toNatClampNeg (i + (1 : Int32)))), .int (xs (Int32.toNatClampNeg (i + (2 : Int32)))), .long (((Int32.toInt64 (xs (Int32.toNatClampNeg (i + (3 : Int32))))) <<< (Int32.toInt64 (32 : Int32) &&& 63)) ||| ((Int32.toInt64 (xs (Int32.toNatClampNeg (i + (4 : Int32))))) &&& (4294967295 : Int64)))] s2 = some (some (.int (fu_b r)), t2) := ((e_X12_write 998 (by omega) s2 (xs (Int32.toNatClampNeg (i + (1 : Int32)))) (xs (Int32.toNatClampNeg (i + (2 : Int32)))) (((Int32.toInt64 (xs (Int32.toNatClampNeg (i + (3 : Int32))))) <<< (Int32.toInt64 (32 : Int32) &&& 63)) ||| ((Int32.toInt64 (xs (Int32.toNatClampNeg (i + (4 : Int32))))) &&& (4294967295 : Int64)))) _ hr _ rfl)
  obtain ⟨ha, ea, hRa⟩ := rl_c (L := L) (xs := xs) hR fc
  obtain ⟨hb, eb, hRb⟩ := rl_r (L := L) (xs := xs) hRa fr
  refine ⟨t1, t2, hb, hI1, hRb, ?_⟩
  refine (rl_go (c' := (333, [.ref 2000000, .ref 0, .ref 117, .int i], [.int (i + (1 : Int32)), .ref 2000000, .ref 0], h)) (k := 5) rfl).trans ?_
  refine (rl_ld rfl h1).trans ?_
  refine (rl_go (c' := (338, [.ref 2000000, .ref 0, .ref 117, .int i], [.int (i + (2 : Int32)), .ref 2000000, .int (xs (Int32.toNatClampNeg (i + (1 : Int32)))), .ref 0], h)) (k := 4) rfl).trans ?_
  refine (rl_ld rfl h2).trans ?_
  refine (rl_go (c' := (343, [.ref 2000000, .ref 0, .ref 117, .int i], [.int (i + (3 : Int32)), .ref 2000000, .int (xs (Int32.toNatClampNeg (i + (2 : Int32)))), .int (xs (Int32.toNatClampNeg (i + (1 : Int32)))), .ref 0], h)) (k := 4) rfl).trans ?_
  refine (rl_ld rfl h3).trans ?_
  refine (rl_go (c' := (352, [.ref 2000000, .ref 0, .ref 117, .int i], [.int (i + (4 : Int32)), .ref 2000000, .long ((Int32.toInt64 (xs (Int32.toNatClampNeg (i + (3 : Int32))))) <<< (Int32.toInt64 (32 : Int32) &&& 63)), .int (xs (Int32.toNatClampNeg (i + (2 : Int32)))), .int (xs (Int32.toNatClampNeg (i + (1 : Int32)))), .ref 0], h)) (k := 7) rfl).trans ?_
  refine (rl_ld rfl h4).trans ?_
  refine (rl_go (c' := (359, [.ref 2000000, .ref 0, .ref 117, .int i], [.long (((Int32.toInt64 (xs (Int32.toNatClampNeg (i + (3 : Int32))))) <<< (Int32.toInt64 (32 : Int32) &&& 63)) ||| ((Int32.toInt64 (xs (Int32.toNatClampNeg (i + (4 : Int32))))) &&& (4294967295 : Int64))), .int (xs (Int32.toNatClampNeg (i + (2 : Int32)))), .int (xs (Int32.toNatClampNeg (i + (1 : Int32)))), .ref 0], h)) (k := 4) rfl).trans ?_
  refine (fu_cV rfl rfl rfl rfl rfl (rl_rvc hR am_at_X11_write rfl) ea).trans ?_
  show rl_X L xs 362 [.ref 2000000, .ref 0, .ref 117, .int i] [.int (fu_b r)] ha = _
  refine (rl_go (c' := (367, [.ref 2000000, .ref 0, .ref 117, .int i], [.int (i + (1 : Int32)), .ref 2000000, .ref 117, .int (fu_b r)], ha)) (k := 5) rfl).trans ?_
  refine (rl_ld rfl h1).trans ?_
  refine (rl_go (c' := (372, [.ref 2000000, .ref 0, .ref 117, .int i], [.int (i + (2 : Int32)), .ref 2000000, .int (xs (Int32.toNatClampNeg (i + (1 : Int32)))), .ref 117, .int (fu_b r)], ha)) (k := 4) rfl).trans ?_
  refine (rl_ld rfl h2).trans ?_
  refine (rl_go (c' := (377, [.ref 2000000, .ref 0, .ref 117, .int i], [.int (i + (3 : Int32)), .ref 2000000, .int (xs (Int32.toNatClampNeg (i + (2 : Int32)))), .int (xs (Int32.toNatClampNeg (i + (1 : Int32)))), .ref 117, .int (fu_b r)], ha)) (k := 4) rfl).trans ?_
  refine (rl_ld rfl h3).trans ?_
  refine (rl_go (c' := (386, [.ref 2000000, .ref 0, .ref 117, .int i], [.int (i + (4 : Int32)), .ref 2000000, .long ((Int32.toInt64 (xs (Int32.toNatClampNeg (i + (3 : Int32))))) <<< (Int32.toInt64 (32 : Int32) &&& 63)), .int (xs (Int32.toNatClampNeg (i + (2 : Int32)))), .int (xs (Int32.toNatClampNeg (i + (1 : Int32)))), .ref 117, .int (fu_b r)], ha)) (k := 7) rfl).trans ?_
  refine (rl_ld rfl h4).trans ?_
  refine (rl_go (c' := (393, [.ref 2000000, .ref 0, .ref 117, .int i], [.long (((Int32.toInt64 (xs (Int32.toNatClampNeg (i + (3 : Int32))))) <<< (Int32.toInt64 (32 : Int32) &&& 63)) ||| ((Int32.toInt64 (xs (Int32.toNatClampNeg (i + (4 : Int32))))) &&& (4294967295 : Int64))), .int (xs (Int32.toNatClampNeg (i + (2 : Int32)))), .int (xs (Int32.toNatClampNeg (i + (1 : Int32)))), .ref 117, .int (fu_b r)], ha)) (k := 4) rfl).trans ?_
  refine (fu_cV rfl rfl rfl rfl rfl (rl_rvr hRa am_at_X12_write rfl) eb).trans ?_
  show rl_X L xs 396 [.ref 2000000, .ref 0, .ref 117, .int i] [.int (fu_b r), .int (fu_b r)] hb = _
  exact am_X_step (i := .if_icmp .eq 1374) rfl (c' := (1770, [.ref 2000000, .ref 0, .ref 117, .int i], [], hb)) (by simp only [am_step, if_true])
set_option maxRecDepth 100000 in
theorem lw_case_5 {I : fu_S → fu_S → Prop} (hE : lw_E_5 I) {L : Nat} {xs : Nat → Int32} {i : Int32} {s1 s2 : fu_S} {h : am_H} (hI : I s1 s2) (hR : rl_R s1 s2 h) (h1 : am_in (i + (1 : Int32)) L = true) (h2 : am_in (i + (2 : Int32)) L = true) : ∃ t1 t2 h1, I t1 t2 ∧ rl_R t1 t2 h1 ∧ rl_X L xs 401 [.ref 2000000, .ref 0, .ref 117, .int i] [] h = rl_X L xs 1770 [.ref 2000000, .ref 0, .ref 117, .int i] [] h1 := by
  obtain ⟨r, t1, t2, hc, hr, hI1⟩ := hE s1 s2 hI (xs (Int32.toNatClampNeg (i + (1 : Int32)))) (xs (Int32.toNatClampNeg (i + (2 : Int32))))
  have fc : am_D (fu_ho fc_sh) am_m 998 184 [.ref 0, .int (xs (Int32.toNatClampNeg (i + (1 : Int32)))), .int (xs (Int32.toNatClampNeg (i + (2 : Int32))))] s1 = some (some (.long r), t1) := ((e_X11_read 998 (by omega) s1 (xs (Int32.toNatClampNeg (i + (1 : Int32)))) (xs (Int32.toNatClampNeg (i + (2 : Int32))))) _ hc _ rfl)
  have fr : am_D (fu_ho fr_sh) am_m 998 246 [.ref 117, .int (xs (Int32.toNatClampNeg (i + (1 : Int32)))), .int (xs (Int32.toNatClampNeg (i + (2 : Int32))))] s2 = some (some (.long r), t2) := ((e_X12_read 998 (by omega) s2 (xs (Int32.toNatClampNeg (i + (1 : Int32)))) (xs (Int32.toNatClampNeg (i + (2 : Int32))))) _ hr _ rfl)
  obtain ⟨ha, ea, hRa⟩ := rl_c (L := L) (xs := xs) hR fc
  obtain ⟨hb, eb, hRb⟩ := rl_r (L := L) (xs := xs) hRa fr
  refine ⟨t1, t2, hb, hI1, hRb, ?_⟩
  refine (rl_go (c' := (406, [.ref 2000000, .ref 0, .ref 117, .int i], [.int (i + (1 : Int32)), .ref 2000000, .ref 0], h)) (k := 5) rfl).trans ?_
  refine (rl_ld rfl h1).trans ?_
  refine (rl_go (c' := (411, [.ref 2000000, .ref 0, .ref 117, .int i], [.int (i + (2 : Int32)), .ref 2000000, .int (xs (Int32.toNatClampNeg (i + (1 : Int32)))), .ref 0], h)) (k := 4) rfl).trans ?_
  refine (rl_ld rfl h2).trans ?_
  refine (fu_cV rfl rfl rfl rfl rfl (rl_rvc hR am_at_X11_read rfl) ea).trans ?_
  show rl_X L xs 415 [.ref 2000000, .ref 0, .ref 117, .int i] [.long r] ha = _
  refine (rl_go (c' := (420, [.ref 2000000, .ref 0, .ref 117, .int i], [.int (i + (1 : Int32)), .ref 2000000, .ref 117, .long r], ha)) (k := 5) rfl).trans ?_
  refine (rl_ld rfl h1).trans ?_
  refine (rl_go (c' := (425, [.ref 2000000, .ref 0, .ref 117, .int i], [.int (i + (2 : Int32)), .ref 2000000, .int (xs (Int32.toNatClampNeg (i + (1 : Int32)))), .ref 117, .long r], ha)) (k := 4) rfl).trans ?_
  refine (rl_ld rfl h2).trans ?_
  refine (fu_cV rfl rfl rfl rfl rfl (rl_rvr hRa am_at_X12_read rfl) eb).trans ?_
  show rl_X L xs 429 [.ref 2000000, .ref 0, .ref 117, .int i] [.long r, .long r] hb = _
  refine (rl_go (c' := (430, [.ref 2000000, .ref 0, .ref 117, .int i], [.int (lg_cmp r r)], hb)) (k := 1) rfl).trans ?_
  exact am_X_step (i := .ifCond .eq 1340) rfl (c' := (1770, [.ref 2000000, .ref 0, .ref 117, .int i], [], hb)) (by simp only [am_step, if_pos ((fu_lc0 r r).mpr rfl)])
set_option maxRecDepth 100000 in
theorem lw_case_6 {I : fu_S → fu_S → Prop} (hE : lw_E_6 I) {L : Nat} {xs : Nat → Int32} {i : Int32} {s1 s2 : fu_S} {h : am_H} (hI : I s1 s2) (hR : rl_R s1 s2 h) (h1 : am_in (i + (1 : Int32)) L = true) (h2 : am_in (i + (2 : Int32)) L = true) (h3 : am_in (i + (3 : Int32)) L = true) (h4 : am_in (i + (4 : Int32)) L = true) (h5 : am_in (i + (5 : Int32)) L = true) : ∃ t1 t2 h1, I t1 t2 ∧ rl_R t1 t2 h1 ∧ rl_X L xs 435 [.ref 2000000, .ref 0, .ref 117, .int i] [] h = rl_X L xs 1770 [.ref 2000000, .ref 0, .ref 117, .int i] [] h1 := by
  obtain ⟨r, t1, t2, hc, hr, hI1⟩ := hE s1 s2 hI (xs (Int32.toNatClampNeg (i + (1 : Int32)))) (xs (Int32.toNatClampNeg (i + (2 : Int32)))) (xs (Int32.toNatClampNeg (i + (3 : Int32)))) (xs (Int32.toNatClampNeg (i + (4 : Int32)))) (xs (Int32.toNatClampNeg (i + (5 : Int32))))
  have fc : am_D (fu_ho fc_sh) am_m 998 186 [.ref 0, .int (xs (Int32.toNatClampNeg (i + (1 : Int32)))), .int (xs (Int32.toNatClampNeg (i + (2 : Int32)))), .int (xs (Int32.toNatClampNeg (i + (3 : Int32)))), .int (xs (Int32.toNatClampNeg (i + (4 : Int32)))), .int (xs (Int32.toNatClampNeg (i + (5 : Int32))))] s1 = some (some (.int (fu_b r)), t1) := ((e_X11_pour 998 (by omega) s1 (xs (Int32.toNatClampNeg (i + (1 : Int32)))) (xs (Int32.toNatClampNeg (i + (2 : Int32)))) (xs (Int32.toNatClampNeg (i + (3 : Int32)))) (xs (Int32.toNatClampNeg (i + (4 : Int32)))) (xs (Int32.toNatClampNeg (i + (5 : Int32))))) _ hc _ rfl)
  have fr : am_D (fu_ho fr_sh) am_m 998 247 [.ref 117, .int (xs (Int32.toNatClampNeg (i + (1 : Int32)))), .int (xs (Int32.toNatClampNeg (i + (2 : Int32)))), .int (xs (Int32.toNatClampNeg (i + (3 : Int32)))), .int (xs (Int32.toNatClampNeg (i + (4 : Int32)))), .int (xs (Int32.toNatClampNeg (i + (5 : Int32))))] s2 = some (some (.int (fu_b r)), t2) := ((e_X12_pour 998 (by omega) s2 (xs (Int32.toNatClampNeg (i + (1 : Int32)))) (xs (Int32.toNatClampNeg (i + (2 : Int32)))) (xs (Int32.toNatClampNeg (i + (3 : Int32)))) (xs (Int32.toNatClampNeg (i + (4 : Int32)))) (xs (Int32.toNatClampNeg (i + (5 : Int32))))) _ hr _ rfl)
  obtain ⟨ha, ea, hRa⟩ := rl_c (L := L) (xs := xs) hR fc
  obtain ⟨hb, eb, hRb⟩ := rl_r (L := L) (xs := xs) hRa fr
  refine ⟨t1, t2, hb, hI1, hRb, ?_⟩
  refine (rl_go (c' := (440, [.ref 2000000, .ref 0, .ref 117, .int i], [.int (i + (1 : Int32)), .ref 2000000, .ref 0], h)) (k := 5) rfl).trans ?_
  refine (rl_ld rfl h1).trans ?_
  refine (rl_go (c' := (445, [.ref 2000000, .ref 0, .ref 117, .int i], [.int (i + (2 : Int32)), .ref 2000000, .int (xs (Int32.toNatClampNeg (i + (1 : Int32)))), .ref 0], h)) (k := 4) rfl).trans ?_
  refine (rl_ld rfl h2).trans ?_
  refine (rl_go (c' := (450, [.ref 2000000, .ref 0, .ref 117, .int i], [.int (i + (3 : Int32)), .ref 2000000, .int (xs (Int32.toNatClampNeg (i + (2 : Int32)))), .int (xs (Int32.toNatClampNeg (i + (1 : Int32)))), .ref 0], h)) (k := 4) rfl).trans ?_
  refine (rl_ld rfl h3).trans ?_
  refine (rl_go (c' := (455, [.ref 2000000, .ref 0, .ref 117, .int i], [.int (i + (4 : Int32)), .ref 2000000, .int (xs (Int32.toNatClampNeg (i + (3 : Int32)))), .int (xs (Int32.toNatClampNeg (i + (2 : Int32)))), .int (xs (Int32.toNatClampNeg (i + (1 : Int32)))), .ref 0], h)) (k := 4) rfl).trans ?_
  refine (rl_ld rfl h4).trans ?_
  refine (rl_go (c' := (460, [.ref 2000000, .ref 0, .ref 117, .int i], [.int (i + (5 : Int32)), .ref 2000000, .int (xs (Int32.toNatClampNeg (i + (4 : Int32)))), .int (xs (Int32.toNatClampNeg (i + (3 : Int32)))), .int (xs (Int32.toNatClampNeg (i + (2 : Int32)))), .int (xs (Int32.toNatClampNeg (i + (1 : Int32)))), .ref 0], h)) (k := 4) rfl).trans ?_
  refine (rl_ld rfl h5).trans ?_
  refine (fu_cV rfl rfl rfl rfl rfl (rl_rvc hR am_at_X11_pour rfl) ea).trans ?_
  show rl_X L xs 464 [.ref 2000000, .ref 0, .ref 117, .int i] [.int (fu_b r)] ha = _
  refine (rl_go (c' := (469, [.ref 2000000, .ref 0, .ref 117, .int i], [.int (i + (1 : Int32)), .ref 2000000, .ref 117, .int (fu_b r)], ha)) (k := 5) rfl).trans ?_
  refine (rl_ld rfl h1).trans ?_
  refine (rl_go (c' := (474, [.ref 2000000, .ref 0, .ref 117, .int i], [.int (i + (2 : Int32)), .ref 2000000, .int (xs (Int32.toNatClampNeg (i + (1 : Int32)))), .ref 117, .int (fu_b r)], ha)) (k := 4) rfl).trans ?_
  refine (rl_ld rfl h2).trans ?_
  refine (rl_go (c' := (479, [.ref 2000000, .ref 0, .ref 117, .int i], [.int (i + (3 : Int32)), .ref 2000000, .int (xs (Int32.toNatClampNeg (i + (2 : Int32)))), .int (xs (Int32.toNatClampNeg (i + (1 : Int32)))), .ref 117, .int (fu_b r)], ha)) (k := 4) rfl).trans ?_
  refine (rl_ld rfl h3).trans ?_
  refine (rl_go (c' := (484, [.ref 2000000, .ref 0, .ref 117, .int i], [.int (i + (4 : Int32)), .ref 2000000, .int (xs (Int32.toNatClampNeg (i + (3 : Int32)))), .int (xs (Int32.toNatClampNeg (i + (2 : Int32)))), .int (xs (Int32.toNatClampNeg (i + (1 : Int32)))), .ref 117, .int (fu_b r)], ha)) (k := 4) rfl).trans ?_
  refine (rl_ld rfl h4).trans ?_
  refine (rl_go (c' := (489, [.ref 2000000, .ref 0, .ref 117, .int i], [.int (i + (5 : Int32)), .ref 2000000, .int (xs (Int32.toNatClampNeg (i + (4 : Int32)))), .int (xs (Int32.toNatClampNeg (i + (3 : Int32)))), .int (xs (Int32.toNatClampNeg (i + (2 : Int32)))), .int (xs (Int32.toNatClampNeg (i + (1 : Int32)))), .ref 117, .int (fu_b r)], ha)) (k := 4) rfl).trans ?_
  refine (rl_ld rfl h5).trans ?_
  refine (fu_cV rfl rfl rfl rfl rfl (rl_rvr hRa am_at_X12_pour rfl) eb).trans ?_
  show rl_X L xs 493 [.ref 2000000, .ref 0, .ref 117, .int i] [.int (fu_b r), .int (fu_b r)] hb = _
  exact am_X_step (i := .if_icmp .eq 1277) rfl (c' := (1770, [.ref 2000000, .ref 0, .ref 117, .int i], [], hb)) (by simp only [am_step, if_true])
set_option maxRecDepth 100000 in
theorem lw_case_7 {I : fu_S → fu_S → Prop} (hE : lw_E_7 I) {L : Nat} {xs : Nat → Int32} {i : Int32} {s1 s2 : fu_S} {h : am_H} (hI : I s1 s2) (hR : rl_R s1 s2 h) (h1 : am_in (i + (1 : Int32)) L = true) (h2 : am_in (i + (2 : Int32)) L = true) (h3 : am_in (i + (3 : Int32)) L = true) (h4 : am_in (i + (4 : Int32)) L = true) (h5 : am_in (i + (5 : Int32)) L = true) : ∃ t1 t2 h1, I t1 t2 ∧ rl_R t1 t2 h1 ∧ rl_X L xs 498 [.ref 2000000, .ref 0, .ref 117, .int i] [] h = rl_X L xs 1770 [.ref 2000000, .ref 0, .ref 117, .int i] [] h1 := by
  obtain ⟨r, t1, t2, hc, hr, hI1⟩ := hE s1 s2 hI (xs (Int32.toNatClampNeg (i + (1 : Int32)))) (xs (Int32.toNatClampNeg (i + (2 : Int32)))) (xs (Int32.toNatClampNeg (i + (3 : Int32)))) (xs (Int32.toNatClampNeg (i + (4 : Int32)))) (xs (Int32.toNatClampNeg (i + (5 : Int32))))
  have fc : am_D (fu_ho fc_sh) am_m 998 187 [.ref 0, .int (xs (Int32.toNatClampNeg (i + (1 : Int32)))), .int (xs (Int32.toNatClampNeg (i + (2 : Int32)))), .int (xs (Int32.toNatClampNeg (i + (3 : Int32)))), .int (xs (Int32.toNatClampNeg (i + (4 : Int32)))), .int (xs (Int32.toNatClampNeg (i + (5 : Int32))))] s1 = some (some (.int r), t1) := ((e_X11_feed 998 (by omega) s1 (xs (Int32.toNatClampNeg (i + (1 : Int32)))) (xs (Int32.toNatClampNeg (i + (2 : Int32)))) (xs (Int32.toNatClampNeg (i + (3 : Int32)))) (xs (Int32.toNatClampNeg (i + (4 : Int32)))) (xs (Int32.toNatClampNeg (i + (5 : Int32))))) _ hc _ rfl)
  have fr : am_D (fu_ho fr_sh) am_m 998 282 [.ref 117, .int (xs (Int32.toNatClampNeg (i + (1 : Int32)))), .int (xs (Int32.toNatClampNeg (i + (2 : Int32)))), .int (xs (Int32.toNatClampNeg (i + (3 : Int32)))), .int (xs (Int32.toNatClampNeg (i + (4 : Int32)))), .int (xs (Int32.toNatClampNeg (i + (5 : Int32))))] s2 = some (some (.int r), t2) := ((e_X12_feed 998 (by omega) s2 (xs (Int32.toNatClampNeg (i + (1 : Int32)))) (xs (Int32.toNatClampNeg (i + (2 : Int32)))) (xs (Int32.toNatClampNeg (i + (3 : Int32)))) (xs (Int32.toNatClampNeg (i + (4 : Int32)))) (xs (Int32.toNatClampNeg (i + (5 : Int32))))) _ hr _ rfl)
  obtain ⟨ha, ea, hRa⟩ := rl_c (L := L) (xs := xs) hR fc
  obtain ⟨hb, eb, hRb⟩ := rl_r (L := L) (xs := xs) hRa fr
  refine ⟨t1, t2, hb, hI1, hRb, ?_⟩
  refine (rl_go (c' := (503, [.ref 2000000, .ref 0, .ref 117, .int i], [.int (i + (1 : Int32)), .ref 2000000, .ref 0], h)) (k := 5) rfl).trans ?_
  refine (rl_ld rfl h1).trans ?_
  refine (rl_go (c' := (508, [.ref 2000000, .ref 0, .ref 117, .int i], [.int (i + (2 : Int32)), .ref 2000000, .int (xs (Int32.toNatClampNeg (i + (1 : Int32)))), .ref 0], h)) (k := 4) rfl).trans ?_
  refine (rl_ld rfl h2).trans ?_
  refine (rl_go (c' := (513, [.ref 2000000, .ref 0, .ref 117, .int i], [.int (i + (3 : Int32)), .ref 2000000, .int (xs (Int32.toNatClampNeg (i + (2 : Int32)))), .int (xs (Int32.toNatClampNeg (i + (1 : Int32)))), .ref 0], h)) (k := 4) rfl).trans ?_
  refine (rl_ld rfl h3).trans ?_
  refine (rl_go (c' := (518, [.ref 2000000, .ref 0, .ref 117, .int i], [.int (i + (4 : Int32)), .ref 2000000, .int (xs (Int32.toNatClampNeg (i + (3 : Int32)))), .int (xs (Int32.toNatClampNeg (i + (2 : Int32)))), .int (xs (Int32.toNatClampNeg (i + (1 : Int32)))), .ref 0], h)) (k := 4) rfl).trans ?_
  refine (rl_ld rfl h4).trans ?_
  refine (rl_go (c' := (523, [.ref 2000000, .ref 0, .ref 117, .int i], [.int (i + (5 : Int32)), .ref 2000000, .int (xs (Int32.toNatClampNeg (i + (4 : Int32)))), .int (xs (Int32.toNatClampNeg (i + (3 : Int32)))), .int (xs (Int32.toNatClampNeg (i + (2 : Int32)))), .int (xs (Int32.toNatClampNeg (i + (1 : Int32)))), .ref 0], h)) (k := 4) rfl).trans ?_
  refine (rl_ld rfl h5).trans ?_
  refine (fu_cV rfl rfl rfl rfl rfl (rl_rvc hR am_at_X11_feed rfl) ea).trans ?_
  show rl_X L xs 527 [.ref 2000000, .ref 0, .ref 117, .int i] [.int r] ha = _
  refine (rl_go (c' := (532, [.ref 2000000, .ref 0, .ref 117, .int i], [.int (i + (1 : Int32)), .ref 2000000, .ref 117, .int r], ha)) (k := 5) rfl).trans ?_
  refine (rl_ld rfl h1).trans ?_
  refine (rl_go (c' := (537, [.ref 2000000, .ref 0, .ref 117, .int i], [.int (i + (2 : Int32)), .ref 2000000, .int (xs (Int32.toNatClampNeg (i + (1 : Int32)))), .ref 117, .int r], ha)) (k := 4) rfl).trans ?_
  refine (rl_ld rfl h2).trans ?_
  refine (rl_go (c' := (542, [.ref 2000000, .ref 0, .ref 117, .int i], [.int (i + (3 : Int32)), .ref 2000000, .int (xs (Int32.toNatClampNeg (i + (2 : Int32)))), .int (xs (Int32.toNatClampNeg (i + (1 : Int32)))), .ref 117, .int r], ha)) (k := 4) rfl).trans ?_
  refine (rl_ld rfl h3).trans ?_
  refine (rl_go (c' := (547, [.ref 2000000, .ref 0, .ref 117, .int i], [.int (i + (4 : Int32)), .ref 2000000, .int (xs (Int32.toNatClampNeg (i + (3 : Int32)))), .int (xs (Int32.toNatClampNeg (i + (2 : Int32)))), .int (xs (Int32.toNatClampNeg (i + (1 : Int32)))), .ref 117, .int r], ha)) (k := 4) rfl).trans ?_
  refine (rl_ld rfl h4).trans ?_
  refine (rl_go (c' := (552, [.ref 2000000, .ref 0, .ref 117, .int i], [.int (i + (5 : Int32)), .ref 2000000, .int (xs (Int32.toNatClampNeg (i + (4 : Int32)))), .int (xs (Int32.toNatClampNeg (i + (3 : Int32)))), .int (xs (Int32.toNatClampNeg (i + (2 : Int32)))), .int (xs (Int32.toNatClampNeg (i + (1 : Int32)))), .ref 117, .int r], ha)) (k := 4) rfl).trans ?_
  refine (rl_ld rfl h5).trans ?_
  refine (fu_cV rfl rfl rfl rfl rfl (rl_rvr hRa am_at_X12_feed rfl) eb).trans ?_
  show rl_X L xs 556 [.ref 2000000, .ref 0, .ref 117, .int i] [.int r, .int r] hb = _
  exact am_X_step (i := .if_icmp .eq 1214) rfl (c' := (1770, [.ref 2000000, .ref 0, .ref 117, .int i], [], hb)) (by simp only [am_step, if_true])
set_option maxRecDepth 100000 in
theorem lw_case_8 {I : fu_S → fu_S → Prop} (hE : lw_E_8 I) {L : Nat} {xs : Nat → Int32} {i : Int32} {s1 s2 : fu_S} {h : am_H} (hI : I s1 s2) (hR : rl_R s1 s2 h) (h1 : am_in (i + (1 : Int32)) L = true) : ∃ t1 t2 h1, I t1 t2 ∧ rl_R t1 t2 h1 ∧ rl_X L xs 561 [.ref 2000000, .ref 0, .ref 117, .int i] [] h = rl_X L xs 1770 [.ref 2000000, .ref 0, .ref 117, .int i] [] h1 := by
  obtain ⟨r, t1, t2, hc, hr, hI1⟩ := hE s1 s2 hI (xs (Int32.toNatClampNeg (i + (1 : Int32))))
  have fc : am_D (fu_ho fc_sh) am_m 998 188 [.ref 0, .int (xs (Int32.toNatClampNeg (i + (1 : Int32))))] s1 = some (some (.int r), t1) := ((e_X11_district 998 (by omega) s1 (xs (Int32.toNatClampNeg (i + (1 : Int32))))) _ hc _ rfl)
  have fr : am_D (fu_ho fr_sh) am_m 998 297 [.ref 117, .int (xs (Int32.toNatClampNeg (i + (1 : Int32))))] s2 = some (some (.int r), t2) := ((e_X12_district 998 (by omega) s2 (xs (Int32.toNatClampNeg (i + (1 : Int32))))) _ hr _ rfl)
  obtain ⟨ha, ea, hRa⟩ := rl_c (L := L) (xs := xs) hR fc
  obtain ⟨hb, eb, hRb⟩ := rl_r (L := L) (xs := xs) hRa fr
  refine ⟨t1, t2, hb, hI1, hRb, ?_⟩
  refine (rl_go (c' := (566, [.ref 2000000, .ref 0, .ref 117, .int i], [.int (i + (1 : Int32)), .ref 2000000, .ref 0], h)) (k := 5) rfl).trans ?_
  refine (rl_ld rfl h1).trans ?_
  refine (fu_cV rfl rfl rfl rfl rfl (rl_rvc hR am_at_X11_district rfl) ea).trans ?_
  show rl_X L xs 570 [.ref 2000000, .ref 0, .ref 117, .int i] [.int r] ha = _
  refine (rl_go (c' := (575, [.ref 2000000, .ref 0, .ref 117, .int i], [.int (i + (1 : Int32)), .ref 2000000, .ref 117, .int r], ha)) (k := 5) rfl).trans ?_
  refine (rl_ld rfl h1).trans ?_
  refine (fu_cV rfl rfl rfl rfl rfl (rl_rvr hRa am_at_X12_district rfl) eb).trans ?_
  show rl_X L xs 579 [.ref 2000000, .ref 0, .ref 117, .int i] [.int r, .int r] hb = _
  exact am_X_step (i := .if_icmp .eq 1191) rfl (c' := (1770, [.ref 2000000, .ref 0, .ref 117, .int i], [], hb)) (by simp only [am_step, if_true])
set_option maxRecDepth 100000 in
theorem lw_case_9 {I : fu_S → fu_S → Prop} (hE : lw_E_9 I) {L : Nat} {xs : Nat → Int32} {i : Int32} {s1 s2 : fu_S} {h : am_H} (hI : I s1 s2) (hR : rl_R s1 s2 h) (h1 : am_in (i + (1 : Int32)) L = true) : ∃ t1 t2 h1, I t1 t2 ∧ rl_R t1 t2 h1 ∧ rl_X L xs 584 [.ref 2000000, .ref 0, .ref 117, .int i] [] h = rl_X L xs 1770 [.ref 2000000, .ref 0, .ref 117, .int i] [] h1 := by
  obtain ⟨r, t1, t2, hc, hr, hI1⟩ := hE s1 s2 hI (xs (Int32.toNatClampNeg (i + (1 : Int32))))
  have fc : am_D (fu_ho fc_sh) am_m 998 189 [.ref 0, .int (xs (Int32.toNatClampNeg (i + (1 : Int32))))] s1 = some (some (.int r), t1) := ((e_X11_days 998 (by omega) s1 (xs (Int32.toNatClampNeg (i + (1 : Int32))))) _ hc _ rfl)
  have fr : am_D (fu_ho fr_sh) am_m 998 301 [.ref 117, .int (xs (Int32.toNatClampNeg (i + (1 : Int32))))] s2 = some (some (.int r), t2) := ((e_X12_days 998 (by omega) s2 (xs (Int32.toNatClampNeg (i + (1 : Int32))))) _ hr _ rfl)
  obtain ⟨ha, ea, hRa⟩ := rl_c (L := L) (xs := xs) hR fc
  obtain ⟨hb, eb, hRb⟩ := rl_r (L := L) (xs := xs) hRa fr
  refine ⟨t1, t2, hb, hI1, hRb, ?_⟩
  refine (rl_go (c' := (589, [.ref 2000000, .ref 0, .ref 117, .int i], [.int (i + (1 : Int32)), .ref 2000000, .ref 0], h)) (k := 5) rfl).trans ?_
  refine (rl_ld rfl h1).trans ?_
  refine (fu_cV rfl rfl rfl rfl rfl (rl_rvc hR am_at_X11_days rfl) ea).trans ?_
  show rl_X L xs 593 [.ref 2000000, .ref 0, .ref 117, .int i] [.int r] ha = _
  refine (rl_go (c' := (598, [.ref 2000000, .ref 0, .ref 117, .int i], [.int (i + (1 : Int32)), .ref 2000000, .ref 117, .int r], ha)) (k := 5) rfl).trans ?_
  refine (rl_ld rfl h1).trans ?_
  refine (fu_cV rfl rfl rfl rfl rfl (rl_rvr hRa am_at_X12_days rfl) eb).trans ?_
  show rl_X L xs 602 [.ref 2000000, .ref 0, .ref 117, .int i] [.int r, .int r] hb = _
  exact am_X_step (i := .if_icmp .eq 1168) rfl (c' := (1770, [.ref 2000000, .ref 0, .ref 117, .int i], [], hb)) (by simp only [am_step, if_true])
set_option maxRecDepth 100000 in
theorem lw_case_10 {I : fu_S → fu_S → Prop} (hE : lw_E_10 I) {L : Nat} {xs : Nat → Int32} {i : Int32} {s1 s2 : fu_S} {h : am_H} (hI : I s1 s2) (hR : rl_R s1 s2 h) (h1 : am_in (i + (1 : Int32)) L = true) : ∃ t1 t2 h1, I t1 t2 ∧ rl_R t1 t2 h1 ∧ rl_X L xs 607 [.ref 2000000, .ref 0, .ref 117, .int i] [] h = rl_X L xs 1770 [.ref 2000000, .ref 0, .ref 117, .int i] [] h1 := by
  obtain ⟨r, t1, t2, hc, hr, hI1⟩ := hE s1 s2 hI (xs (Int32.toNatClampNeg (i + (1 : Int32))))
  have fc : am_D (fu_ho fc_sh) am_m 998 190 [.ref 0, .int (xs (Int32.toNatClampNeg (i + (1 : Int32))))] s1 = some (some (.int r), t1) := (by have z := fu_eq (e_X11_fault 998 (by omega) s1 (xs (Int32.toNatClampNeg (i + (1 : Int32))))) rfl; rw [hc.1] at z; rw [hc.2]; exact z)
  have fr : am_D (fu_ho fr_sh) am_m 998 286 [.ref 117, .int (xs (Int32.toNatClampNeg (i + (1 : Int32))))] s2 = some (some (.int r), t2) := (by have z := fu_eq (e_X12_fault 998 (by omega) s2 (xs (Int32.toNatClampNeg (i + (1 : Int32))))) rfl; rw [hr] at z; exact z)
  obtain ⟨ha, ea, hRa⟩ := rl_c (L := L) (xs := xs) hR fc
  obtain ⟨hb, eb, hRb⟩ := rl_r (L := L) (xs := xs) hRa fr
  refine ⟨t1, t2, hb, hI1, hRb, ?_⟩
  refine (rl_go (c' := (612, [.ref 2000000, .ref 0, .ref 117, .int i], [.int (i + (1 : Int32)), .ref 2000000, .ref 0], h)) (k := 5) rfl).trans ?_
  refine (rl_ld rfl h1).trans ?_
  refine (fu_cV rfl rfl rfl rfl rfl (rl_rvc hR am_at_X11_fault rfl) ea).trans ?_
  show rl_X L xs 616 [.ref 2000000, .ref 0, .ref 117, .int i] [.int r] ha = _
  refine (rl_go (c' := (621, [.ref 2000000, .ref 0, .ref 117, .int i], [.int (i + (1 : Int32)), .ref 2000000, .ref 117, .int r], ha)) (k := 5) rfl).trans ?_
  refine (rl_ld rfl h1).trans ?_
  refine (fu_cV rfl rfl rfl rfl rfl (rl_rvr hRa am_at_X12_fault rfl) eb).trans ?_
  show rl_X L xs 625 [.ref 2000000, .ref 0, .ref 117, .int i] [.int r, .int r] hb = _
  exact am_X_step (i := .if_icmp .eq 1145) rfl (c' := (1770, [.ref 2000000, .ref 0, .ref 117, .int i], [], hb)) (by simp only [am_step, if_true])
set_option maxRecDepth 100000 in
theorem lw_case_11 {I : fu_S → fu_S → Prop} (hE : lw_E_11 I) {L : Nat} {xs : Nat → Int32} {i : Int32} {s1 s2 : fu_S} {h : am_H} (hI : I s1 s2) (hR : rl_R s1 s2 h) (h1 : am_in (i + (1 : Int32)) L = true) : ∃ t1 t2 h1, I t1 t2 ∧ rl_R t1 t2 h1 ∧ rl_X L xs 630 [.ref 2000000, .ref 0, .ref 117, .int i] [] h = rl_X L xs 1770 [.ref 2000000, .ref 0, .ref 117, .int i] [] h1 := by
  obtain ⟨r, t1, t2, hc, hr, hI1⟩ := hE s1 s2 hI (xs (Int32.toNatClampNeg (i + (1 : Int32))))
  have fc : am_D (fu_ho fc_sh) am_m 998 191 [.ref 0, .int (xs (Int32.toNatClampNeg (i + (1 : Int32))))] s1 = some (some (.int r), t1) := ((e_X11_many 998 (by omega) s1 (xs (Int32.toNatClampNeg (i + (1 : Int32))))) _ hc _ rfl)
  have fr : am_D (fu_ho fr_sh) am_m 998 319 [.ref 117, .int (xs (Int32.toNatClampNeg (i + (1 : Int32))))] s2 = some (some (.int r), t2) := ((e_X12_many 998 (by omega) s2 (xs (Int32.toNatClampNeg (i + (1 : Int32))))) _ hr _ rfl)
  obtain ⟨ha, ea, hRa⟩ := rl_c (L := L) (xs := xs) hR fc
  obtain ⟨hb, eb, hRb⟩ := rl_r (L := L) (xs := xs) hRa fr
  refine ⟨t1, t2, hb, hI1, hRb, ?_⟩
  refine (rl_go (c' := (635, [.ref 2000000, .ref 0, .ref 117, .int i], [.int (i + (1 : Int32)), .ref 2000000, .ref 0], h)) (k := 5) rfl).trans ?_
  refine (rl_ld rfl h1).trans ?_
  refine (fu_cV rfl rfl rfl rfl rfl (rl_rvc hR am_at_X11_many rfl) ea).trans ?_
  show rl_X L xs 639 [.ref 2000000, .ref 0, .ref 117, .int i] [.int r] ha = _
  refine (rl_go (c' := (644, [.ref 2000000, .ref 0, .ref 117, .int i], [.int (i + (1 : Int32)), .ref 2000000, .ref 117, .int r], ha)) (k := 5) rfl).trans ?_
  refine (rl_ld rfl h1).trans ?_
  refine (fu_cV rfl rfl rfl rfl rfl (rl_rvr hRa am_at_X12_many rfl) eb).trans ?_
  show rl_X L xs 648 [.ref 2000000, .ref 0, .ref 117, .int i] [.int r, .int r] hb = _
  exact am_X_step (i := .if_icmp .eq 1122) rfl (c' := (1770, [.ref 2000000, .ref 0, .ref 117, .int i], [], hb)) (by simp only [am_step, if_true])
set_option maxRecDepth 100000 in
theorem lw_case_12 {I : fu_S → fu_S → Prop} (hE : lw_E_12 I) {L : Nat} {xs : Nat → Int32} {i : Int32} {s1 s2 : fu_S} {h : am_H} (hI : I s1 s2) (hR : rl_R s1 s2 h) (h1 : am_in (i + (1 : Int32)) L = true) (h2 : am_in (i + (2 : Int32)) L = true) : ∃ t1 t2 h1, I t1 t2 ∧ rl_R t1 t2 h1 ∧ rl_X L xs 653 [.ref 2000000, .ref 0, .ref 117, .int i] [] h = rl_X L xs 1770 [.ref 2000000, .ref 0, .ref 117, .int i] [] h1 := by
  obtain ⟨r, t1, t2, hc, hr, hI1⟩ := hE s1 s2 hI (xs (Int32.toNatClampNeg (i + (1 : Int32)))) (xs (Int32.toNatClampNeg (i + (2 : Int32))))
  have fc : am_D (fu_ho fc_sh) am_m 998 192 [.ref 0, .int (xs (Int32.toNatClampNeg (i + (1 : Int32)))), .int (xs (Int32.toNatClampNeg (i + (2 : Int32))))] s1 = some (some (.int r), t1) := ((e_X11_kind 998 (by omega) s1 (xs (Int32.toNatClampNeg (i + (1 : Int32)))) (xs (Int32.toNatClampNeg (i + (2 : Int32))))) _ hc _ rfl)
  have fr : am_D (fu_ho fr_sh) am_m 998 320 [.ref 117, .int (xs (Int32.toNatClampNeg (i + (1 : Int32)))), .int (xs (Int32.toNatClampNeg (i + (2 : Int32))))] s2 = some (some (.int r), t2) := ((e_X12_kind 998 (by omega) s2 (xs (Int32.toNatClampNeg (i + (1 : Int32)))) (xs (Int32.toNatClampNeg (i + (2 : Int32))))) _ hr _ rfl)
  obtain ⟨ha, ea, hRa⟩ := rl_c (L := L) (xs := xs) hR fc
  obtain ⟨hb, eb, hRb⟩ := rl_r (L := L) (xs := xs) hRa fr
  refine ⟨t1, t2, hb, hI1, hRb, ?_⟩
  refine (rl_go (c' := (658, [.ref 2000000, .ref 0, .ref 117, .int i], [.int (i + (1 : Int32)), .ref 2000000, .ref 0], h)) (k := 5) rfl).trans ?_
  refine (rl_ld rfl h1).trans ?_
  refine (rl_go (c' := (663, [.ref 2000000, .ref 0, .ref 117, .int i], [.int (i + (2 : Int32)), .ref 2000000, .int (xs (Int32.toNatClampNeg (i + (1 : Int32)))), .ref 0], h)) (k := 4) rfl).trans ?_
  refine (rl_ld rfl h2).trans ?_
  refine (fu_cV rfl rfl rfl rfl rfl (rl_rvc hR am_at_X11_kind rfl) ea).trans ?_
  show rl_X L xs 667 [.ref 2000000, .ref 0, .ref 117, .int i] [.int r] ha = _
  refine (rl_go (c' := (672, [.ref 2000000, .ref 0, .ref 117, .int i], [.int (i + (1 : Int32)), .ref 2000000, .ref 117, .int r], ha)) (k := 5) rfl).trans ?_
  refine (rl_ld rfl h1).trans ?_
  refine (rl_go (c' := (677, [.ref 2000000, .ref 0, .ref 117, .int i], [.int (i + (2 : Int32)), .ref 2000000, .int (xs (Int32.toNatClampNeg (i + (1 : Int32)))), .ref 117, .int r], ha)) (k := 4) rfl).trans ?_
  refine (rl_ld rfl h2).trans ?_
  refine (fu_cV rfl rfl rfl rfl rfl (rl_rvr hRa am_at_X12_kind rfl) eb).trans ?_
  show rl_X L xs 681 [.ref 2000000, .ref 0, .ref 117, .int i] [.int r, .int r] hb = _
  exact am_X_step (i := .if_icmp .eq 1089) rfl (c' := (1770, [.ref 2000000, .ref 0, .ref 117, .int i], [], hb)) (by simp only [am_step, if_true])
set_option maxRecDepth 100000 in
theorem lw_case_13 {I : fu_S → fu_S → Prop} (hE : lw_E_13 I) {L : Nat} {xs : Nat → Int32} {i : Int32} {s1 s2 : fu_S} {h : am_H} (hI : I s1 s2) (hR : rl_R s1 s2 h) (h1 : am_in (i + (1 : Int32)) L = true) (h2 : am_in (i + (2 : Int32)) L = true) : ∃ t1 t2 h1, I t1 t2 ∧ rl_R t1 t2 h1 ∧ rl_X L xs 686 [.ref 2000000, .ref 0, .ref 117, .int i] [] h = rl_X L xs 1770 [.ref 2000000, .ref 0, .ref 117, .int i] [] h1 := by
  obtain ⟨r, t1, t2, hc, hr, hI1⟩ := hE s1 s2 hI (xs (Int32.toNatClampNeg (i + (1 : Int32)))) (xs (Int32.toNatClampNeg (i + (2 : Int32))))
  have fc : am_D (fu_ho fc_sh) am_m 998 193 [.ref 0, .int (xs (Int32.toNatClampNeg (i + (1 : Int32)))), .int (xs (Int32.toNatClampNeg (i + (2 : Int32))))] s1 = some (some (.int r), t1) := ((e_X11_person 998 (by omega) s1 (xs (Int32.toNatClampNeg (i + (1 : Int32)))) (xs (Int32.toNatClampNeg (i + (2 : Int32))))) _ hc _ rfl)
  have fr : am_D (fu_ho fr_sh) am_m 998 322 [.ref 117, .int (xs (Int32.toNatClampNeg (i + (1 : Int32)))), .int (xs (Int32.toNatClampNeg (i + (2 : Int32))))] s2 = some (some (.int r), t2) := ((e_X12_person 998 (by omega) s2 (xs (Int32.toNatClampNeg (i + (1 : Int32)))) (xs (Int32.toNatClampNeg (i + (2 : Int32))))) _ hr _ rfl)
  obtain ⟨ha, ea, hRa⟩ := rl_c (L := L) (xs := xs) hR fc
  obtain ⟨hb, eb, hRb⟩ := rl_r (L := L) (xs := xs) hRa fr
  refine ⟨t1, t2, hb, hI1, hRb, ?_⟩
  refine (rl_go (c' := (691, [.ref 2000000, .ref 0, .ref 117, .int i], [.int (i + (1 : Int32)), .ref 2000000, .ref 0], h)) (k := 5) rfl).trans ?_
  refine (rl_ld rfl h1).trans ?_
  refine (rl_go (c' := (696, [.ref 2000000, .ref 0, .ref 117, .int i], [.int (i + (2 : Int32)), .ref 2000000, .int (xs (Int32.toNatClampNeg (i + (1 : Int32)))), .ref 0], h)) (k := 4) rfl).trans ?_
  refine (rl_ld rfl h2).trans ?_
  refine (fu_cV rfl rfl rfl rfl rfl (rl_rvc hR am_at_X11_person rfl) ea).trans ?_
  show rl_X L xs 700 [.ref 2000000, .ref 0, .ref 117, .int i] [.int r] ha = _
  refine (rl_go (c' := (705, [.ref 2000000, .ref 0, .ref 117, .int i], [.int (i + (1 : Int32)), .ref 2000000, .ref 117, .int r], ha)) (k := 5) rfl).trans ?_
  refine (rl_ld rfl h1).trans ?_
  refine (rl_go (c' := (710, [.ref 2000000, .ref 0, .ref 117, .int i], [.int (i + (2 : Int32)), .ref 2000000, .int (xs (Int32.toNatClampNeg (i + (1 : Int32)))), .ref 117, .int r], ha)) (k := 4) rfl).trans ?_
  refine (rl_ld rfl h2).trans ?_
  refine (fu_cV rfl rfl rfl rfl rfl (rl_rvr hRa am_at_X12_person rfl) eb).trans ?_
  show rl_X L xs 714 [.ref 2000000, .ref 0, .ref 117, .int i] [.int r, .int r] hb = _
  exact am_X_step (i := .if_icmp .eq 1056) rfl (c' := (1770, [.ref 2000000, .ref 0, .ref 117, .int i], [], hb)) (by simp only [am_step, if_true])
set_option maxRecDepth 100000 in
theorem lw_case_14 {I : fu_S → fu_S → Prop} (hE : lw_E_14 I) {L : Nat} {xs : Nat → Int32} {i : Int32} {s1 s2 : fu_S} {h : am_H} (hI : I s1 s2) (hR : rl_R s1 s2 h) (h1 : am_in (i + (1 : Int32)) L = true) (h2 : am_in (i + (2 : Int32)) L = true) : ∃ t1 t2 h1, I t1 t2 ∧ rl_R t1 t2 h1 ∧ rl_X L xs 719 [.ref 2000000, .ref 0, .ref 117, .int i] [] h = rl_X L xs 1770 [.ref 2000000, .ref 0, .ref 117, .int i] [] h1 := by
  obtain ⟨r, t1, t2, hc, hr, hI1⟩ := hE s1 s2 hI (xs (Int32.toNatClampNeg (i + (1 : Int32)))) (xs (Int32.toNatClampNeg (i + (2 : Int32))))
  have fc : am_D (fu_ho fc_sh) am_m 998 194 [.ref 0, .int (xs (Int32.toNatClampNeg (i + (1 : Int32)))), .int (xs (Int32.toNatClampNeg (i + (2 : Int32))))] s1 = some (some (.int r), t1) := ((e_X11_thing 998 (by omega) s1 (xs (Int32.toNatClampNeg (i + (1 : Int32)))) (xs (Int32.toNatClampNeg (i + (2 : Int32))))) _ hc _ rfl)
  have fr : am_D (fu_ho fr_sh) am_m 998 323 [.ref 117, .int (xs (Int32.toNatClampNeg (i + (1 : Int32)))), .int (xs (Int32.toNatClampNeg (i + (2 : Int32))))] s2 = some (some (.int r), t2) := ((e_X12_thing 998 (by omega) s2 (xs (Int32.toNatClampNeg (i + (1 : Int32)))) (xs (Int32.toNatClampNeg (i + (2 : Int32))))) _ hr _ rfl)
  obtain ⟨ha, ea, hRa⟩ := rl_c (L := L) (xs := xs) hR fc
  obtain ⟨hb, eb, hRb⟩ := rl_r (L := L) (xs := xs) hRa fr
  refine ⟨t1, t2, hb, hI1, hRb, ?_⟩
  refine (rl_go (c' := (724, [.ref 2000000, .ref 0, .ref 117, .int i], [.int (i + (1 : Int32)), .ref 2000000, .ref 0], h)) (k := 5) rfl).trans ?_
  refine (rl_ld rfl h1).trans ?_
  refine (rl_go (c' := (729, [.ref 2000000, .ref 0, .ref 117, .int i], [.int (i + (2 : Int32)), .ref 2000000, .int (xs (Int32.toNatClampNeg (i + (1 : Int32)))), .ref 0], h)) (k := 4) rfl).trans ?_
  refine (rl_ld rfl h2).trans ?_
  refine (fu_cV rfl rfl rfl rfl rfl (rl_rvc hR am_at_X11_thing rfl) ea).trans ?_
  show rl_X L xs 733 [.ref 2000000, .ref 0, .ref 117, .int i] [.int r] ha = _
  refine (rl_go (c' := (738, [.ref 2000000, .ref 0, .ref 117, .int i], [.int (i + (1 : Int32)), .ref 2000000, .ref 117, .int r], ha)) (k := 5) rfl).trans ?_
  refine (rl_ld rfl h1).trans ?_
  refine (rl_go (c' := (743, [.ref 2000000, .ref 0, .ref 117, .int i], [.int (i + (2 : Int32)), .ref 2000000, .int (xs (Int32.toNatClampNeg (i + (1 : Int32)))), .ref 117, .int r], ha)) (k := 4) rfl).trans ?_
  refine (rl_ld rfl h2).trans ?_
  refine (fu_cV rfl rfl rfl rfl rfl (rl_rvr hRa am_at_X12_thing rfl) eb).trans ?_
  show rl_X L xs 747 [.ref 2000000, .ref 0, .ref 117, .int i] [.int r, .int r] hb = _
  exact am_X_step (i := .if_icmp .eq 1023) rfl (c' := (1770, [.ref 2000000, .ref 0, .ref 117, .int i], [], hb)) (by simp only [am_step, if_true])
set_option maxRecDepth 100000 in
theorem lw_case_15 {I : fu_S → fu_S → Prop} (hE : lw_E_15 I) {L : Nat} {xs : Nat → Int32} {i : Int32} {s1 s2 : fu_S} {h : am_H} (hI : I s1 s2) (hR : rl_R s1 s2 h) (h1 : am_in (i + (1 : Int32)) L = true) (h2 : am_in (i + (2 : Int32)) L = true) : ∃ t1 t2 h1, I t1 t2 ∧ rl_R t1 t2 h1 ∧ rl_X L xs 752 [.ref 2000000, .ref 0, .ref 117, .int i] [] h = rl_X L xs 1770 [.ref 2000000, .ref 0, .ref 117, .int i] [] h1 := by
  obtain ⟨r, t1, t2, hc, hr, hI1⟩ := hE s1 s2 hI (xs (Int32.toNatClampNeg (i + (1 : Int32)))) (xs (Int32.toNatClampNeg (i + (2 : Int32))))
  have fc : am_D (fu_ho fc_sh) am_m 998 195 [.ref 0, .int (xs (Int32.toNatClampNeg (i + (1 : Int32)))), .int (xs (Int32.toNatClampNeg (i + (2 : Int32))))] s1 = some (some (.int r), t1) := ((e_X11_far 998 (by omega) s1 (xs (Int32.toNatClampNeg (i + (1 : Int32)))) (xs (Int32.toNatClampNeg (i + (2 : Int32))))) _ hc _ rfl)
  have fr : am_D (fu_ho fr_sh) am_m 998 324 [.ref 117, .int (xs (Int32.toNatClampNeg (i + (1 : Int32)))), .int (xs (Int32.toNatClampNeg (i + (2 : Int32))))] s2 = some (some (.int r), t2) := ((e_X12_far 998 (by omega) s2 (xs (Int32.toNatClampNeg (i + (1 : Int32)))) (xs (Int32.toNatClampNeg (i + (2 : Int32))))) _ hr _ rfl)
  obtain ⟨ha, ea, hRa⟩ := rl_c (L := L) (xs := xs) hR fc
  obtain ⟨hb, eb, hRb⟩ := rl_r (L := L) (xs := xs) hRa fr
  refine ⟨t1, t2, hb, hI1, hRb, ?_⟩
  refine (rl_go (c' := (757, [.ref 2000000, .ref 0, .ref 117, .int i], [.int (i + (1 : Int32)), .ref 2000000, .ref 0], h)) (k := 5) rfl).trans ?_
  refine (rl_ld rfl h1).trans ?_
  refine (rl_go (c' := (762, [.ref 2000000, .ref 0, .ref 117, .int i], [.int (i + (2 : Int32)), .ref 2000000, .int (xs (Int32.toNatClampNeg (i + (1 : Int32)))), .ref 0], h)) (k := 4) rfl).trans ?_
  refine (rl_ld rfl h2).trans ?_
  refine (fu_cV rfl rfl rfl rfl rfl (rl_rvc hR am_at_X11_far rfl) ea).trans ?_
  show rl_X L xs 766 [.ref 2000000, .ref 0, .ref 117, .int i] [.int r] ha = _
  refine (rl_go (c' := (771, [.ref 2000000, .ref 0, .ref 117, .int i], [.int (i + (1 : Int32)), .ref 2000000, .ref 117, .int r], ha)) (k := 5) rfl).trans ?_
  refine (rl_ld rfl h1).trans ?_
  refine (rl_go (c' := (776, [.ref 2000000, .ref 0, .ref 117, .int i], [.int (i + (2 : Int32)), .ref 2000000, .int (xs (Int32.toNatClampNeg (i + (1 : Int32)))), .ref 117, .int r], ha)) (k := 4) rfl).trans ?_
  refine (rl_ld rfl h2).trans ?_
  refine (fu_cV rfl rfl rfl rfl rfl (rl_rvr hRa am_at_X12_far rfl) eb).trans ?_
  show rl_X L xs 780 [.ref 2000000, .ref 0, .ref 117, .int i] [.int r, .int r] hb = _
  exact am_X_step (i := .if_icmp .eq 990) rfl (c' := (1770, [.ref 2000000, .ref 0, .ref 117, .int i], [], hb)) (by simp only [am_step, if_true])
set_option maxRecDepth 100000 in
theorem lw_case_16 {I : fu_S → fu_S → Prop} (hE : lw_E_16 I) {L : Nat} {xs : Nat → Int32} {i : Int32} {s1 s2 : fu_S} {h : am_H} (hI : I s1 s2) (hR : rl_R s1 s2 h) (h1 : am_in (i + (1 : Int32)) L = true) : ∃ t1 t2 h1, I t1 t2 ∧ rl_R t1 t2 h1 ∧ rl_X L xs 785 [.ref 2000000, .ref 0, .ref 117, .int i] [] h = rl_X L xs 1770 [.ref 2000000, .ref 0, .ref 117, .int i] [] h1 := by
  obtain ⟨r, t1, t2, hc, hr, hI1⟩ := hE s1 s2 hI (xs (Int32.toNatClampNeg (i + (1 : Int32))))
  have fc : am_D (fu_ho fc_sh) am_m 998 197 [.ref 0, .int (xs (Int32.toNatClampNeg (i + (1 : Int32))))] s1 = some (some (.int r), t1) := ((e_X11_copyHomes 998 (by omega) s1 (xs (Int32.toNatClampNeg (i + (1 : Int32))))) _ hc _ rfl)
  have fr : am_D (fu_ho fr_sh) am_m 998 325 [.ref 117, .int (xs (Int32.toNatClampNeg (i + (1 : Int32))))] s2 = some (some (.int r), t2) := ((e_X12_copyHomes 998 (by omega) s2 (xs (Int32.toNatClampNeg (i + (1 : Int32))))) _ hr _ rfl)
  obtain ⟨ha, ea, hRa⟩ := rl_c (L := L) (xs := xs) hR fc
  obtain ⟨hb, eb, hRb⟩ := rl_r (L := L) (xs := xs) hRa fr
  refine ⟨t1, t2, hb, hI1, hRb, ?_⟩
  refine (rl_go (c' := (790, [.ref 2000000, .ref 0, .ref 117, .int i], [.int (i + (1 : Int32)), .ref 2000000, .ref 0], h)) (k := 5) rfl).trans ?_
  refine (rl_ld rfl h1).trans ?_
  refine (fu_cV rfl rfl rfl rfl rfl (rl_rvc hR am_at_X11_copyHomes rfl) ea).trans ?_
  show rl_X L xs 794 [.ref 2000000, .ref 0, .ref 117, .int i] [.int r] ha = _
  refine (rl_go (c' := (799, [.ref 2000000, .ref 0, .ref 117, .int i], [.int (i + (1 : Int32)), .ref 2000000, .ref 117, .int r], ha)) (k := 5) rfl).trans ?_
  refine (rl_ld rfl h1).trans ?_
  refine (fu_cV rfl rfl rfl rfl rfl (rl_rvr hRa am_at_X12_copyHomes rfl) eb).trans ?_
  show rl_X L xs 803 [.ref 2000000, .ref 0, .ref 117, .int i] [.int r, .int r] hb = _
  exact am_X_step (i := .if_icmp .eq 967) rfl (c' := (1770, [.ref 2000000, .ref 0, .ref 117, .int i], [], hb)) (by simp only [am_step, if_true])
set_option maxRecDepth 100000 in
theorem lw_case_17 {I : fu_S → fu_S → Prop} (hE : lw_E_17 I) {L : Nat} {xs : Nat → Int32} {i : Int32} {s1 s2 : fu_S} {h : am_H} (hI : I s1 s2) (hR : rl_R s1 s2 h) (h1 : am_in (i + (1 : Int32)) L = true) (h2 : am_in (i + (2 : Int32)) L = true) (h3 : am_in (i + (3 : Int32)) L = true) : ∃ t1 t2 h1, I t1 t2 ∧ rl_R t1 t2 h1 ∧ rl_X L xs 808 [.ref 2000000, .ref 0, .ref 117, .int i] [] h = rl_X L xs 1770 [.ref 2000000, .ref 0, .ref 117, .int i] [] h1 := by
  obtain ⟨r, t1, t2, hc, hr, hI1⟩ := hE s1 s2 hI (xs (Int32.toNatClampNeg (i + (1 : Int32)))) (xs (Int32.toNatClampNeg (i + (2 : Int32)))) (xs (Int32.toNatClampNeg (i + (3 : Int32))))
  have fc : am_D (fu_ho fc_sh) am_m 998 198 [.ref 0, .int (xs (Int32.toNatClampNeg (i + (1 : Int32)))), .int (xs (Int32.toNatClampNeg (i + (2 : Int32)))), .int (xs (Int32.toNatClampNeg (i + (3 : Int32))))] s1 = some (some (.int r), t1) := ((e_X11_lose 998 (by omega) s1 (xs (Int32.toNatClampNeg (i + (1 : Int32)))) (xs (Int32.toNatClampNeg (i + (2 : Int32)))) (xs (Int32.toNatClampNeg (i + (3 : Int32))))) _ hc _ rfl)
  have fr : am_D (fu_ho fr_sh) am_m 998 326 [.ref 117, .int (xs (Int32.toNatClampNeg (i + (1 : Int32)))), .int (xs (Int32.toNatClampNeg (i + (2 : Int32)))), .int (xs (Int32.toNatClampNeg (i + (3 : Int32))))] s2 = some (some (.int r), t2) := ((e_X12_lose 998 (by omega) s2 (xs (Int32.toNatClampNeg (i + (1 : Int32)))) (xs (Int32.toNatClampNeg (i + (2 : Int32)))) (xs (Int32.toNatClampNeg (i + (3 : Int32))))) _ hr _ rfl)
  obtain ⟨ha, ea, hRa⟩ := rl_c (L := L) (xs := xs) hR fc
  obtain ⟨hb, eb, hRb⟩ := rl_r (L := L) (xs := xs) hRa fr
  refine ⟨t1, t2, hb, hI1, hRb, ?_⟩
  refine (rl_go (c' := (813, [.ref 2000000, .ref 0, .ref 117, .int i], [.int (i + (1 : Int32)), .ref 2000000, .ref 0], h)) (k := 5) rfl).trans ?_
  refine (rl_ld rfl h1).trans ?_
  refine (rl_go (c' := (818, [.ref 2000000, .ref 0, .ref 117, .int i], [.int (i + (2 : Int32)), .ref 2000000, .int (xs (Int32.toNatClampNeg (i + (1 : Int32)))), .ref 0], h)) (k := 4) rfl).trans ?_
  refine (rl_ld rfl h2).trans ?_
  refine (rl_go (c' := (823, [.ref 2000000, .ref 0, .ref 117, .int i], [.int (i + (3 : Int32)), .ref 2000000, .int (xs (Int32.toNatClampNeg (i + (2 : Int32)))), .int (xs (Int32.toNatClampNeg (i + (1 : Int32)))), .ref 0], h)) (k := 4) rfl).trans ?_
  refine (rl_ld rfl h3).trans ?_
  refine (fu_cV rfl rfl rfl rfl rfl (rl_rvc hR am_at_X11_lose rfl) ea).trans ?_
  show rl_X L xs 827 [.ref 2000000, .ref 0, .ref 117, .int i] [.int r] ha = _
  refine (rl_go (c' := (832, [.ref 2000000, .ref 0, .ref 117, .int i], [.int (i + (1 : Int32)), .ref 2000000, .ref 117, .int r], ha)) (k := 5) rfl).trans ?_
  refine (rl_ld rfl h1).trans ?_
  refine (rl_go (c' := (837, [.ref 2000000, .ref 0, .ref 117, .int i], [.int (i + (2 : Int32)), .ref 2000000, .int (xs (Int32.toNatClampNeg (i + (1 : Int32)))), .ref 117, .int r], ha)) (k := 4) rfl).trans ?_
  refine (rl_ld rfl h2).trans ?_
  refine (rl_go (c' := (842, [.ref 2000000, .ref 0, .ref 117, .int i], [.int (i + (3 : Int32)), .ref 2000000, .int (xs (Int32.toNatClampNeg (i + (2 : Int32)))), .int (xs (Int32.toNatClampNeg (i + (1 : Int32)))), .ref 117, .int r], ha)) (k := 4) rfl).trans ?_
  refine (rl_ld rfl h3).trans ?_
  refine (fu_cV rfl rfl rfl rfl rfl (rl_rvr hRa am_at_X12_lose rfl) eb).trans ?_
  show rl_X L xs 846 [.ref 2000000, .ref 0, .ref 117, .int i] [.int r, .int r] hb = _
  exact am_X_step (i := .if_icmp .eq 924) rfl (c' := (1770, [.ref 2000000, .ref 0, .ref 117, .int i], [], hb)) (by simp only [am_step, if_true])
set_option maxRecDepth 100000 in
theorem lw_case_18 {I : fu_S → fu_S → Prop} (hE : lw_E_18 I) {L : Nat} {xs : Nat → Int32} {i : Int32} {s1 s2 : fu_S} {h : am_H} (hI : I s1 s2) (hR : rl_R s1 s2 h) (h1 : am_in (i + (1 : Int32)) L = true) : ∃ t1 t2 h1, I t1 t2 ∧ rl_R t1 t2 h1 ∧ rl_X L xs 851 [.ref 2000000, .ref 0, .ref 117, .int i] [] h = rl_X L xs 1770 [.ref 2000000, .ref 0, .ref 117, .int i] [] h1 := by
  obtain ⟨r, t1, t2, hc, hr, hI1⟩ := hE s1 s2 hI (xs (Int32.toNatClampNeg (i + (1 : Int32))))
  have fc : am_D (fu_ho fc_sh) am_m 998 199 [.ref 0, .int (xs (Int32.toNatClampNeg (i + (1 : Int32))))] s1 = some (some (.int r), t1) := ((e_X11_pass 998 (by omega) s1 (xs (Int32.toNatClampNeg (i + (1 : Int32))))) _ hc _ rfl)
  have fr : am_D (fu_ho fr_sh) am_m 998 327 [.ref 117, .int (xs (Int32.toNatClampNeg (i + (1 : Int32))))] s2 = some (some (.int r), t2) := ((e_X12_pass 998 (by omega) s2 (xs (Int32.toNatClampNeg (i + (1 : Int32))))) _ hr _ rfl)
  obtain ⟨ha, ea, hRa⟩ := rl_c (L := L) (xs := xs) hR fc
  obtain ⟨hb, eb, hRb⟩ := rl_r (L := L) (xs := xs) hRa fr
  refine ⟨t1, t2, hb, hI1, hRb, ?_⟩
  refine (rl_go (c' := (856, [.ref 2000000, .ref 0, .ref 117, .int i], [.int (i + (1 : Int32)), .ref 2000000, .ref 0], h)) (k := 5) rfl).trans ?_
  refine (rl_ld rfl h1).trans ?_
  refine (fu_cV rfl rfl rfl rfl rfl (rl_rvc hR am_at_X11_pass rfl) ea).trans ?_
  show rl_X L xs 860 [.ref 2000000, .ref 0, .ref 117, .int i] [.int r] ha = _
  refine (rl_go (c' := (865, [.ref 2000000, .ref 0, .ref 117, .int i], [.int (i + (1 : Int32)), .ref 2000000, .ref 117, .int r], ha)) (k := 5) rfl).trans ?_
  refine (rl_ld rfl h1).trans ?_
  refine (fu_cV rfl rfl rfl rfl rfl (rl_rvr hRa am_at_X12_pass rfl) eb).trans ?_
  show rl_X L xs 869 [.ref 2000000, .ref 0, .ref 117, .int i] [.int r, .int r] hb = _
  exact am_X_step (i := .if_icmp .eq 901) rfl (c' := (1770, [.ref 2000000, .ref 0, .ref 117, .int i], [], hb)) (by simp only [am_step, if_true])
set_option maxRecDepth 100000 in
theorem lw_case_19 {I : fu_S → fu_S → Prop} (hE : lw_E_19 I) {L : Nat} {xs : Nat → Int32} {i : Int32} {s1 s2 : fu_S} {h : am_H} (hI : I s1 s2) (hR : rl_R s1 s2 h) (h1 : am_in (i + (1 : Int32)) L = true) (h2 : am_in (i + (2 : Int32)) L = true) : ∃ t1 t2 h1, I t1 t2 ∧ rl_R t1 t2 h1 ∧ rl_X L xs 874 [.ref 2000000, .ref 0, .ref 117, .int i] [] h = rl_X L xs 1770 [.ref 2000000, .ref 0, .ref 117, .int i] [] h1 := by
  obtain ⟨r, t1, t2, hc, hr, hI1⟩ := hE s1 s2 hI (xs (Int32.toNatClampNeg (i + (1 : Int32)))) (xs (Int32.toNatClampNeg (i + (2 : Int32))))
  have fc : am_D (fu_ho fc_sh) am_m 998 200 [.ref 0, .int (xs (Int32.toNatClampNeg (i + (1 : Int32)))), .int (xs (Int32.toNatClampNeg (i + (2 : Int32))))] s1 = some (some (.int r), t1) := ((e_X11_scratch 998 (by omega) s1 (xs (Int32.toNatClampNeg (i + (1 : Int32)))) (xs (Int32.toNatClampNeg (i + (2 : Int32))))) _ hc _ rfl)
  have fr : am_D (fu_ho fr_sh) am_m 998 329 [.ref 117, .int (xs (Int32.toNatClampNeg (i + (1 : Int32)))), .int (xs (Int32.toNatClampNeg (i + (2 : Int32))))] s2 = some (some (.int r), t2) := ((e_X12_scratch 998 (by omega) s2 (xs (Int32.toNatClampNeg (i + (1 : Int32)))) (xs (Int32.toNatClampNeg (i + (2 : Int32))))) _ hr _ rfl)
  obtain ⟨ha, ea, hRa⟩ := rl_c (L := L) (xs := xs) hR fc
  obtain ⟨hb, eb, hRb⟩ := rl_r (L := L) (xs := xs) hRa fr
  refine ⟨t1, t2, hb, hI1, hRb, ?_⟩
  refine (rl_go (c' := (879, [.ref 2000000, .ref 0, .ref 117, .int i], [.int (i + (1 : Int32)), .ref 2000000, .ref 0], h)) (k := 5) rfl).trans ?_
  refine (rl_ld rfl h1).trans ?_
  refine (rl_go (c' := (884, [.ref 2000000, .ref 0, .ref 117, .int i], [.int (i + (2 : Int32)), .ref 2000000, .int (xs (Int32.toNatClampNeg (i + (1 : Int32)))), .ref 0], h)) (k := 4) rfl).trans ?_
  refine (rl_ld rfl h2).trans ?_
  refine (fu_cV rfl rfl rfl rfl rfl (rl_rvc hR am_at_X11_scratch rfl) ea).trans ?_
  show rl_X L xs 888 [.ref 2000000, .ref 0, .ref 117, .int i] [.int r] ha = _
  refine (rl_go (c' := (893, [.ref 2000000, .ref 0, .ref 117, .int i], [.int (i + (1 : Int32)), .ref 2000000, .ref 117, .int r], ha)) (k := 5) rfl).trans ?_
  refine (rl_ld rfl h1).trans ?_
  refine (rl_go (c' := (898, [.ref 2000000, .ref 0, .ref 117, .int i], [.int (i + (2 : Int32)), .ref 2000000, .int (xs (Int32.toNatClampNeg (i + (1 : Int32)))), .ref 117, .int r], ha)) (k := 4) rfl).trans ?_
  refine (rl_ld rfl h2).trans ?_
  refine (fu_cV rfl rfl rfl rfl rfl (rl_rvr hRa am_at_X12_scratch rfl) eb).trans ?_
  show rl_X L xs 902 [.ref 2000000, .ref 0, .ref 117, .int i] [.int r, .int r] hb = _
  exact am_X_step (i := .if_icmp .eq 868) rfl (c' := (1770, [.ref 2000000, .ref 0, .ref 117, .int i], [], hb)) (by simp only [am_step, if_true])
set_option maxRecDepth 100000 in
theorem lw_case_20 {I : fu_S → fu_S → Prop} (hE : lw_E_20 I) {L : Nat} {xs : Nat → Int32} {i : Int32} {s1 s2 : fu_S} {h : am_H} (hI : I s1 s2) (hR : rl_R s1 s2 h) (h1 : am_in (i + (1 : Int32)) L = true) (h2 : am_in (i + (2 : Int32)) L = true) (h3 : am_in (i + (3 : Int32)) L = true) : ∃ t1 t2 h1, I t1 t2 ∧ rl_R t1 t2 h1 ∧ rl_X L xs 907 [.ref 2000000, .ref 0, .ref 117, .int i] [] h = rl_X L xs 1770 [.ref 2000000, .ref 0, .ref 117, .int i] [] h1 := by
  obtain ⟨r, t1, t2, hc, hr, hI1⟩ := hE s1 s2 hI (xs (Int32.toNatClampNeg (i + (1 : Int32)))) (xs (Int32.toNatClampNeg (i + (2 : Int32)))) (!decide ((xs (Int32.toNatClampNeg (i + (3 : Int32)))) = 0))
  have fc : am_D (fu_ho fc_sh) am_m 998 201 [.ref 0, .int (xs (Int32.toNatClampNeg (i + (1 : Int32)))), .int (xs (Int32.toNatClampNeg (i + (2 : Int32)))), .int (fu_b (!decide ((xs (Int32.toNatClampNeg (i + (3 : Int32)))) = 0)))] s1 = some (some (.int (fu_b r)), t1) := ((e_X11_teach 998 (by omega) s1 (xs (Int32.toNatClampNeg (i + (1 : Int32)))) (xs (Int32.toNatClampNeg (i + (2 : Int32)))) (!decide ((xs (Int32.toNatClampNeg (i + (3 : Int32)))) = 0))) _ hc _ rfl)
  have fr : am_D (fu_ho fr_sh) am_m 998 330 [.ref 117, .int (xs (Int32.toNatClampNeg (i + (1 : Int32)))), .int (xs (Int32.toNatClampNeg (i + (2 : Int32)))), .int (fu_b (!decide ((xs (Int32.toNatClampNeg (i + (3 : Int32)))) = 0)))] s2 = some (some (.int (fu_b r)), t2) := ((e_X12_teach 998 (by omega) s2 (xs (Int32.toNatClampNeg (i + (1 : Int32)))) (xs (Int32.toNatClampNeg (i + (2 : Int32)))) (!decide ((xs (Int32.toNatClampNeg (i + (3 : Int32)))) = 0))) _ hr _ rfl)
  obtain ⟨ha, ea, hRa⟩ := rl_c (L := L) (xs := xs) hR fc
  obtain ⟨hb, eb, hRb⟩ := rl_r (L := L) (xs := xs) hRa fr
  refine ⟨t1, t2, hb, hI1, hRb, ?_⟩
  refine (rl_go (c' := (912, [.ref 2000000, .ref 0, .ref 117, .int i], [.int (i + (1 : Int32)), .ref 2000000, .ref 0], h)) (k := 5) rfl).trans ?_
  refine (rl_ld rfl h1).trans ?_
  refine (rl_go (c' := (917, [.ref 2000000, .ref 0, .ref 117, .int i], [.int (i + (2 : Int32)), .ref 2000000, .int (xs (Int32.toNatClampNeg (i + (1 : Int32)))), .ref 0], h)) (k := 4) rfl).trans ?_
  refine (rl_ld rfl h2).trans ?_
  refine (rl_go (c' := (922, [.ref 2000000, .ref 0, .ref 117, .int i], [.int (i + (3 : Int32)), .ref 2000000, .int (xs (Int32.toNatClampNeg (i + (2 : Int32)))), .int (xs (Int32.toNatClampNeg (i + (1 : Int32)))), .ref 0], h)) (k := 4) rfl).trans ?_
  refine (rl_ld rfl h3).trans ?_
  refine (rl_bool (j := 931) rfl rfl rfl rfl rfl).trans ?_
  refine (fu_cV rfl rfl rfl rfl rfl (rl_rvc hR am_at_X11_teach rfl) ea).trans ?_
  show rl_X L xs 934 [.ref 2000000, .ref 0, .ref 117, .int i] [.int (fu_b r)] ha = _
  refine (rl_go (c' := (939, [.ref 2000000, .ref 0, .ref 117, .int i], [.int (i + (1 : Int32)), .ref 2000000, .ref 117, .int (fu_b r)], ha)) (k := 5) rfl).trans ?_
  refine (rl_ld rfl h1).trans ?_
  refine (rl_go (c' := (944, [.ref 2000000, .ref 0, .ref 117, .int i], [.int (i + (2 : Int32)), .ref 2000000, .int (xs (Int32.toNatClampNeg (i + (1 : Int32)))), .ref 117, .int (fu_b r)], ha)) (k := 4) rfl).trans ?_
  refine (rl_ld rfl h2).trans ?_
  refine (rl_go (c' := (949, [.ref 2000000, .ref 0, .ref 117, .int i], [.int (i + (3 : Int32)), .ref 2000000, .int (xs (Int32.toNatClampNeg (i + (2 : Int32)))), .int (xs (Int32.toNatClampNeg (i + (1 : Int32)))), .ref 117, .int (fu_b r)], ha)) (k := 4) rfl).trans ?_
  refine (rl_ld rfl h3).trans ?_
  refine (rl_bool (j := 958) rfl rfl rfl rfl rfl).trans ?_
  refine (fu_cV rfl rfl rfl rfl rfl (rl_rvr hRa am_at_X12_teach rfl) eb).trans ?_
  show rl_X L xs 961 [.ref 2000000, .ref 0, .ref 117, .int i] [.int (fu_b r), .int (fu_b r)] hb = _
  exact am_X_step (i := .if_icmp .eq 809) rfl (c' := (1770, [.ref 2000000, .ref 0, .ref 117, .int i], [], hb)) (by simp only [am_step, if_true])
set_option maxRecDepth 100000 in
theorem lw_case_21 {I : fu_S → fu_S → Prop} (hE : lw_E_21 I) {L : Nat} {xs : Nat → Int32} {i : Int32} {s1 s2 : fu_S} {h : am_H} (hI : I s1 s2) (hR : rl_R s1 s2 h) (h1 : am_in (i + (1 : Int32)) L = true) (h2 : am_in (i + (2 : Int32)) L = true) : ∃ t1 t2 h1, I t1 t2 ∧ rl_R t1 t2 h1 ∧ rl_X L xs 966 [.ref 2000000, .ref 0, .ref 117, .int i] [] h = rl_X L xs 1770 [.ref 2000000, .ref 0, .ref 117, .int i] [] h1 := by
  obtain ⟨r, t1, t2, hc, hr, hI1⟩ := hE s1 s2 hI (xs (Int32.toNatClampNeg (i + (1 : Int32)))) (xs (Int32.toNatClampNeg (i + (2 : Int32))))
  have fc : am_D (fu_ho fc_sh) am_m 998 202 [.ref 0, .int (xs (Int32.toNatClampNeg (i + (1 : Int32)))), .int (xs (Int32.toNatClampNeg (i + (2 : Int32))))] s1 = some (some (.int r), t1) := ((e_X11_move 998 (by omega) s1 (xs (Int32.toNatClampNeg (i + (1 : Int32)))) (xs (Int32.toNatClampNeg (i + (2 : Int32))))) _ hc _ rfl)
  have fr : am_D (fu_ho fr_sh) am_m 998 331 [.ref 117, .int (xs (Int32.toNatClampNeg (i + (1 : Int32)))), .int (xs (Int32.toNatClampNeg (i + (2 : Int32))))] s2 = some (some (.int r), t2) := ((e_X12_move 998 (by omega) s2 (xs (Int32.toNatClampNeg (i + (1 : Int32)))) (xs (Int32.toNatClampNeg (i + (2 : Int32))))) _ hr _ rfl)
  obtain ⟨ha, ea, hRa⟩ := rl_c (L := L) (xs := xs) hR fc
  obtain ⟨hb, eb, hRb⟩ := rl_r (L := L) (xs := xs) hRa fr
  refine ⟨t1, t2, hb, hI1, hRb, ?_⟩
  refine (rl_go (c' := (971, [.ref 2000000, .ref 0, .ref 117, .int i], [.int (i + (1 : Int32)), .ref 2000000, .ref 0], h)) (k := 5) rfl).trans ?_
  refine (rl_ld rfl h1).trans ?_
  refine (rl_go (c' := (976, [.ref 2000000, .ref 0, .ref 117, .int i], [.int (i + (2 : Int32)), .ref 2000000, .int (xs (Int32.toNatClampNeg (i + (1 : Int32)))), .ref 0], h)) (k := 4) rfl).trans ?_
  refine (rl_ld rfl h2).trans ?_
  refine (fu_cV rfl rfl rfl rfl rfl (rl_rvc hR am_at_X11_move rfl) ea).trans ?_
  show rl_X L xs 980 [.ref 2000000, .ref 0, .ref 117, .int i] [.int r] ha = _
  refine (rl_go (c' := (985, [.ref 2000000, .ref 0, .ref 117, .int i], [.int (i + (1 : Int32)), .ref 2000000, .ref 117, .int r], ha)) (k := 5) rfl).trans ?_
  refine (rl_ld rfl h1).trans ?_
  refine (rl_go (c' := (990, [.ref 2000000, .ref 0, .ref 117, .int i], [.int (i + (2 : Int32)), .ref 2000000, .int (xs (Int32.toNatClampNeg (i + (1 : Int32)))), .ref 117, .int r], ha)) (k := 4) rfl).trans ?_
  refine (rl_ld rfl h2).trans ?_
  refine (fu_cV rfl rfl rfl rfl rfl (rl_rvr hRa am_at_X12_move rfl) eb).trans ?_
  show rl_X L xs 994 [.ref 2000000, .ref 0, .ref 117, .int i] [.int r, .int r] hb = _
  exact am_X_step (i := .if_icmp .eq 776) rfl (c' := (1770, [.ref 2000000, .ref 0, .ref 117, .int i], [], hb)) (by simp only [am_step, if_true])
set_option maxRecDepth 100000 in
theorem lw_case_22 {I : fu_S → fu_S → Prop} (hE : lw_E_22 I) {L : Nat} {xs : Nat → Int32} {i : Int32} {s1 s2 : fu_S} {h : am_H} (hI : I s1 s2) (hR : rl_R s1 s2 h) (h1 : am_in (i + (1 : Int32)) L = true) : ∃ t1 t2 h1, I t1 t2 ∧ rl_R t1 t2 h1 ∧ rl_X L xs 999 [.ref 2000000, .ref 0, .ref 117, .int i] [] h = rl_X L xs 1770 [.ref 2000000, .ref 0, .ref 117, .int i] [] h1 := by
  obtain ⟨r, t1, t2, hc, hr, hI1⟩ := hE s1 s2 hI (xs (Int32.toNatClampNeg (i + (1 : Int32))))
  have fc : am_D (fu_ho fc_sh) am_m 998 203 [.ref 0, .int (xs (Int32.toNatClampNeg (i + (1 : Int32))))] s1 = some (some (.int r), t1) := ((e_X11_come 998 (by omega) s1 (xs (Int32.toNatClampNeg (i + (1 : Int32))))) _ hc _ rfl)
  have fr : am_D (fu_ho fr_sh) am_m 998 332 [.ref 117, .int (xs (Int32.toNatClampNeg (i + (1 : Int32))))] s2 = some (some (.int r), t2) := ((e_X12_come 998 (by omega) s2 (xs (Int32.toNatClampNeg (i + (1 : Int32))))) _ hr _ rfl)
  obtain ⟨ha, ea, hRa⟩ := rl_c (L := L) (xs := xs) hR fc
  obtain ⟨hb, eb, hRb⟩ := rl_r (L := L) (xs := xs) hRa fr
  refine ⟨t1, t2, hb, hI1, hRb, ?_⟩
  refine (rl_go (c' := (1004, [.ref 2000000, .ref 0, .ref 117, .int i], [.int (i + (1 : Int32)), .ref 2000000, .ref 0], h)) (k := 5) rfl).trans ?_
  refine (rl_ld rfl h1).trans ?_
  refine (fu_cV rfl rfl rfl rfl rfl (rl_rvc hR am_at_X11_come rfl) ea).trans ?_
  show rl_X L xs 1008 [.ref 2000000, .ref 0, .ref 117, .int i] [.int r] ha = _
  refine (rl_go (c' := (1013, [.ref 2000000, .ref 0, .ref 117, .int i], [.int (i + (1 : Int32)), .ref 2000000, .ref 117, .int r], ha)) (k := 5) rfl).trans ?_
  refine (rl_ld rfl h1).trans ?_
  refine (fu_cV rfl rfl rfl rfl rfl (rl_rvr hRa am_at_X12_come rfl) eb).trans ?_
  show rl_X L xs 1017 [.ref 2000000, .ref 0, .ref 117, .int i] [.int r, .int r] hb = _
  exact am_X_step (i := .if_icmp .eq 753) rfl (c' := (1770, [.ref 2000000, .ref 0, .ref 117, .int i], [], hb)) (by simp only [am_step, if_true])
set_option maxRecDepth 100000 in
theorem lw_case_23 {I : fu_S → fu_S → Prop} (hE : lw_E_23 I) {L : Nat} {xs : Nat → Int32} {i : Int32} {s1 s2 : fu_S} {h : am_H} (hI : I s1 s2) (hR : rl_R s1 s2 h) (h1 : am_in (i + (1 : Int32)) L = true) (h2 : am_in (i + (2 : Int32)) L = true) (h3 : am_in (i + (3 : Int32)) L = true) : ∃ t1 t2 h1, I t1 t2 ∧ rl_R t1 t2 h1 ∧ rl_X L xs 1022 [.ref 2000000, .ref 0, .ref 117, .int i] [] h = rl_X L xs 1770 [.ref 2000000, .ref 0, .ref 117, .int i] [] h1 := by
  obtain ⟨r, t1, t2, hc, hr, hI1⟩ := hE s1 s2 hI (xs (Int32.toNatClampNeg (i + (1 : Int32)))) (xs (Int32.toNatClampNeg (i + (2 : Int32)))) (xs (Int32.toNatClampNeg (i + (3 : Int32))))
  have fc : am_D (fu_ho fc_sh) am_m 998 204 [.ref 0, .int (xs (Int32.toNatClampNeg (i + (1 : Int32)))), .int (xs (Int32.toNatClampNeg (i + (2 : Int32)))), .int (xs (Int32.toNatClampNeg (i + (3 : Int32))))] s1 = some (some (.int r), t1) := ((e_X11_rewrite 998 (by omega) s1 (xs (Int32.toNatClampNeg (i + (1 : Int32)))) (xs (Int32.toNatClampNeg (i + (2 : Int32)))) (xs (Int32.toNatClampNeg (i + (3 : Int32))))) _ hc _ rfl)
  have fr : am_D (fu_ho fr_sh) am_m 998 333 [.ref 117, .int (xs (Int32.toNatClampNeg (i + (1 : Int32)))), .int (xs (Int32.toNatClampNeg (i + (2 : Int32)))), .int (xs (Int32.toNatClampNeg (i + (3 : Int32))))] s2 = some (some (.int r), t2) := ((e_X12_rewrite 998 (by omega) s2 (xs (Int32.toNatClampNeg (i + (1 : Int32)))) (xs (Int32.toNatClampNeg (i + (2 : Int32)))) (xs (Int32.toNatClampNeg (i + (3 : Int32))))) _ hr _ rfl)
  obtain ⟨ha, ea, hRa⟩ := rl_c (L := L) (xs := xs) hR fc
  obtain ⟨hb, eb, hRb⟩ := rl_r (L := L) (xs := xs) hRa fr
  refine ⟨t1, t2, hb, hI1, hRb, ?_⟩
  refine (rl_go (c' := (1027, [.ref 2000000, .ref 0, .ref 117, .int i], [.int (i + (1 : Int32)), .ref 2000000, .ref 0], h)) (k := 5) rfl).trans ?_
  refine (rl_ld rfl h1).trans ?_
  refine (rl_go (c' := (1032, [.ref 2000000, .ref 0, .ref 117, .int i], [.int (i + (2 : Int32)), .ref 2000000, .int (xs (Int32.toNatClampNeg (i + (1 : Int32)))), .ref 0], h)) (k := 4) rfl).trans ?_
  refine (rl_ld rfl h2).trans ?_
  refine (rl_go (c' := (1037, [.ref 2000000, .ref 0, .ref 117, .int i], [.int (i + (3 : Int32)), .ref 2000000, .int (xs (Int32.toNatClampNeg (i + (2 : Int32)))), .int (xs (Int32.toNatClampNeg (i + (1 : Int32)))), .ref 0], h)) (k := 4) rfl).trans ?_
  refine (rl_ld rfl h3).trans ?_
  refine (fu_cV rfl rfl rfl rfl rfl (rl_rvc hR am_at_X11_rewrite rfl) ea).trans ?_
  show rl_X L xs 1041 [.ref 2000000, .ref 0, .ref 117, .int i] [.int r] ha = _
  refine (rl_go (c' := (1046, [.ref 2000000, .ref 0, .ref 117, .int i], [.int (i + (1 : Int32)), .ref 2000000, .ref 117, .int r], ha)) (k := 5) rfl).trans ?_
  refine (rl_ld rfl h1).trans ?_
  refine (rl_go (c' := (1051, [.ref 2000000, .ref 0, .ref 117, .int i], [.int (i + (2 : Int32)), .ref 2000000, .int (xs (Int32.toNatClampNeg (i + (1 : Int32)))), .ref 117, .int r], ha)) (k := 4) rfl).trans ?_
  refine (rl_ld rfl h2).trans ?_
  refine (rl_go (c' := (1056, [.ref 2000000, .ref 0, .ref 117, .int i], [.int (i + (3 : Int32)), .ref 2000000, .int (xs (Int32.toNatClampNeg (i + (2 : Int32)))), .int (xs (Int32.toNatClampNeg (i + (1 : Int32)))), .ref 117, .int r], ha)) (k := 4) rfl).trans ?_
  refine (rl_ld rfl h3).trans ?_
  refine (fu_cV rfl rfl rfl rfl rfl (rl_rvr hRa am_at_X12_rewrite rfl) eb).trans ?_
  show rl_X L xs 1060 [.ref 2000000, .ref 0, .ref 117, .int i] [.int r, .int r] hb = _
  exact am_X_step (i := .if_icmp .eq 710) rfl (c' := (1770, [.ref 2000000, .ref 0, .ref 117, .int i], [], hb)) (by simp only [am_step, if_true])
set_option maxRecDepth 100000 in
theorem lw_case_24 {I : fu_S → fu_S → Prop} (hE : lw_E_24 I) {L : Nat} {xs : Nat → Int32} {i : Int32} {s1 s2 : fu_S} {h : am_H} (hI : I s1 s2) (hR : rl_R s1 s2 h) (h1 : am_in (i + (1 : Int32)) L = true) (h2 : am_in (i + (2 : Int32)) L = true) : ∃ t1 t2 h1, I t1 t2 ∧ rl_R t1 t2 h1 ∧ rl_X L xs 1065 [.ref 2000000, .ref 0, .ref 117, .int i] [] h = rl_X L xs 1770 [.ref 2000000, .ref 0, .ref 117, .int i] [] h1 := by
  obtain ⟨r, t1, t2, hc, hr, hI1⟩ := hE s1 s2 hI (xs (Int32.toNatClampNeg (i + (1 : Int32)))) (xs (Int32.toNatClampNeg (i + (2 : Int32))))
  have fc : am_D (fu_ho fc_sh) am_m 998 205 [.ref 0, .int (xs (Int32.toNatClampNeg (i + (1 : Int32)))), .int (xs (Int32.toNatClampNeg (i + (2 : Int32))))] s1 = some (some (.int (fu_b r)), t1) := (by have z := fu_eq (e_X11_rule 998 (by omega) s1 (xs (Int32.toNatClampNeg (i + (1 : Int32)))) (xs (Int32.toNatClampNeg (i + (2 : Int32))))) rfl; rw [hc] at z; exact z)
  have fr : am_D (fu_ho fr_sh) am_m 998 334 [.ref 117, .int (xs (Int32.toNatClampNeg (i + (1 : Int32)))), .int (xs (Int32.toNatClampNeg (i + (2 : Int32))))] s2 = some (some (.int (fu_b r)), t2) := ((e_X12_rule 998 (by omega) s2 (xs (Int32.toNatClampNeg (i + (1 : Int32)))) (xs (Int32.toNatClampNeg (i + (2 : Int32))))) _ hr _ rfl)
  obtain ⟨ha, ea, hRa⟩ := rl_c (L := L) (xs := xs) hR fc
  obtain ⟨hb, eb, hRb⟩ := rl_r (L := L) (xs := xs) hRa fr
  refine ⟨t1, t2, hb, hI1, hRb, ?_⟩
  refine (rl_go (c' := (1070, [.ref 2000000, .ref 0, .ref 117, .int i], [.int (i + (1 : Int32)), .ref 2000000, .ref 0], h)) (k := 5) rfl).trans ?_
  refine (rl_ld rfl h1).trans ?_
  refine (rl_go (c' := (1075, [.ref 2000000, .ref 0, .ref 117, .int i], [.int (i + (2 : Int32)), .ref 2000000, .int (xs (Int32.toNatClampNeg (i + (1 : Int32)))), .ref 0], h)) (k := 4) rfl).trans ?_
  refine (rl_ld rfl h2).trans ?_
  refine (fu_cV rfl rfl rfl rfl rfl (rl_rvc hR am_at_X11_rule rfl) ea).trans ?_
  show rl_X L xs 1079 [.ref 2000000, .ref 0, .ref 117, .int i] [.int (fu_b r)] ha = _
  refine (rl_go (c' := (1084, [.ref 2000000, .ref 0, .ref 117, .int i], [.int (i + (1 : Int32)), .ref 2000000, .ref 117, .int (fu_b r)], ha)) (k := 5) rfl).trans ?_
  refine (rl_ld rfl h1).trans ?_
  refine (rl_go (c' := (1089, [.ref 2000000, .ref 0, .ref 117, .int i], [.int (i + (2 : Int32)), .ref 2000000, .int (xs (Int32.toNatClampNeg (i + (1 : Int32)))), .ref 117, .int (fu_b r)], ha)) (k := 4) rfl).trans ?_
  refine (rl_ld rfl h2).trans ?_
  refine (fu_cV rfl rfl rfl rfl rfl (rl_rvr hRa am_at_X12_rule rfl) eb).trans ?_
  show rl_X L xs 1093 [.ref 2000000, .ref 0, .ref 117, .int i] [.int (fu_b r), .int (fu_b r)] hb = _
  exact am_X_step (i := .if_icmp .eq 677) rfl (c' := (1770, [.ref 2000000, .ref 0, .ref 117, .int i], [], hb)) (by simp only [am_step, if_true])
set_option maxRecDepth 100000 in
theorem lw_case_25 {I : fu_S → fu_S → Prop} (hE : lw_E_25 I) {L : Nat} {xs : Nat → Int32} {i : Int32} {s1 s2 : fu_S} {h : am_H} (hI : I s1 s2) (hR : rl_R s1 s2 h) (h1 : am_in (i + (1 : Int32)) L = true) : ∃ t1 t2 h1, I t1 t2 ∧ rl_R t1 t2 h1 ∧ rl_X L xs 1098 [.ref 2000000, .ref 0, .ref 117, .int i] [] h = rl_X L xs 1770 [.ref 2000000, .ref 0, .ref 117, .int i] [] h1 := by
  obtain ⟨r, t1, t2, hc, hr, hI1⟩ := hE s1 s2 hI (xs (Int32.toNatClampNeg (i + (1 : Int32))))
  have fc : am_D (fu_ho fc_sh) am_m 998 206 [.ref 0, .int (xs (Int32.toNatClampNeg (i + (1 : Int32))))] s1 = some (some (.int r), t1) := ((e_X11_soonest 998 (by omega) s1 (xs (Int32.toNatClampNeg (i + (1 : Int32))))) _ hc _ rfl)
  have fr : am_D (fu_ho fr_sh) am_m 998 335 [.ref 117, .int (xs (Int32.toNatClampNeg (i + (1 : Int32))))] s2 = some (some (.int r), t2) := ((e_X12_soonest 998 (by omega) s2 (xs (Int32.toNatClampNeg (i + (1 : Int32))))) _ hr _ rfl)
  obtain ⟨ha, ea, hRa⟩ := rl_c (L := L) (xs := xs) hR fc
  obtain ⟨hb, eb, hRb⟩ := rl_r (L := L) (xs := xs) hRa fr
  refine ⟨t1, t2, hb, hI1, hRb, ?_⟩
  refine (rl_go (c' := (1103, [.ref 2000000, .ref 0, .ref 117, .int i], [.int (i + (1 : Int32)), .ref 2000000, .ref 0], h)) (k := 5) rfl).trans ?_
  refine (rl_ld rfl h1).trans ?_
  refine (fu_cV rfl rfl rfl rfl rfl (rl_rvc hR am_at_X11_soonest rfl) ea).trans ?_
  show rl_X L xs 1107 [.ref 2000000, .ref 0, .ref 117, .int i] [.int r] ha = _
  refine (rl_go (c' := (1112, [.ref 2000000, .ref 0, .ref 117, .int i], [.int (i + (1 : Int32)), .ref 2000000, .ref 117, .int r], ha)) (k := 5) rfl).trans ?_
  refine (rl_ld rfl h1).trans ?_
  refine (fu_cV rfl rfl rfl rfl rfl (rl_rvr hRa am_at_X12_soonest rfl) eb).trans ?_
  show rl_X L xs 1116 [.ref 2000000, .ref 0, .ref 117, .int i] [.int r, .int r] hb = _
  exact am_X_step (i := .if_icmp .eq 654) rfl (c' := (1770, [.ref 2000000, .ref 0, .ref 117, .int i], [], hb)) (by simp only [am_step, if_true])
set_option maxRecDepth 100000 in
theorem lw_case_26 {I : fu_S → fu_S → Prop} (hE : lw_E_26 I) {L : Nat} {xs : Nat → Int32} {i : Int32} {s1 s2 : fu_S} {h : am_H} (hI : I s1 s2) (hR : rl_R s1 s2 h) : ∃ t1 t2 h1, I t1 t2 ∧ rl_R t1 t2 h1 ∧ rl_X L xs 1121 [.ref 2000000, .ref 0, .ref 117, .int i] [] h = rl_X L xs 1770 [.ref 2000000, .ref 0, .ref 117, .int i] [] h1 := by
  obtain ⟨r, t1, t2, hc, hr, hI1⟩ := hE s1 s2 hI 
  have fc : am_D (fu_ho fc_sh) am_m 998 207 [.ref 0] s1 = some (some (.int r), t1) := ((e_X11_round 998 (by omega) s1 ) _ hc _ rfl)
  have fr : am_D (fu_ho fr_sh) am_m 998 338 [.ref 117] s2 = some (some (.int r), t2) := ((e_X12_round 998 (by omega) s2 ) _ hr _ rfl)
  obtain ⟨ha, ea, hRa⟩ := rl_c (L := L) (xs := xs) hR fc
  obtain ⟨hb, eb, hRb⟩ := rl_r (L := L) (xs := xs) hRa fr
  refine ⟨t1, t2, hb, hI1, hRb, ?_⟩
  refine (rl_go (c' := (1122, [.ref 2000000, .ref 0, .ref 117, .int i], [.ref 0], h)) (k := 1) rfl).trans ?_
  refine (fu_cV rfl rfl rfl rfl rfl (rl_rvc hR am_at_X11_round rfl) ea).trans ?_
  show rl_X L xs 1125 [.ref 2000000, .ref 0, .ref 117, .int i] [.int r] ha = _
  refine (rl_go (c' := (1126, [.ref 2000000, .ref 0, .ref 117, .int i], [.ref 117, .int r], ha)) (k := 1) rfl).trans ?_
  refine (fu_cV rfl rfl rfl rfl rfl (rl_rvr hRa am_at_X12_round rfl) eb).trans ?_
  show rl_X L xs 1129 [.ref 2000000, .ref 0, .ref 117, .int i] [.int r, .int r] hb = _
  exact am_X_step (i := .if_icmp .eq 641) rfl (c' := (1770, [.ref 2000000, .ref 0, .ref 117, .int i], [], hb)) (by simp only [am_step, if_true])
set_option maxRecDepth 100000 in
theorem lw_case_27 {I : fu_S → fu_S → Prop} (hE : lw_E_27 I) {L : Nat} {xs : Nat → Int32} {i : Int32} {s1 s2 : fu_S} {h : am_H} (hI : I s1 s2) (hR : rl_R s1 s2 h) (h1 : am_in (i + (1 : Int32)) L = true) : ∃ t1 t2 h1, I t1 t2 ∧ rl_R t1 t2 h1 ∧ rl_X L xs 1134 [.ref 2000000, .ref 0, .ref 117, .int i] [] h = rl_X L xs 1770 [.ref 2000000, .ref 0, .ref 117, .int i] [] h1 := by
  obtain ⟨r, t1, t2, hc, hr, hI1⟩ := hE s1 s2 hI (xs (Int32.toNatClampNeg (i + (1 : Int32))))
  have fc : am_D (fu_ho fc_sh) am_m 998 208 [.ref 0, .int (xs (Int32.toNatClampNeg (i + (1 : Int32))))] s1 = some (some (.int r), t1) := ((e_X11_works 998 (by omega) s1 (xs (Int32.toNatClampNeg (i + (1 : Int32))))) _ hc _ rfl)
  have fr : am_D (fu_ho fr_sh) am_m 998 339 [.ref 117, .int (xs (Int32.toNatClampNeg (i + (1 : Int32))))] s2 = some (some (.int r), t2) := ((e_X12_works 998 (by omega) s2 (xs (Int32.toNatClampNeg (i + (1 : Int32))))) _ hr _ rfl)
  obtain ⟨ha, ea, hRa⟩ := rl_c (L := L) (xs := xs) hR fc
  obtain ⟨hb, eb, hRb⟩ := rl_r (L := L) (xs := xs) hRa fr
  refine ⟨t1, t2, hb, hI1, hRb, ?_⟩
  refine (rl_go (c' := (1139, [.ref 2000000, .ref 0, .ref 117, .int i], [.int (i + (1 : Int32)), .ref 2000000, .ref 0], h)) (k := 5) rfl).trans ?_
  refine (rl_ld rfl h1).trans ?_
  refine (fu_cV rfl rfl rfl rfl rfl (rl_rvc hR am_at_X11_works rfl) ea).trans ?_
  show rl_X L xs 1143 [.ref 2000000, .ref 0, .ref 117, .int i] [.int r] ha = _
  refine (rl_go (c' := (1148, [.ref 2000000, .ref 0, .ref 117, .int i], [.int (i + (1 : Int32)), .ref 2000000, .ref 117, .int r], ha)) (k := 5) rfl).trans ?_
  refine (rl_ld rfl h1).trans ?_
  refine (fu_cV rfl rfl rfl rfl rfl (rl_rvr hRa am_at_X12_works rfl) eb).trans ?_
  show rl_X L xs 1152 [.ref 2000000, .ref 0, .ref 117, .int i] [.int r, .int r] hb = _
  exact am_X_step (i := .if_icmp .eq 618) rfl (c' := (1770, [.ref 2000000, .ref 0, .ref 117, .int i], [], hb)) (by simp only [am_step, if_true])
set_option maxRecDepth 100000 in
theorem lw_case_28 {I : fu_S → fu_S → Prop} (hE : lw_E_28 I) {L : Nat} {xs : Nat → Int32} {i : Int32} {s1 s2 : fu_S} {h : am_H} (hI : I s1 s2) (hR : rl_R s1 s2 h) (h1 : am_in (i + (1 : Int32)) L = true) : ∃ t1 t2 h1, I t1 t2 ∧ rl_R t1 t2 h1 ∧ rl_X L xs 1157 [.ref 2000000, .ref 0, .ref 117, .int i] [] h = rl_X L xs 1770 [.ref 2000000, .ref 0, .ref 117, .int i] [] h1 := by
  obtain ⟨r, t1, t2, hc, hr, hI1⟩ := hE s1 s2 hI (xs (Int32.toNatClampNeg (i + (1 : Int32))))
  have fc : am_D (fu_ho fc_sh) am_m 998 209 [.ref 0, .int (xs (Int32.toNatClampNeg (i + (1 : Int32))))] s1 = some (some (.int r), t1) := ((e_X11_needs 998 (by omega) s1 (xs (Int32.toNatClampNeg (i + (1 : Int32))))) _ hc _ rfl)
  have fr : am_D (fu_ho fr_sh) am_m 998 341 [.ref 117, .int (xs (Int32.toNatClampNeg (i + (1 : Int32))))] s2 = some (some (.int r), t2) := ((e_X12_needs 998 (by omega) s2 (xs (Int32.toNatClampNeg (i + (1 : Int32))))) _ hr _ rfl)
  obtain ⟨ha, ea, hRa⟩ := rl_c (L := L) (xs := xs) hR fc
  obtain ⟨hb, eb, hRb⟩ := rl_r (L := L) (xs := xs) hRa fr
  refine ⟨t1, t2, hb, hI1, hRb, ?_⟩
  refine (rl_go (c' := (1162, [.ref 2000000, .ref 0, .ref 117, .int i], [.int (i + (1 : Int32)), .ref 2000000, .ref 0], h)) (k := 5) rfl).trans ?_
  refine (rl_ld rfl h1).trans ?_
  refine (fu_cV rfl rfl rfl rfl rfl (rl_rvc hR am_at_X11_needs rfl) ea).trans ?_
  show rl_X L xs 1166 [.ref 2000000, .ref 0, .ref 117, .int i] [.int r] ha = _
  refine (rl_go (c' := (1171, [.ref 2000000, .ref 0, .ref 117, .int i], [.int (i + (1 : Int32)), .ref 2000000, .ref 117, .int r], ha)) (k := 5) rfl).trans ?_
  refine (rl_ld rfl h1).trans ?_
  refine (fu_cV rfl rfl rfl rfl rfl (rl_rvr hRa am_at_X12_needs rfl) eb).trans ?_
  show rl_X L xs 1175 [.ref 2000000, .ref 0, .ref 117, .int i] [.int r, .int r] hb = _
  exact am_X_step (i := .if_icmp .eq 595) rfl (c' := (1770, [.ref 2000000, .ref 0, .ref 117, .int i], [], hb)) (by simp only [am_step, if_true])
set_option maxRecDepth 100000 in
theorem lw_case_29 {I : fu_S → fu_S → Prop} (hE : lw_E_29 I) {L : Nat} {xs : Nat → Int32} {i : Int32} {s1 s2 : fu_S} {h : am_H} (hI : I s1 s2) (hR : rl_R s1 s2 h) : ∃ t1 t2 h1, I t1 t2 ∧ rl_R t1 t2 h1 ∧ rl_X L xs 1180 [.ref 2000000, .ref 0, .ref 117, .int i] [] h = rl_X L xs 1770 [.ref 2000000, .ref 0, .ref 117, .int i] [] h1 := by
  obtain ⟨r, t1, t2, hc, hr, hI1⟩ := hE s1 s2 hI 
  have fc : am_D (fu_ho fc_sh) am_m 998 210 [.ref 0] s1 = some (some (.int r), t1) := ((e_X11_ring 998 (by omega) s1 ) _ hc _ rfl)
  have fr : am_D (fu_ho fr_sh) am_m 998 344 [.ref 117] s2 = some (some (.int r), t2) := ((e_X12_ring 998 (by omega) s2 ) _ hr _ rfl)
  obtain ⟨ha, ea, hRa⟩ := rl_c (L := L) (xs := xs) hR fc
  obtain ⟨hb, eb, hRb⟩ := rl_r (L := L) (xs := xs) hRa fr
  refine ⟨t1, t2, hb, hI1, hRb, ?_⟩
  refine (rl_go (c' := (1181, [.ref 2000000, .ref 0, .ref 117, .int i], [.ref 0], h)) (k := 1) rfl).trans ?_
  refine (fu_cV rfl rfl rfl rfl rfl (rl_rvc hR am_at_X11_ring rfl) ea).trans ?_
  show rl_X L xs 1184 [.ref 2000000, .ref 0, .ref 117, .int i] [.int r] ha = _
  refine (rl_go (c' := (1185, [.ref 2000000, .ref 0, .ref 117, .int i], [.ref 117, .int r], ha)) (k := 1) rfl).trans ?_
  refine (fu_cV rfl rfl rfl rfl rfl (rl_rvr hRa am_at_X12_ring rfl) eb).trans ?_
  show rl_X L xs 1188 [.ref 2000000, .ref 0, .ref 117, .int i] [.int r, .int r] hb = _
  exact am_X_step (i := .if_icmp .eq 582) rfl (c' := (1770, [.ref 2000000, .ref 0, .ref 117, .int i], [], hb)) (by simp only [am_step, if_true])
set_option maxRecDepth 100000 in
theorem lw_case_30 {I : fu_S → fu_S → Prop} (hE : lw_E_30 I) {L : Nat} {xs : Nat → Int32} {i : Int32} {s1 s2 : fu_S} {h : am_H} (hI : I s1 s2) (hR : rl_R s1 s2 h) : ∃ t1 t2 h1, I t1 t2 ∧ rl_R t1 t2 h1 ∧ rl_X L xs 1193 [.ref 2000000, .ref 0, .ref 117, .int i] [] h = rl_X L xs 1770 [.ref 2000000, .ref 0, .ref 117, .int i] [] h1 := by
  obtain ⟨r, t1, t2, hc, hr, hI1⟩ := hE s1 s2 hI 
  have fc : am_D (fu_ho fc_sh) am_m 998 211 [.ref 0] s1 = some (some (.int r), t1) := ((e_X11_ending 998 (by omega) s1 ) _ hc _ rfl)
  have fr : am_D (fu_ho fr_sh) am_m 998 346 [.ref 117] s2 = some (some (.int r), t2) := ((e_X12_ending 998 (by omega) s2 ) _ hr _ rfl)
  obtain ⟨ha, ea, hRa⟩ := rl_c (L := L) (xs := xs) hR fc
  obtain ⟨hb, eb, hRb⟩ := rl_r (L := L) (xs := xs) hRa fr
  refine ⟨t1, t2, hb, hI1, hRb, ?_⟩
  refine (rl_go (c' := (1194, [.ref 2000000, .ref 0, .ref 117, .int i], [.ref 0], h)) (k := 1) rfl).trans ?_
  refine (fu_cV rfl rfl rfl rfl rfl (rl_rvc hR am_at_X11_ending rfl) ea).trans ?_
  show rl_X L xs 1197 [.ref 2000000, .ref 0, .ref 117, .int i] [.int r] ha = _
  refine (rl_go (c' := (1198, [.ref 2000000, .ref 0, .ref 117, .int i], [.ref 117, .int r], ha)) (k := 1) rfl).trans ?_
  refine (fu_cV rfl rfl rfl rfl rfl (rl_rvr hRa am_at_X12_ending rfl) eb).trans ?_
  show rl_X L xs 1201 [.ref 2000000, .ref 0, .ref 117, .int i] [.int r, .int r] hb = _
  exact am_X_step (i := .if_icmp .eq 569) rfl (c' := (1770, [.ref 2000000, .ref 0, .ref 117, .int i], [], hb)) (by simp only [am_step, if_true])
set_option maxRecDepth 100000 in
theorem lw_case_31 {I : fu_S → fu_S → Prop} (hE : lw_E_31 I) {L : Nat} {xs : Nat → Int32} {i : Int32} {s1 s2 : fu_S} {h : am_H} (hI : I s1 s2) (hR : rl_R s1 s2 h) : ∃ t1 t2 h1, I t1 t2 ∧ rl_R t1 t2 h1 ∧ rl_X L xs 1206 [.ref 2000000, .ref 0, .ref 117, .int i] [] h = rl_X L xs 1770 [.ref 2000000, .ref 0, .ref 117, .int i] [] h1 := by
  obtain ⟨r, t1, t2, hc, hr, hI1⟩ := hE s1 s2 hI 
  have fc : am_D (fu_ho fc_sh) am_m 998 212 [.ref 0] s1 = some (some (.int r), t1) := ((e_X11_endingSet 998 (by omega) s1 ) _ hc _ rfl)
  have fr : am_D (fu_ho fr_sh) am_m 998 347 [.ref 117] s2 = some (some (.int r), t2) := ((e_X12_endingSet 998 (by omega) s2 ) _ hr _ rfl)
  obtain ⟨ha, ea, hRa⟩ := rl_c (L := L) (xs := xs) hR fc
  obtain ⟨hb, eb, hRb⟩ := rl_r (L := L) (xs := xs) hRa fr
  refine ⟨t1, t2, hb, hI1, hRb, ?_⟩
  refine (rl_go (c' := (1207, [.ref 2000000, .ref 0, .ref 117, .int i], [.ref 0], h)) (k := 1) rfl).trans ?_
  refine (fu_cV rfl rfl rfl rfl rfl (rl_rvc hR am_at_X11_endingSet rfl) ea).trans ?_
  show rl_X L xs 1210 [.ref 2000000, .ref 0, .ref 117, .int i] [.int r] ha = _
  refine (rl_go (c' := (1211, [.ref 2000000, .ref 0, .ref 117, .int i], [.ref 117, .int r], ha)) (k := 1) rfl).trans ?_
  refine (fu_cV rfl rfl rfl rfl rfl (rl_rvr hRa am_at_X12_endingSet rfl) eb).trans ?_
  show rl_X L xs 1214 [.ref 2000000, .ref 0, .ref 117, .int i] [.int r, .int r] hb = _
  exact am_X_step (i := .if_icmp .eq 556) rfl (c' := (1770, [.ref 2000000, .ref 0, .ref 117, .int i], [], hb)) (by simp only [am_step, if_true])
set_option maxRecDepth 100000 in
theorem lw_case_32 {I : fu_S → fu_S → Prop} (hE : lw_E_32 I) {L : Nat} {xs : Nat → Int32} {i : Int32} {s1 s2 : fu_S} {h : am_H} (hI : I s1 s2) (hR : rl_R s1 s2 h) (h1 : am_in (i + (1 : Int32)) L = true) (h2 : am_in (i + (2 : Int32)) L = true) : ∃ t1 t2 h1, I t1 t2 ∧ rl_R t1 t2 h1 ∧ rl_X L xs 1219 [.ref 2000000, .ref 0, .ref 117, .int i] [] h = rl_X L xs 1770 [.ref 2000000, .ref 0, .ref 117, .int i] [] h1 := by
  obtain ⟨r, t1, t2, hc, hr, hI1⟩ := hE s1 s2 hI (xs (Int32.toNatClampNeg (i + (1 : Int32)))) (xs (Int32.toNatClampNeg (i + (2 : Int32))))
  have fc : am_D (fu_ho fc_sh) am_m 998 213 [.ref 0, .int (xs (Int32.toNatClampNeg (i + (1 : Int32)))), .int (xs (Int32.toNatClampNeg (i + (2 : Int32))))] s1 = some (some (.int r), t1) := ((e_X11_couples 998 (by omega) s1 (xs (Int32.toNatClampNeg (i + (1 : Int32)))) (xs (Int32.toNatClampNeg (i + (2 : Int32))))) _ hc _ rfl)
  have fr : am_D (fu_ho fr_sh) am_m 998 349 [.ref 117, .int (xs (Int32.toNatClampNeg (i + (1 : Int32)))), .int (xs (Int32.toNatClampNeg (i + (2 : Int32))))] s2 = some (some (.int r), t2) := ((e_X12_couples 998 (by omega) s2 (xs (Int32.toNatClampNeg (i + (1 : Int32)))) (xs (Int32.toNatClampNeg (i + (2 : Int32))))) _ hr _ rfl)
  obtain ⟨ha, ea, hRa⟩ := rl_c (L := L) (xs := xs) hR fc
  obtain ⟨hb, eb, hRb⟩ := rl_r (L := L) (xs := xs) hRa fr
  refine ⟨t1, t2, hb, hI1, hRb, ?_⟩
  refine (rl_go (c' := (1224, [.ref 2000000, .ref 0, .ref 117, .int i], [.int (i + (1 : Int32)), .ref 2000000, .ref 0], h)) (k := 5) rfl).trans ?_
  refine (rl_ld rfl h1).trans ?_
  refine (rl_go (c' := (1229, [.ref 2000000, .ref 0, .ref 117, .int i], [.int (i + (2 : Int32)), .ref 2000000, .int (xs (Int32.toNatClampNeg (i + (1 : Int32)))), .ref 0], h)) (k := 4) rfl).trans ?_
  refine (rl_ld rfl h2).trans ?_
  refine (fu_cV rfl rfl rfl rfl rfl (rl_rvc hR am_at_X11_couples rfl) ea).trans ?_
  show rl_X L xs 1233 [.ref 2000000, .ref 0, .ref 117, .int i] [.int r] ha = _
  refine (rl_go (c' := (1238, [.ref 2000000, .ref 0, .ref 117, .int i], [.int (i + (1 : Int32)), .ref 2000000, .ref 117, .int r], ha)) (k := 5) rfl).trans ?_
  refine (rl_ld rfl h1).trans ?_
  refine (rl_go (c' := (1243, [.ref 2000000, .ref 0, .ref 117, .int i], [.int (i + (2 : Int32)), .ref 2000000, .int (xs (Int32.toNatClampNeg (i + (1 : Int32)))), .ref 117, .int r], ha)) (k := 4) rfl).trans ?_
  refine (rl_ld rfl h2).trans ?_
  refine (fu_cV rfl rfl rfl rfl rfl (rl_rvr hRa am_at_X12_couples rfl) eb).trans ?_
  show rl_X L xs 1247 [.ref 2000000, .ref 0, .ref 117, .int i] [.int r, .int r] hb = _
  exact am_X_step (i := .if_icmp .eq 523) rfl (c' := (1770, [.ref 2000000, .ref 0, .ref 117, .int i], [], hb)) (by simp only [am_step, if_true])
set_option maxRecDepth 100000 in
theorem lw_case_33 {I : fu_S → fu_S → Prop} (hE : lw_E_33 I) {L : Nat} {xs : Nat → Int32} {i : Int32} {s1 s2 : fu_S} {h : am_H} (hI : I s1 s2) (hR : rl_R s1 s2 h) (h1 : am_in (i + (1 : Int32)) L = true) (h2 : am_in (i + (2 : Int32)) L = true) (h3 : am_in (i + (3 : Int32)) L = true) : ∃ t1 t2 h1, I t1 t2 ∧ rl_R t1 t2 h1 ∧ rl_X L xs 1252 [.ref 2000000, .ref 0, .ref 117, .int i] [] h = rl_X L xs 1770 [.ref 2000000, .ref 0, .ref 117, .int i] [] h1 := by
  obtain ⟨r, t1, t2, hc, hr, hI1⟩ := hE s1 s2 hI (xs (Int32.toNatClampNeg (i + (1 : Int32)))) (xs (Int32.toNatClampNeg (i + (2 : Int32)))) (xs (Int32.toNatClampNeg (i + (3 : Int32))))
  have fc : am_D (fu_ho fc_sh) am_m 998 214 [.ref 0, .int (xs (Int32.toNatClampNeg (i + (1 : Int32)))), .int (xs (Int32.toNatClampNeg (i + (2 : Int32)))), .int (xs (Int32.toNatClampNeg (i + (3 : Int32))))] s1 = some (some (.int (fu_b r)), t1) := ((e_X11_whose 998 (by omega) s1 (xs (Int32.toNatClampNeg (i + (1 : Int32)))) (xs (Int32.toNatClampNeg (i + (2 : Int32)))) (xs (Int32.toNatClampNeg (i + (3 : Int32))))) _ hc _ rfl)
  have fr : am_D (fu_ho fr_sh) am_m 998 350 [.ref 117, .int (xs (Int32.toNatClampNeg (i + (1 : Int32)))), .int (xs (Int32.toNatClampNeg (i + (2 : Int32)))), .int (xs (Int32.toNatClampNeg (i + (3 : Int32))))] s2 = some (some (.int (fu_b r)), t2) := ((e_X12_whose 998 (by omega) s2 (xs (Int32.toNatClampNeg (i + (1 : Int32)))) (xs (Int32.toNatClampNeg (i + (2 : Int32)))) (xs (Int32.toNatClampNeg (i + (3 : Int32))))) _ hr _ rfl)
  obtain ⟨ha, ea, hRa⟩ := rl_c (L := L) (xs := xs) hR fc
  obtain ⟨hb, eb, hRb⟩ := rl_r (L := L) (xs := xs) hRa fr
  refine ⟨t1, t2, hb, hI1, hRb, ?_⟩
  refine (rl_go (c' := (1257, [.ref 2000000, .ref 0, .ref 117, .int i], [.int (i + (1 : Int32)), .ref 2000000, .ref 0], h)) (k := 5) rfl).trans ?_
  refine (rl_ld rfl h1).trans ?_
  refine (rl_go (c' := (1262, [.ref 2000000, .ref 0, .ref 117, .int i], [.int (i + (2 : Int32)), .ref 2000000, .int (xs (Int32.toNatClampNeg (i + (1 : Int32)))), .ref 0], h)) (k := 4) rfl).trans ?_
  refine (rl_ld rfl h2).trans ?_
  refine (rl_go (c' := (1267, [.ref 2000000, .ref 0, .ref 117, .int i], [.int (i + (3 : Int32)), .ref 2000000, .int (xs (Int32.toNatClampNeg (i + (2 : Int32)))), .int (xs (Int32.toNatClampNeg (i + (1 : Int32)))), .ref 0], h)) (k := 4) rfl).trans ?_
  refine (rl_ld rfl h3).trans ?_
  refine (fu_cV rfl rfl rfl rfl rfl (rl_rvc hR am_at_X11_whose rfl) ea).trans ?_
  show rl_X L xs 1271 [.ref 2000000, .ref 0, .ref 117, .int i] [.int (fu_b r)] ha = _
  refine (rl_go (c' := (1276, [.ref 2000000, .ref 0, .ref 117, .int i], [.int (i + (1 : Int32)), .ref 2000000, .ref 117, .int (fu_b r)], ha)) (k := 5) rfl).trans ?_
  refine (rl_ld rfl h1).trans ?_
  refine (rl_go (c' := (1281, [.ref 2000000, .ref 0, .ref 117, .int i], [.int (i + (2 : Int32)), .ref 2000000, .int (xs (Int32.toNatClampNeg (i + (1 : Int32)))), .ref 117, .int (fu_b r)], ha)) (k := 4) rfl).trans ?_
  refine (rl_ld rfl h2).trans ?_
  refine (rl_go (c' := (1286, [.ref 2000000, .ref 0, .ref 117, .int i], [.int (i + (3 : Int32)), .ref 2000000, .int (xs (Int32.toNatClampNeg (i + (2 : Int32)))), .int (xs (Int32.toNatClampNeg (i + (1 : Int32)))), .ref 117, .int (fu_b r)], ha)) (k := 4) rfl).trans ?_
  refine (rl_ld rfl h3).trans ?_
  refine (fu_cV rfl rfl rfl rfl rfl (rl_rvr hRa am_at_X12_whose rfl) eb).trans ?_
  show rl_X L xs 1290 [.ref 2000000, .ref 0, .ref 117, .int i] [.int (fu_b r), .int (fu_b r)] hb = _
  exact am_X_step (i := .if_icmp .eq 480) rfl (c' := (1770, [.ref 2000000, .ref 0, .ref 117, .int i], [], hb)) (by simp only [am_step, if_true])
set_option maxRecDepth 100000 in
theorem lw_case_34 {I : fu_S → fu_S → Prop} (hE : lw_E_34 I) {L : Nat} {xs : Nat → Int32} {i : Int32} {s1 s2 : fu_S} {h : am_H} (hI : I s1 s2) (hR : rl_R s1 s2 h) (h1 : am_in (i + (1 : Int32)) L = true) (h2 : am_in (i + (2 : Int32)) L = true) : ∃ t1 t2 h1, I t1 t2 ∧ rl_R t1 t2 h1 ∧ rl_X L xs 1295 [.ref 2000000, .ref 0, .ref 117, .int i] [] h = rl_X L xs 1770 [.ref 2000000, .ref 0, .ref 117, .int i] [] h1 := by
  obtain ⟨r, t1, t2, hc, hr, hI1⟩ := hE s1 s2 hI (xs (Int32.toNatClampNeg (i + (1 : Int32)))) (xs (Int32.toNatClampNeg (i + (2 : Int32))))
  have fc : am_D (fu_ho fc_sh) am_m 998 215 [.ref 0, .int (xs (Int32.toNatClampNeg (i + (1 : Int32)))), .int (xs (Int32.toNatClampNeg (i + (2 : Int32))))] s1 = some (some (.int r), t1) := ((e_X11_laws 998 (by omega) s1 (xs (Int32.toNatClampNeg (i + (1 : Int32)))) (xs (Int32.toNatClampNeg (i + (2 : Int32))))) _ hc _ rfl)
  have fr : am_D (fu_ho fr_sh) am_m 998 353 [.ref 117, .int (xs (Int32.toNatClampNeg (i + (1 : Int32)))), .int (xs (Int32.toNatClampNeg (i + (2 : Int32))))] s2 = some (some (.int r), t2) := ((e_X12_laws 998 (by omega) s2 (xs (Int32.toNatClampNeg (i + (1 : Int32)))) (xs (Int32.toNatClampNeg (i + (2 : Int32))))) _ hr _ rfl)
  obtain ⟨ha, ea, hRa⟩ := rl_c (L := L) (xs := xs) hR fc
  obtain ⟨hb, eb, hRb⟩ := rl_r (L := L) (xs := xs) hRa fr
  refine ⟨t1, t2, hb, hI1, hRb, ?_⟩
  refine (rl_go (c' := (1300, [.ref 2000000, .ref 0, .ref 117, .int i], [.int (i + (1 : Int32)), .ref 2000000, .ref 0], h)) (k := 5) rfl).trans ?_
  refine (rl_ld rfl h1).trans ?_
  refine (rl_go (c' := (1305, [.ref 2000000, .ref 0, .ref 117, .int i], [.int (i + (2 : Int32)), .ref 2000000, .int (xs (Int32.toNatClampNeg (i + (1 : Int32)))), .ref 0], h)) (k := 4) rfl).trans ?_
  refine (rl_ld rfl h2).trans ?_
  refine (fu_cV rfl rfl rfl rfl rfl (rl_rvc hR am_at_X11_laws rfl) ea).trans ?_
  show rl_X L xs 1309 [.ref 2000000, .ref 0, .ref 117, .int i] [.int r] ha = _
  refine (rl_go (c' := (1314, [.ref 2000000, .ref 0, .ref 117, .int i], [.int (i + (1 : Int32)), .ref 2000000, .ref 117, .int r], ha)) (k := 5) rfl).trans ?_
  refine (rl_ld rfl h1).trans ?_
  refine (rl_go (c' := (1319, [.ref 2000000, .ref 0, .ref 117, .int i], [.int (i + (2 : Int32)), .ref 2000000, .int (xs (Int32.toNatClampNeg (i + (1 : Int32)))), .ref 117, .int r], ha)) (k := 4) rfl).trans ?_
  refine (rl_ld rfl h2).trans ?_
  refine (fu_cV rfl rfl rfl rfl rfl (rl_rvr hRa am_at_X12_laws rfl) eb).trans ?_
  show rl_X L xs 1323 [.ref 2000000, .ref 0, .ref 117, .int i] [.int r, .int r] hb = _
  exact am_X_step (i := .if_icmp .eq 447) rfl (c' := (1770, [.ref 2000000, .ref 0, .ref 117, .int i], [], hb)) (by simp only [am_step, if_true])
set_option maxRecDepth 100000 in
theorem lw_case_35 {I : fu_S → fu_S → Prop} (hE : lw_E_35 I) {L : Nat} {xs : Nat → Int32} {i : Int32} {s1 s2 : fu_S} {h : am_H} (hI : I s1 s2) (hR : rl_R s1 s2 h) (h1 : am_in (i + (1 : Int32)) L = true) (h2 : am_in (i + (2 : Int32)) L = true) (h3 : am_in (i + (3 : Int32)) L = true) : ∃ t1 t2 h1, I t1 t2 ∧ rl_R t1 t2 h1 ∧ rl_X L xs 1328 [.ref 2000000, .ref 0, .ref 117, .int i] [] h = rl_X L xs 1770 [.ref 2000000, .ref 0, .ref 117, .int i] [] h1 := by
  obtain ⟨r, t1, t2, hc, hr, hI1⟩ := hE s1 s2 hI (xs (Int32.toNatClampNeg (i + (1 : Int32)))) (xs (Int32.toNatClampNeg (i + (2 : Int32)))) (xs (Int32.toNatClampNeg (i + (3 : Int32))))
  have fc : am_D (fu_ho fc_sh) am_m 998 216 [.ref 0, .int (xs (Int32.toNatClampNeg (i + (1 : Int32)))), .int (xs (Int32.toNatClampNeg (i + (2 : Int32)))), .int (xs (Int32.toNatClampNeg (i + (3 : Int32))))] s1 = some (some (.int r), t1) := ((e_X11_lawOf 998 (by omega) s1 (xs (Int32.toNatClampNeg (i + (1 : Int32)))) (xs (Int32.toNatClampNeg (i + (2 : Int32)))) (xs (Int32.toNatClampNeg (i + (3 : Int32))))) _ hc _ rfl)
  have fr : am_D (fu_ho fr_sh) am_m 998 354 [.ref 117, .int (xs (Int32.toNatClampNeg (i + (1 : Int32)))), .int (xs (Int32.toNatClampNeg (i + (2 : Int32)))), .int (xs (Int32.toNatClampNeg (i + (3 : Int32))))] s2 = some (some (.int r), t2) := ((e_X12_lawOf 998 (by omega) s2 (xs (Int32.toNatClampNeg (i + (1 : Int32)))) (xs (Int32.toNatClampNeg (i + (2 : Int32)))) (xs (Int32.toNatClampNeg (i + (3 : Int32))))) _ hr _ rfl)
  obtain ⟨ha, ea, hRa⟩ := rl_c (L := L) (xs := xs) hR fc
  obtain ⟨hb, eb, hRb⟩ := rl_r (L := L) (xs := xs) hRa fr
  refine ⟨t1, t2, hb, hI1, hRb, ?_⟩
  refine (rl_go (c' := (1333, [.ref 2000000, .ref 0, .ref 117, .int i], [.int (i + (1 : Int32)), .ref 2000000, .ref 0], h)) (k := 5) rfl).trans ?_
  refine (rl_ld rfl h1).trans ?_
  refine (rl_go (c' := (1338, [.ref 2000000, .ref 0, .ref 117, .int i], [.int (i + (2 : Int32)), .ref 2000000, .int (xs (Int32.toNatClampNeg (i + (1 : Int32)))), .ref 0], h)) (k := 4) rfl).trans ?_
  refine (rl_ld rfl h2).trans ?_
  refine (rl_go (c' := (1343, [.ref 2000000, .ref 0, .ref 117, .int i], [.int (i + (3 : Int32)), .ref 2000000, .int (xs (Int32.toNatClampNeg (i + (2 : Int32)))), .int (xs (Int32.toNatClampNeg (i + (1 : Int32)))), .ref 0], h)) (k := 4) rfl).trans ?_
  refine (rl_ld rfl h3).trans ?_
  refine (fu_cV rfl rfl rfl rfl rfl (rl_rvc hR am_at_X11_lawOf rfl) ea).trans ?_
  show rl_X L xs 1347 [.ref 2000000, .ref 0, .ref 117, .int i] [.int r] ha = _
  refine (rl_go (c' := (1352, [.ref 2000000, .ref 0, .ref 117, .int i], [.int (i + (1 : Int32)), .ref 2000000, .ref 117, .int r], ha)) (k := 5) rfl).trans ?_
  refine (rl_ld rfl h1).trans ?_
  refine (rl_go (c' := (1357, [.ref 2000000, .ref 0, .ref 117, .int i], [.int (i + (2 : Int32)), .ref 2000000, .int (xs (Int32.toNatClampNeg (i + (1 : Int32)))), .ref 117, .int r], ha)) (k := 4) rfl).trans ?_
  refine (rl_ld rfl h2).trans ?_
  refine (rl_go (c' := (1362, [.ref 2000000, .ref 0, .ref 117, .int i], [.int (i + (3 : Int32)), .ref 2000000, .int (xs (Int32.toNatClampNeg (i + (2 : Int32)))), .int (xs (Int32.toNatClampNeg (i + (1 : Int32)))), .ref 117, .int r], ha)) (k := 4) rfl).trans ?_
  refine (rl_ld rfl h3).trans ?_
  refine (fu_cV rfl rfl rfl rfl rfl (rl_rvr hRa am_at_X12_lawOf rfl) eb).trans ?_
  show rl_X L xs 1366 [.ref 2000000, .ref 0, .ref 117, .int i] [.int r, .int r] hb = _
  exact am_X_step (i := .if_icmp .eq 404) rfl (c' := (1770, [.ref 2000000, .ref 0, .ref 117, .int i], [], hb)) (by simp only [am_step, if_true])
set_option maxRecDepth 100000 in
theorem lw_case_36 {I : fu_S → fu_S → Prop} (hE : lw_E_36 I) {L : Nat} {xs : Nat → Int32} {i : Int32} {s1 s2 : fu_S} {h : am_H} (hI : I s1 s2) (hR : rl_R s1 s2 h) (h1 : am_in (i + (1 : Int32)) L = true) (h2 : am_in (i + (2 : Int32)) L = true) : ∃ t1 t2 h1, I t1 t2 ∧ rl_R t1 t2 h1 ∧ rl_X L xs 1371 [.ref 2000000, .ref 0, .ref 117, .int i] [] h = rl_X L xs 1770 [.ref 2000000, .ref 0, .ref 117, .int i] [] h1 := by
  obtain ⟨r, t1, t2, hc, hr, hI1⟩ := hE s1 s2 hI (xs (Int32.toNatClampNeg (i + (1 : Int32)))) (xs (Int32.toNatClampNeg (i + (2 : Int32))))
  have fc : am_D (fu_ho fc_sh) am_m 998 218 [.ref 0, .int (xs (Int32.toNatClampNeg (i + (1 : Int32)))), .int (xs (Int32.toNatClampNeg (i + (2 : Int32))))] s1 = some (some (.int r), t1) := ((e_X11_hands 998 (by omega) s1 (xs (Int32.toNatClampNeg (i + (1 : Int32)))) (xs (Int32.toNatClampNeg (i + (2 : Int32))))) _ hc _ rfl)
  have fr : am_D (fu_ho fr_sh) am_m 998 356 [.ref 117, .int (xs (Int32.toNatClampNeg (i + (1 : Int32)))), .int (xs (Int32.toNatClampNeg (i + (2 : Int32))))] s2 = some (some (.int r), t2) := ((e_X12_hands 998 (by omega) s2 (xs (Int32.toNatClampNeg (i + (1 : Int32)))) (xs (Int32.toNatClampNeg (i + (2 : Int32))))) _ hr _ rfl)
  obtain ⟨ha, ea, hRa⟩ := rl_c (L := L) (xs := xs) hR fc
  obtain ⟨hb, eb, hRb⟩ := rl_r (L := L) (xs := xs) hRa fr
  refine ⟨t1, t2, hb, hI1, hRb, ?_⟩
  refine (rl_go (c' := (1376, [.ref 2000000, .ref 0, .ref 117, .int i], [.int (i + (1 : Int32)), .ref 2000000, .ref 0], h)) (k := 5) rfl).trans ?_
  refine (rl_ld rfl h1).trans ?_
  refine (rl_go (c' := (1381, [.ref 2000000, .ref 0, .ref 117, .int i], [.int (i + (2 : Int32)), .ref 2000000, .int (xs (Int32.toNatClampNeg (i + (1 : Int32)))), .ref 0], h)) (k := 4) rfl).trans ?_
  refine (rl_ld rfl h2).trans ?_
  refine (fu_cV rfl rfl rfl rfl rfl (rl_rvc hR am_at_X11_hands rfl) ea).trans ?_
  show rl_X L xs 1385 [.ref 2000000, .ref 0, .ref 117, .int i] [.int r] ha = _
  refine (rl_go (c' := (1390, [.ref 2000000, .ref 0, .ref 117, .int i], [.int (i + (1 : Int32)), .ref 2000000, .ref 117, .int r], ha)) (k := 5) rfl).trans ?_
  refine (rl_ld rfl h1).trans ?_
  refine (rl_go (c' := (1395, [.ref 2000000, .ref 0, .ref 117, .int i], [.int (i + (2 : Int32)), .ref 2000000, .int (xs (Int32.toNatClampNeg (i + (1 : Int32)))), .ref 117, .int r], ha)) (k := 4) rfl).trans ?_
  refine (rl_ld rfl h2).trans ?_
  refine (fu_cV rfl rfl rfl rfl rfl (rl_rvr hRa am_at_X12_hands rfl) eb).trans ?_
  show rl_X L xs 1399 [.ref 2000000, .ref 0, .ref 117, .int i] [.int r, .int r] hb = _
  exact am_X_step (i := .if_icmp .eq 371) rfl (c' := (1770, [.ref 2000000, .ref 0, .ref 117, .int i], [], hb)) (by simp only [am_step, if_true])
set_option maxRecDepth 100000 in
theorem lw_case_37 {I : fu_S → fu_S → Prop} (hE : lw_E_37 I) {L : Nat} {xs : Nat → Int32} {i : Int32} {s1 s2 : fu_S} {h : am_H} (hI : I s1 s2) (hR : rl_R s1 s2 h) (h1 : am_in (i + (1 : Int32)) L = true) (h2 : am_in (i + (2 : Int32)) L = true) (h3 : am_in (i + (3 : Int32)) L = true) : ∃ t1 t2 h1, I t1 t2 ∧ rl_R t1 t2 h1 ∧ rl_X L xs 1404 [.ref 2000000, .ref 0, .ref 117, .int i] [] h = rl_X L xs 1770 [.ref 2000000, .ref 0, .ref 117, .int i] [] h1 := by
  obtain ⟨r, t1, t2, hc, hr, hI1⟩ := hE s1 s2 hI (xs (Int32.toNatClampNeg (i + (1 : Int32)))) (xs (Int32.toNatClampNeg (i + (2 : Int32)))) (xs (Int32.toNatClampNeg (i + (3 : Int32))))
  have fc : am_D (fu_ho fc_sh) am_m 998 219 [.ref 0, .int (xs (Int32.toNatClampNeg (i + (1 : Int32)))), .int (xs (Int32.toNatClampNeg (i + (2 : Int32)))), .int (xs (Int32.toNatClampNeg (i + (3 : Int32))))] s1 = some (some (.int r), t1) := ((e_X11_way 998 (by omega) s1 (xs (Int32.toNatClampNeg (i + (1 : Int32)))) (xs (Int32.toNatClampNeg (i + (2 : Int32)))) (xs (Int32.toNatClampNeg (i + (3 : Int32))))) _ hc _ rfl)
  have fr : am_D (fu_ho fr_sh) am_m 998 357 [.ref 117, .int (xs (Int32.toNatClampNeg (i + (1 : Int32)))), .int (xs (Int32.toNatClampNeg (i + (2 : Int32)))), .int (xs (Int32.toNatClampNeg (i + (3 : Int32))))] s2 = some (some (.int r), t2) := ((e_X12_way 998 (by omega) s2 (xs (Int32.toNatClampNeg (i + (1 : Int32)))) (xs (Int32.toNatClampNeg (i + (2 : Int32)))) (xs (Int32.toNatClampNeg (i + (3 : Int32))))) _ hr _ rfl)
  obtain ⟨ha, ea, hRa⟩ := rl_c (L := L) (xs := xs) hR fc
  obtain ⟨hb, eb, hRb⟩ := rl_r (L := L) (xs := xs) hRa fr
  refine ⟨t1, t2, hb, hI1, hRb, ?_⟩
  refine (rl_go (c' := (1409, [.ref 2000000, .ref 0, .ref 117, .int i], [.int (i + (1 : Int32)), .ref 2000000, .ref 0], h)) (k := 5) rfl).trans ?_
  refine (rl_ld rfl h1).trans ?_
  refine (rl_go (c' := (1414, [.ref 2000000, .ref 0, .ref 117, .int i], [.int (i + (2 : Int32)), .ref 2000000, .int (xs (Int32.toNatClampNeg (i + (1 : Int32)))), .ref 0], h)) (k := 4) rfl).trans ?_
  refine (rl_ld rfl h2).trans ?_
  refine (rl_go (c' := (1419, [.ref 2000000, .ref 0, .ref 117, .int i], [.int (i + (3 : Int32)), .ref 2000000, .int (xs (Int32.toNatClampNeg (i + (2 : Int32)))), .int (xs (Int32.toNatClampNeg (i + (1 : Int32)))), .ref 0], h)) (k := 4) rfl).trans ?_
  refine (rl_ld rfl h3).trans ?_
  refine (fu_cV rfl rfl rfl rfl rfl (rl_rvc hR am_at_X11_way rfl) ea).trans ?_
  show rl_X L xs 1423 [.ref 2000000, .ref 0, .ref 117, .int i] [.int r] ha = _
  refine (rl_go (c' := (1428, [.ref 2000000, .ref 0, .ref 117, .int i], [.int (i + (1 : Int32)), .ref 2000000, .ref 117, .int r], ha)) (k := 5) rfl).trans ?_
  refine (rl_ld rfl h1).trans ?_
  refine (rl_go (c' := (1433, [.ref 2000000, .ref 0, .ref 117, .int i], [.int (i + (2 : Int32)), .ref 2000000, .int (xs (Int32.toNatClampNeg (i + (1 : Int32)))), .ref 117, .int r], ha)) (k := 4) rfl).trans ?_
  refine (rl_ld rfl h2).trans ?_
  refine (rl_go (c' := (1438, [.ref 2000000, .ref 0, .ref 117, .int i], [.int (i + (3 : Int32)), .ref 2000000, .int (xs (Int32.toNatClampNeg (i + (2 : Int32)))), .int (xs (Int32.toNatClampNeg (i + (1 : Int32)))), .ref 117, .int r], ha)) (k := 4) rfl).trans ?_
  refine (rl_ld rfl h3).trans ?_
  refine (fu_cV rfl rfl rfl rfl rfl (rl_rvr hRa am_at_X12_way rfl) eb).trans ?_
  show rl_X L xs 1442 [.ref 2000000, .ref 0, .ref 117, .int i] [.int r, .int r] hb = _
  exact am_X_step (i := .if_icmp .eq 328) rfl (c' := (1770, [.ref 2000000, .ref 0, .ref 117, .int i], [], hb)) (by simp only [am_step, if_true])
set_option maxRecDepth 100000 in
theorem lw_case_38 {I : fu_S → fu_S → Prop} (hE : lw_E_38 I) {L : Nat} {xs : Nat → Int32} {i : Int32} {s1 s2 : fu_S} {h : am_H} (hI : I s1 s2) (hR : rl_R s1 s2 h) (h1 : am_in (i + (1 : Int32)) L = true) (h2 : am_in (i + (2 : Int32)) L = true) : ∃ t1 t2 h1, I t1 t2 ∧ rl_R t1 t2 h1 ∧ rl_X L xs 1447 [.ref 2000000, .ref 0, .ref 117, .int i] [] h = rl_X L xs 1770 [.ref 2000000, .ref 0, .ref 117, .int i] [] h1 := by
  obtain ⟨r, t1, t2, hc, hr, hI1⟩ := hE s1 s2 hI (xs (Int32.toNatClampNeg (i + (1 : Int32)))) (xs (Int32.toNatClampNeg (i + (2 : Int32))))
  have fc : am_D (fu_ho fc_sh) am_m 998 220 [.ref 0, .int (xs (Int32.toNatClampNeg (i + (1 : Int32)))), .int (xs (Int32.toNatClampNeg (i + (2 : Int32))))] s1 = some (some (.int r), t1) := ((e_X11_signs 998 (by omega) s1 (xs (Int32.toNatClampNeg (i + (1 : Int32)))) (xs (Int32.toNatClampNeg (i + (2 : Int32))))) _ hc _ rfl)
  have fr : am_D (fu_ho fr_sh) am_m 998 358 [.ref 117, .int (xs (Int32.toNatClampNeg (i + (1 : Int32)))), .int (xs (Int32.toNatClampNeg (i + (2 : Int32))))] s2 = some (some (.int r), t2) := ((e_X12_signs 998 (by omega) s2 (xs (Int32.toNatClampNeg (i + (1 : Int32)))) (xs (Int32.toNatClampNeg (i + (2 : Int32))))) _ hr _ rfl)
  obtain ⟨ha, ea, hRa⟩ := rl_c (L := L) (xs := xs) hR fc
  obtain ⟨hb, eb, hRb⟩ := rl_r (L := L) (xs := xs) hRa fr
  refine ⟨t1, t2, hb, hI1, hRb, ?_⟩
  refine (rl_go (c' := (1452, [.ref 2000000, .ref 0, .ref 117, .int i], [.int (i + (1 : Int32)), .ref 2000000, .ref 0], h)) (k := 5) rfl).trans ?_
  refine (rl_ld rfl h1).trans ?_
  refine (rl_go (c' := (1457, [.ref 2000000, .ref 0, .ref 117, .int i], [.int (i + (2 : Int32)), .ref 2000000, .int (xs (Int32.toNatClampNeg (i + (1 : Int32)))), .ref 0], h)) (k := 4) rfl).trans ?_
  refine (rl_ld rfl h2).trans ?_
  refine (fu_cV rfl rfl rfl rfl rfl (rl_rvc hR am_at_X11_signs rfl) ea).trans ?_
  show rl_X L xs 1461 [.ref 2000000, .ref 0, .ref 117, .int i] [.int r] ha = _
  refine (rl_go (c' := (1466, [.ref 2000000, .ref 0, .ref 117, .int i], [.int (i + (1 : Int32)), .ref 2000000, .ref 117, .int r], ha)) (k := 5) rfl).trans ?_
  refine (rl_ld rfl h1).trans ?_
  refine (rl_go (c' := (1471, [.ref 2000000, .ref 0, .ref 117, .int i], [.int (i + (2 : Int32)), .ref 2000000, .int (xs (Int32.toNatClampNeg (i + (1 : Int32)))), .ref 117, .int r], ha)) (k := 4) rfl).trans ?_
  refine (rl_ld rfl h2).trans ?_
  refine (fu_cV rfl rfl rfl rfl rfl (rl_rvr hRa am_at_X12_signs rfl) eb).trans ?_
  show rl_X L xs 1475 [.ref 2000000, .ref 0, .ref 117, .int i] [.int r, .int r] hb = _
  exact am_X_step (i := .if_icmp .eq 295) rfl (c' := (1770, [.ref 2000000, .ref 0, .ref 117, .int i], [], hb)) (by simp only [am_step, if_true])
set_option maxRecDepth 100000 in
theorem lw_case_39 {I : fu_S → fu_S → Prop} (hE : lw_E_39 I) {L : Nat} {xs : Nat → Int32} {i : Int32} {s1 s2 : fu_S} {h : am_H} (hI : I s1 s2) (hR : rl_R s1 s2 h) (h1 : am_in (i + (1 : Int32)) L = true) (h2 : am_in (i + (2 : Int32)) L = true) : ∃ t1 t2 h1, I t1 t2 ∧ rl_R t1 t2 h1 ∧ rl_X L xs 1480 [.ref 2000000, .ref 0, .ref 117, .int i] [] h = rl_X L xs 1770 [.ref 2000000, .ref 0, .ref 117, .int i] [] h1 := by
  obtain ⟨r, t1, t2, hc, hr, hI1⟩ := hE s1 s2 hI (xs (Int32.toNatClampNeg (i + (1 : Int32)))) (xs (Int32.toNatClampNeg (i + (2 : Int32))))
  have fc : am_D (fu_ho fc_sh) am_m 998 221 [.ref 0, .int (xs (Int32.toNatClampNeg (i + (1 : Int32)))), .int (xs (Int32.toNatClampNeg (i + (2 : Int32))))] s1 = some (some (.int r), t1) := ((e_X11_walk 998 (by omega) s1 (xs (Int32.toNatClampNeg (i + (1 : Int32)))) (xs (Int32.toNatClampNeg (i + (2 : Int32))))) _ hc _ rfl)
  have fr : am_D (fu_ho fr_sh) am_m 998 361 [.ref 117, .int (xs (Int32.toNatClampNeg (i + (1 : Int32)))), .int (xs (Int32.toNatClampNeg (i + (2 : Int32))))] s2 = some (some (.int r), t2) := ((e_X12_walk 998 (by omega) s2 (xs (Int32.toNatClampNeg (i + (1 : Int32)))) (xs (Int32.toNatClampNeg (i + (2 : Int32))))) _ hr _ rfl)
  obtain ⟨ha, ea, hRa⟩ := rl_c (L := L) (xs := xs) hR fc
  obtain ⟨hb, eb, hRb⟩ := rl_r (L := L) (xs := xs) hRa fr
  refine ⟨t1, t2, hb, hI1, hRb, ?_⟩
  refine (rl_go (c' := (1485, [.ref 2000000, .ref 0, .ref 117, .int i], [.int (i + (1 : Int32)), .ref 2000000, .ref 0], h)) (k := 5) rfl).trans ?_
  refine (rl_ld rfl h1).trans ?_
  refine (rl_go (c' := (1490, [.ref 2000000, .ref 0, .ref 117, .int i], [.int (i + (2 : Int32)), .ref 2000000, .int (xs (Int32.toNatClampNeg (i + (1 : Int32)))), .ref 0], h)) (k := 4) rfl).trans ?_
  refine (rl_ld rfl h2).trans ?_
  refine (fu_cV rfl rfl rfl rfl rfl (rl_rvc hR am_at_X11_walk rfl) ea).trans ?_
  show rl_X L xs 1494 [.ref 2000000, .ref 0, .ref 117, .int i] [.int r] ha = _
  refine (rl_go (c' := (1499, [.ref 2000000, .ref 0, .ref 117, .int i], [.int (i + (1 : Int32)), .ref 2000000, .ref 117, .int r], ha)) (k := 5) rfl).trans ?_
  refine (rl_ld rfl h1).trans ?_
  refine (rl_go (c' := (1504, [.ref 2000000, .ref 0, .ref 117, .int i], [.int (i + (2 : Int32)), .ref 2000000, .int (xs (Int32.toNatClampNeg (i + (1 : Int32)))), .ref 117, .int r], ha)) (k := 4) rfl).trans ?_
  refine (rl_ld rfl h2).trans ?_
  refine (fu_cV rfl rfl rfl rfl rfl (rl_rvr hRa am_at_X12_walk rfl) eb).trans ?_
  show rl_X L xs 1508 [.ref 2000000, .ref 0, .ref 117, .int i] [.int r, .int r] hb = _
  exact am_X_step (i := .if_icmp .eq 262) rfl (c' := (1770, [.ref 2000000, .ref 0, .ref 117, .int i], [], hb)) (by simp only [am_step, if_true])
set_option maxRecDepth 100000 in
theorem lw_case_40 {I : fu_S → fu_S → Prop} (hE : lw_E_40 I) {L : Nat} {xs : Nat → Int32} {i : Int32} {s1 s2 : fu_S} {h : am_H} (hI : I s1 s2) (hR : rl_R s1 s2 h) (h1 : am_in (i + (1 : Int32)) L = true) (h2 : am_in (i + (2 : Int32)) L = true) (h3 : am_in (i + (3 : Int32)) L = true) : ∃ t1 t2 h1, I t1 t2 ∧ rl_R t1 t2 h1 ∧ rl_X L xs 1513 [.ref 2000000, .ref 0, .ref 117, .int i] [] h = rl_X L xs 1770 [.ref 2000000, .ref 0, .ref 117, .int i] [] h1 := by
  obtain ⟨r, t1, t2, hc, hr, hI1⟩ := hE s1 s2 hI (xs (Int32.toNatClampNeg (i + (1 : Int32)))) (xs (Int32.toNatClampNeg (i + (2 : Int32)))) (xs (Int32.toNatClampNeg (i + (3 : Int32))))
  have fc : am_D (fu_ho fc_sh) am_m 998 222 [.ref 0, .int (xs (Int32.toNatClampNeg (i + (1 : Int32)))), .int (xs (Int32.toNatClampNeg (i + (2 : Int32)))), .int (xs (Int32.toNatClampNeg (i + (3 : Int32))))] s1 = some (some (.int (fu_b r)), t1) := ((e_X11_share 998 (by omega) s1 (xs (Int32.toNatClampNeg (i + (1 : Int32)))) (xs (Int32.toNatClampNeg (i + (2 : Int32)))) (xs (Int32.toNatClampNeg (i + (3 : Int32))))) _ hc _ rfl)
  have fr : am_D (fu_ho fr_sh) am_m 998 363 [.ref 117, .int (xs (Int32.toNatClampNeg (i + (1 : Int32)))), .int (xs (Int32.toNatClampNeg (i + (2 : Int32)))), .int (xs (Int32.toNatClampNeg (i + (3 : Int32))))] s2 = some (some (.int (fu_b r)), t2) := ((e_X12_share 998 (by omega) s2 (xs (Int32.toNatClampNeg (i + (1 : Int32)))) (xs (Int32.toNatClampNeg (i + (2 : Int32)))) (xs (Int32.toNatClampNeg (i + (3 : Int32))))) _ hr _ rfl)
  obtain ⟨ha, ea, hRa⟩ := rl_c (L := L) (xs := xs) hR fc
  obtain ⟨hb, eb, hRb⟩ := rl_r (L := L) (xs := xs) hRa fr
  refine ⟨t1, t2, hb, hI1, hRb, ?_⟩
  refine (rl_go (c' := (1518, [.ref 2000000, .ref 0, .ref 117, .int i], [.int (i + (1 : Int32)), .ref 2000000, .ref 0], h)) (k := 5) rfl).trans ?_
  refine (rl_ld rfl h1).trans ?_
  refine (rl_go (c' := (1523, [.ref 2000000, .ref 0, .ref 117, .int i], [.int (i + (2 : Int32)), .ref 2000000, .int (xs (Int32.toNatClampNeg (i + (1 : Int32)))), .ref 0], h)) (k := 4) rfl).trans ?_
  refine (rl_ld rfl h2).trans ?_
  refine (rl_go (c' := (1528, [.ref 2000000, .ref 0, .ref 117, .int i], [.int (i + (3 : Int32)), .ref 2000000, .int (xs (Int32.toNatClampNeg (i + (2 : Int32)))), .int (xs (Int32.toNatClampNeg (i + (1 : Int32)))), .ref 0], h)) (k := 4) rfl).trans ?_
  refine (rl_ld rfl h3).trans ?_
  refine (fu_cV rfl rfl rfl rfl rfl (rl_rvc hR am_at_X11_share rfl) ea).trans ?_
  show rl_X L xs 1532 [.ref 2000000, .ref 0, .ref 117, .int i] [.int (fu_b r)] ha = _
  refine (rl_go (c' := (1537, [.ref 2000000, .ref 0, .ref 117, .int i], [.int (i + (1 : Int32)), .ref 2000000, .ref 117, .int (fu_b r)], ha)) (k := 5) rfl).trans ?_
  refine (rl_ld rfl h1).trans ?_
  refine (rl_go (c' := (1542, [.ref 2000000, .ref 0, .ref 117, .int i], [.int (i + (2 : Int32)), .ref 2000000, .int (xs (Int32.toNatClampNeg (i + (1 : Int32)))), .ref 117, .int (fu_b r)], ha)) (k := 4) rfl).trans ?_
  refine (rl_ld rfl h2).trans ?_
  refine (rl_go (c' := (1547, [.ref 2000000, .ref 0, .ref 117, .int i], [.int (i + (3 : Int32)), .ref 2000000, .int (xs (Int32.toNatClampNeg (i + (2 : Int32)))), .int (xs (Int32.toNatClampNeg (i + (1 : Int32)))), .ref 117, .int (fu_b r)], ha)) (k := 4) rfl).trans ?_
  refine (rl_ld rfl h3).trans ?_
  refine (fu_cV rfl rfl rfl rfl rfl (rl_rvr hRa am_at_X12_share rfl) eb).trans ?_
  show rl_X L xs 1551 [.ref 2000000, .ref 0, .ref 117, .int i] [.int (fu_b r), .int (fu_b r)] hb = _
  exact am_X_step (i := .if_icmp .eq 219) rfl (c' := (1770, [.ref 2000000, .ref 0, .ref 117, .int i], [], hb)) (by simp only [am_step, if_true])
set_option maxRecDepth 100000 in
theorem lw_case_41 {I : fu_S → fu_S → Prop} (hE : lw_E_41 I) {L : Nat} {xs : Nat → Int32} {i : Int32} {s1 s2 : fu_S} {h : am_H} (hI : I s1 s2) (hR : rl_R s1 s2 h) (h1 : am_in (i + (1 : Int32)) L = true) (h2 : am_in (i + (2 : Int32)) L = true) (h3 : am_in (i + (3 : Int32)) L = true) : ∃ t1 t2 h1, I t1 t2 ∧ rl_R t1 t2 h1 ∧ rl_X L xs 1556 [.ref 2000000, .ref 0, .ref 117, .int i] [] h = rl_X L xs 1770 [.ref 2000000, .ref 0, .ref 117, .int i] [] h1 := by
  obtain ⟨r, t1, t2, hc, hr, hI1⟩ := hE s1 s2 hI (xs (Int32.toNatClampNeg (i + (1 : Int32)))) (xs (Int32.toNatClampNeg (i + (2 : Int32)))) (xs (Int32.toNatClampNeg (i + (3 : Int32))))
  have fc : am_D (fu_ho fc_sh) am_m 998 223 [.ref 0, .int (xs (Int32.toNatClampNeg (i + (1 : Int32)))), .int (xs (Int32.toNatClampNeg (i + (2 : Int32)))), .int (xs (Int32.toNatClampNeg (i + (3 : Int32))))] s1 = some (some (.int r), t1) := ((e_X11_game 998 (by omega) s1 (xs (Int32.toNatClampNeg (i + (1 : Int32)))) (xs (Int32.toNatClampNeg (i + (2 : Int32)))) (xs (Int32.toNatClampNeg (i + (3 : Int32))))) _ hc _ rfl)
  have fr : am_D (fu_ho fr_sh) am_m 998 366 [.ref 117, .int (xs (Int32.toNatClampNeg (i + (1 : Int32)))), .int (xs (Int32.toNatClampNeg (i + (2 : Int32)))), .int (xs (Int32.toNatClampNeg (i + (3 : Int32))))] s2 = some (some (.int r), t2) := ((e_X12_game 998 (by omega) s2 (xs (Int32.toNatClampNeg (i + (1 : Int32)))) (xs (Int32.toNatClampNeg (i + (2 : Int32)))) (xs (Int32.toNatClampNeg (i + (3 : Int32))))) _ hr _ rfl)
  obtain ⟨ha, ea, hRa⟩ := rl_c (L := L) (xs := xs) hR fc
  obtain ⟨hb, eb, hRb⟩ := rl_r (L := L) (xs := xs) hRa fr
  refine ⟨t1, t2, hb, hI1, hRb, ?_⟩
  refine (rl_go (c' := (1561, [.ref 2000000, .ref 0, .ref 117, .int i], [.int (i + (1 : Int32)), .ref 2000000, .ref 0], h)) (k := 5) rfl).trans ?_
  refine (rl_ld rfl h1).trans ?_
  refine (rl_go (c' := (1566, [.ref 2000000, .ref 0, .ref 117, .int i], [.int (i + (2 : Int32)), .ref 2000000, .int (xs (Int32.toNatClampNeg (i + (1 : Int32)))), .ref 0], h)) (k := 4) rfl).trans ?_
  refine (rl_ld rfl h2).trans ?_
  refine (rl_go (c' := (1571, [.ref 2000000, .ref 0, .ref 117, .int i], [.int (i + (3 : Int32)), .ref 2000000, .int (xs (Int32.toNatClampNeg (i + (2 : Int32)))), .int (xs (Int32.toNatClampNeg (i + (1 : Int32)))), .ref 0], h)) (k := 4) rfl).trans ?_
  refine (rl_ld rfl h3).trans ?_
  refine (fu_cV rfl rfl rfl rfl rfl (rl_rvc hR am_at_X11_game rfl) ea).trans ?_
  show rl_X L xs 1575 [.ref 2000000, .ref 0, .ref 117, .int i] [.int r] ha = _
  refine (rl_go (c' := (1580, [.ref 2000000, .ref 0, .ref 117, .int i], [.int (i + (1 : Int32)), .ref 2000000, .ref 117, .int r], ha)) (k := 5) rfl).trans ?_
  refine (rl_ld rfl h1).trans ?_
  refine (rl_go (c' := (1585, [.ref 2000000, .ref 0, .ref 117, .int i], [.int (i + (2 : Int32)), .ref 2000000, .int (xs (Int32.toNatClampNeg (i + (1 : Int32)))), .ref 117, .int r], ha)) (k := 4) rfl).trans ?_
  refine (rl_ld rfl h2).trans ?_
  refine (rl_go (c' := (1590, [.ref 2000000, .ref 0, .ref 117, .int i], [.int (i + (3 : Int32)), .ref 2000000, .int (xs (Int32.toNatClampNeg (i + (2 : Int32)))), .int (xs (Int32.toNatClampNeg (i + (1 : Int32)))), .ref 117, .int r], ha)) (k := 4) rfl).trans ?_
  refine (rl_ld rfl h3).trans ?_
  refine (fu_cV rfl rfl rfl rfl rfl (rl_rvr hRa am_at_X12_game rfl) eb).trans ?_
  show rl_X L xs 1594 [.ref 2000000, .ref 0, .ref 117, .int i] [.int r, .int r] hb = _
  exact am_X_step (i := .if_icmp .eq 176) rfl (c' := (1770, [.ref 2000000, .ref 0, .ref 117, .int i], [], hb)) (by simp only [am_step, if_true])
set_option maxRecDepth 100000 in
theorem lw_case_42 {I : fu_S → fu_S → Prop} (hE : lw_E_42 I) {L : Nat} {xs : Nat → Int32} {i : Int32} {s1 s2 : fu_S} {h : am_H} (hI : I s1 s2) (hR : rl_R s1 s2 h) (h1 : am_in (i + (1 : Int32)) L = true) (h2 : am_in (i + (2 : Int32)) L = true) (h3 : am_in (i + (3 : Int32)) L = true) : ∃ t1 t2 h1, I t1 t2 ∧ rl_R t1 t2 h1 ∧ rl_X L xs 1599 [.ref 2000000, .ref 0, .ref 117, .int i] [] h = rl_X L xs 1770 [.ref 2000000, .ref 0, .ref 117, .int i] [] h1 := by
  obtain ⟨r, t1, t2, hc, hr, hI1⟩ := hE s1 s2 hI (xs (Int32.toNatClampNeg (i + (1 : Int32)))) (xs (Int32.toNatClampNeg (i + (2 : Int32)))) (xs (Int32.toNatClampNeg (i + (3 : Int32))))
  have fc : am_D (fu_ho fc_sh) am_m 998 224 [.ref 0, .int (xs (Int32.toNatClampNeg (i + (1 : Int32)))), .int (xs (Int32.toNatClampNeg (i + (2 : Int32)))), .int (xs (Int32.toNatClampNeg (i + (3 : Int32))))] s1 = some (some (.int r), t1) := ((e_X11_moveOf 998 (by omega) s1 (xs (Int32.toNatClampNeg (i + (1 : Int32)))) (xs (Int32.toNatClampNeg (i + (2 : Int32)))) (xs (Int32.toNatClampNeg (i + (3 : Int32))))) _ hc _ rfl)
  have fr : am_D (fu_ho fr_sh) am_m 998 367 [.ref 117, .int (xs (Int32.toNatClampNeg (i + (1 : Int32)))), .int (xs (Int32.toNatClampNeg (i + (2 : Int32)))), .int (xs (Int32.toNatClampNeg (i + (3 : Int32))))] s2 = some (some (.int r), t2) := ((e_X12_moveOf 998 (by omega) s2 (xs (Int32.toNatClampNeg (i + (1 : Int32)))) (xs (Int32.toNatClampNeg (i + (2 : Int32)))) (xs (Int32.toNatClampNeg (i + (3 : Int32))))) _ hr _ rfl)
  obtain ⟨ha, ea, hRa⟩ := rl_c (L := L) (xs := xs) hR fc
  obtain ⟨hb, eb, hRb⟩ := rl_r (L := L) (xs := xs) hRa fr
  refine ⟨t1, t2, hb, hI1, hRb, ?_⟩
  refine (rl_go (c' := (1604, [.ref 2000000, .ref 0, .ref 117, .int i], [.int (i + (1 : Int32)), .ref 2000000, .ref 0], h)) (k := 5) rfl).trans ?_
  refine (rl_ld rfl h1).trans ?_
  refine (rl_go (c' := (1609, [.ref 2000000, .ref 0, .ref 117, .int i], [.int (i + (2 : Int32)), .ref 2000000, .int (xs (Int32.toNatClampNeg (i + (1 : Int32)))), .ref 0], h)) (k := 4) rfl).trans ?_
  refine (rl_ld rfl h2).trans ?_
  refine (rl_go (c' := (1614, [.ref 2000000, .ref 0, .ref 117, .int i], [.int (i + (3 : Int32)), .ref 2000000, .int (xs (Int32.toNatClampNeg (i + (2 : Int32)))), .int (xs (Int32.toNatClampNeg (i + (1 : Int32)))), .ref 0], h)) (k := 4) rfl).trans ?_
  refine (rl_ld rfl h3).trans ?_
  refine (fu_cV rfl rfl rfl rfl rfl (rl_rvc hR am_at_X11_moveOf rfl) ea).trans ?_
  show rl_X L xs 1618 [.ref 2000000, .ref 0, .ref 117, .int i] [.int r] ha = _
  refine (rl_go (c' := (1623, [.ref 2000000, .ref 0, .ref 117, .int i], [.int (i + (1 : Int32)), .ref 2000000, .ref 117, .int r], ha)) (k := 5) rfl).trans ?_
  refine (rl_ld rfl h1).trans ?_
  refine (rl_go (c' := (1628, [.ref 2000000, .ref 0, .ref 117, .int i], [.int (i + (2 : Int32)), .ref 2000000, .int (xs (Int32.toNatClampNeg (i + (1 : Int32)))), .ref 117, .int r], ha)) (k := 4) rfl).trans ?_
  refine (rl_ld rfl h2).trans ?_
  refine (rl_go (c' := (1633, [.ref 2000000, .ref 0, .ref 117, .int i], [.int (i + (3 : Int32)), .ref 2000000, .int (xs (Int32.toNatClampNeg (i + (2 : Int32)))), .int (xs (Int32.toNatClampNeg (i + (1 : Int32)))), .ref 117, .int r], ha)) (k := 4) rfl).trans ?_
  refine (rl_ld rfl h3).trans ?_
  refine (fu_cV rfl rfl rfl rfl rfl (rl_rvr hRa am_at_X12_moveOf rfl) eb).trans ?_
  show rl_X L xs 1637 [.ref 2000000, .ref 0, .ref 117, .int i] [.int r, .int r] hb = _
  exact am_X_step (i := .if_icmp .eq 133) rfl (c' := (1770, [.ref 2000000, .ref 0, .ref 117, .int i], [], hb)) (by simp only [am_step, if_true])
set_option maxRecDepth 100000 in
theorem lw_case_43 {I : fu_S → fu_S → Prop} (hE : lw_E_43 I) {L : Nat} {xs : Nat → Int32} {i : Int32} {s1 s2 : fu_S} {h : am_H} (hI : I s1 s2) (hR : rl_R s1 s2 h) (h1 : am_in (i + (1 : Int32)) L = true) : ∃ t1 t2 h1, I t1 t2 ∧ rl_R t1 t2 h1 ∧ rl_X L xs 1642 [.ref 2000000, .ref 0, .ref 117, .int i] [] h = rl_X L xs 1770 [.ref 2000000, .ref 0, .ref 117, .int i] [] h1 := by
  obtain ⟨r, t1, t2, hc, hr, hI1⟩ := hE s1 s2 hI (xs (Int32.toNatClampNeg (i + (1 : Int32))))
  have fc : am_D (fu_ho fc_sh) am_m 998 226 [.ref 0, .int (xs (Int32.toNatClampNeg (i + (1 : Int32))))] s1 = some (some (.int (fu_b r)), t1) := ((e_X11_tongue 998 (by omega) s1 (xs (Int32.toNatClampNeg (i + (1 : Int32))))) _ hc _ rfl)
  have fr : am_D (fu_ho fr_sh) am_m 998 368 [.ref 117, .int (xs (Int32.toNatClampNeg (i + (1 : Int32))))] s2 = some (some (.int (fu_b r)), t2) := ((e_X12_tongue 998 (by omega) s2 (xs (Int32.toNatClampNeg (i + (1 : Int32))))) _ hr _ rfl)
  obtain ⟨ha, ea, hRa⟩ := rl_c (L := L) (xs := xs) hR fc
  obtain ⟨hb, eb, hRb⟩ := rl_r (L := L) (xs := xs) hRa fr
  refine ⟨t1, t2, hb, hI1, hRb, ?_⟩
  refine (rl_go (c' := (1647, [.ref 2000000, .ref 0, .ref 117, .int i], [.int (i + (1 : Int32)), .ref 2000000, .ref 0], h)) (k := 5) rfl).trans ?_
  refine (rl_ld rfl h1).trans ?_
  refine (fu_cV rfl rfl rfl rfl rfl (rl_rvc hR am_at_X11_tongue rfl) ea).trans ?_
  show rl_X L xs 1651 [.ref 2000000, .ref 0, .ref 117, .int i] [.int (fu_b r)] ha = _
  refine (rl_go (c' := (1656, [.ref 2000000, .ref 0, .ref 117, .int i], [.int (i + (1 : Int32)), .ref 2000000, .ref 117, .int (fu_b r)], ha)) (k := 5) rfl).trans ?_
  refine (rl_ld rfl h1).trans ?_
  refine (fu_cV rfl rfl rfl rfl rfl (rl_rvr hRa am_at_X12_tongue rfl) eb).trans ?_
  show rl_X L xs 1660 [.ref 2000000, .ref 0, .ref 117, .int i] [.int (fu_b r), .int (fu_b r)] hb = _
  exact am_X_step (i := .if_icmp .eq 110) rfl (c' := (1770, [.ref 2000000, .ref 0, .ref 117, .int i], [], hb)) (by simp only [am_step, if_true])
set_option maxRecDepth 100000 in
theorem lw_case_44 {I : fu_S → fu_S → Prop} (hE : lw_E_44 I) {L : Nat} {xs : Nat → Int32} {i : Int32} {s1 s2 : fu_S} {h : am_H} (hI : I s1 s2) (hR : rl_R s1 s2 h) (h1 : am_in (i + (1 : Int32)) L = true) : ∃ t1 t2 h1, I t1 t2 ∧ rl_R t1 t2 h1 ∧ rl_X L xs 1665 [.ref 2000000, .ref 0, .ref 117, .int i] [] h = rl_X L xs 1770 [.ref 2000000, .ref 0, .ref 117, .int i] [] h1 := by
  obtain ⟨r, t1, t2, hc, hr, hI1⟩ := hE s1 s2 hI (xs (Int32.toNatClampNeg (i + (1 : Int32))))
  have fc : am_D (fu_ho fc_sh) am_m 998 228 [.ref 0, .int (xs (Int32.toNatClampNeg (i + (1 : Int32))))] s1 = some (some (.int r), t1) := ((e_X11_live 998 (by omega) s1 (xs (Int32.toNatClampNeg (i + (1 : Int32))))) _ hc _ rfl)
  have fr : am_D (fu_ho fr_sh) am_m 998 379 [.ref 117, .int (xs (Int32.toNatClampNeg (i + (1 : Int32))))] s2 = some (some (.int r), t2) := ((e_X12_live 998 (by omega) s2 (xs (Int32.toNatClampNeg (i + (1 : Int32))))) _ hr _ rfl)
  obtain ⟨ha, ea, hRa⟩ := rl_c (L := L) (xs := xs) hR fc
  obtain ⟨hb, eb, hRb⟩ := rl_r (L := L) (xs := xs) hRa fr
  refine ⟨t1, t2, hb, hI1, hRb, ?_⟩
  refine (rl_go (c' := (1670, [.ref 2000000, .ref 0, .ref 117, .int i], [.int (i + (1 : Int32)), .ref 2000000, .ref 0], h)) (k := 5) rfl).trans ?_
  refine (rl_ld rfl h1).trans ?_
  refine (fu_cV rfl rfl rfl rfl rfl (rl_rvc hR am_at_X11_live rfl) ea).trans ?_
  show rl_X L xs 1674 [.ref 2000000, .ref 0, .ref 117, .int i] [.int r] ha = _
  refine (rl_go (c' := (1679, [.ref 2000000, .ref 0, .ref 117, .int i], [.int (i + (1 : Int32)), .ref 2000000, .ref 117, .int r], ha)) (k := 5) rfl).trans ?_
  refine (rl_ld rfl h1).trans ?_
  refine (fu_cV rfl rfl rfl rfl rfl (rl_rvr hRa am_at_X12_live rfl) eb).trans ?_
  show rl_X L xs 1683 [.ref 2000000, .ref 0, .ref 117, .int i] [.int r, .int r] hb = _
  exact am_X_step (i := .if_icmp .eq 87) rfl (c' := (1770, [.ref 2000000, .ref 0, .ref 117, .int i], [], hb)) (by simp only [am_step, if_true])
set_option maxRecDepth 100000 in
theorem lw_case_45 {I : fu_S → fu_S → Prop} (hE : lw_E_45 I) {L : Nat} {xs : Nat → Int32} {i : Int32} {s1 s2 : fu_S} {h : am_H} (hI : I s1 s2) (hR : rl_R s1 s2 h) (h1 : am_in (i + (1 : Int32)) L = true) : ∃ t1 t2 h1, I t1 t2 ∧ rl_R t1 t2 h1 ∧ rl_X L xs 1688 [.ref 2000000, .ref 0, .ref 117, .int i] [] h = rl_X L xs 1770 [.ref 2000000, .ref 0, .ref 117, .int i] [] h1 := by
  obtain ⟨r, t1, t2, hc, hr, hI1⟩ := hE s1 s2 hI (xs (Int32.toNatClampNeg (i + (1 : Int32))))
  have fc : am_D (fu_ho fc_sh) am_m 998 229 [.ref 0, .int (xs (Int32.toNatClampNeg (i + (1 : Int32))))] s1 = some (some (.int r), t1) := (by have z := fu_eq (e_X11_lived 998 (by omega) s1 (xs (Int32.toNatClampNeg (i + (1 : Int32))))) rfl; rw [hc] at z; exact z)
  have fr : am_D (fu_ho fr_sh) am_m 998 380 [.ref 117, .int (xs (Int32.toNatClampNeg (i + (1 : Int32))))] s2 = some (some (.int r), t2) := ((e_X12_lived 998 (by omega) s2 (xs (Int32.toNatClampNeg (i + (1 : Int32))))) _ hr _ rfl)
  obtain ⟨ha, ea, hRa⟩ := rl_c (L := L) (xs := xs) hR fc
  obtain ⟨hb, eb, hRb⟩ := rl_r (L := L) (xs := xs) hRa fr
  refine ⟨t1, t2, hb, hI1, hRb, ?_⟩
  refine (rl_go (c' := (1693, [.ref 2000000, .ref 0, .ref 117, .int i], [.int (i + (1 : Int32)), .ref 2000000, .ref 0], h)) (k := 5) rfl).trans ?_
  refine (rl_ld rfl h1).trans ?_
  refine (fu_cV rfl rfl rfl rfl rfl (rl_rvc hR am_at_X11_lived rfl) ea).trans ?_
  show rl_X L xs 1697 [.ref 2000000, .ref 0, .ref 117, .int i] [.int r] ha = _
  refine (rl_go (c' := (1702, [.ref 2000000, .ref 0, .ref 117, .int i], [.int (i + (1 : Int32)), .ref 2000000, .ref 117, .int r], ha)) (k := 5) rfl).trans ?_
  refine (rl_ld rfl h1).trans ?_
  refine (fu_cV rfl rfl rfl rfl rfl (rl_rvr hRa am_at_X12_lived rfl) eb).trans ?_
  show rl_X L xs 1706 [.ref 2000000, .ref 0, .ref 117, .int i] [.int r, .int r] hb = _
  exact am_X_step (i := .if_icmp .eq 64) rfl (c' := (1770, [.ref 2000000, .ref 0, .ref 117, .int i], [], hb)) (by simp only [am_step, if_true])
set_option maxRecDepth 100000 in
theorem lw_case_46 {I : fu_S → fu_S → Prop} (hE : lw_E_46 I) {L : Nat} {xs : Nat → Int32} {i : Int32} {s1 s2 : fu_S} {h : am_H} (hI : I s1 s2) (hR : rl_R s1 s2 h) (h1 : am_in (i + (1 : Int32)) L = true) (h2 : am_in (i + (2 : Int32)) L = true) : ∃ t1 t2 h1, I t1 t2 ∧ rl_R t1 t2 h1 ∧ rl_X L xs 1711 [.ref 2000000, .ref 0, .ref 117, .int i] [] h = rl_X L xs 1770 [.ref 2000000, .ref 0, .ref 117, .int i] [] h1 := by
  obtain ⟨r, t1, t2, hc, hr, hI1⟩ := hE s1 s2 hI (xs (Int32.toNatClampNeg (i + (1 : Int32)))) (xs (Int32.toNatClampNeg (i + (2 : Int32))))
  have fc : am_D (fu_ho fc_sh) am_m 998 230 [.ref 0, .int (xs (Int32.toNatClampNeg (i + (1 : Int32)))), .int (xs (Int32.toNatClampNeg (i + (2 : Int32))))] s1 = some (some (.int (fu_b r)), t1) := ((e_X11_mean 998 (by omega) s1 (xs (Int32.toNatClampNeg (i + (1 : Int32)))) (xs (Int32.toNatClampNeg (i + (2 : Int32))))) _ hc _ rfl)
  have fr : am_D (fu_ho fr_sh) am_m 998 381 [.ref 117, .int (xs (Int32.toNatClampNeg (i + (1 : Int32)))), .int (xs (Int32.toNatClampNeg (i + (2 : Int32))))] s2 = some (some (.int (fu_b r)), t2) := ((e_X12_mean 998 (by omega) s2 (xs (Int32.toNatClampNeg (i + (1 : Int32)))) (xs (Int32.toNatClampNeg (i + (2 : Int32))))) _ hr _ rfl)
  obtain ⟨ha, ea, hRa⟩ := rl_c (L := L) (xs := xs) hR fc
  obtain ⟨hb, eb, hRb⟩ := rl_r (L := L) (xs := xs) hRa fr
  refine ⟨t1, t2, hb, hI1, hRb, ?_⟩
  refine (rl_go (c' := (1716, [.ref 2000000, .ref 0, .ref 117, .int i], [.int (i + (1 : Int32)), .ref 2000000, .ref 0], h)) (k := 5) rfl).trans ?_
  refine (rl_ld rfl h1).trans ?_
  refine (rl_go (c' := (1721, [.ref 2000000, .ref 0, .ref 117, .int i], [.int (i + (2 : Int32)), .ref 2000000, .int (xs (Int32.toNatClampNeg (i + (1 : Int32)))), .ref 0], h)) (k := 4) rfl).trans ?_
  refine (rl_ld rfl h2).trans ?_
  refine (fu_cV rfl rfl rfl rfl rfl (rl_rvc hR am_at_X11_mean rfl) ea).trans ?_
  show rl_X L xs 1725 [.ref 2000000, .ref 0, .ref 117, .int i] [.int (fu_b r)] ha = _
  refine (rl_go (c' := (1730, [.ref 2000000, .ref 0, .ref 117, .int i], [.int (i + (1 : Int32)), .ref 2000000, .ref 117, .int (fu_b r)], ha)) (k := 5) rfl).trans ?_
  refine (rl_ld rfl h1).trans ?_
  refine (rl_go (c' := (1735, [.ref 2000000, .ref 0, .ref 117, .int i], [.int (i + (2 : Int32)), .ref 2000000, .int (xs (Int32.toNatClampNeg (i + (1 : Int32)))), .ref 117, .int (fu_b r)], ha)) (k := 4) rfl).trans ?_
  refine (rl_ld rfl h2).trans ?_
  refine (fu_cV rfl rfl rfl rfl rfl (rl_rvr hRa am_at_X12_mean rfl) eb).trans ?_
  show rl_X L xs 1739 [.ref 2000000, .ref 0, .ref 117, .int i] [.int (fu_b r), .int (fu_b r)] hb = _
  exact am_X_step (i := .if_icmp .eq 31) rfl (c' := (1770, [.ref 2000000, .ref 0, .ref 117, .int i], [], hb)) (by simp only [am_step, if_true])
set_option maxRecDepth 100000 in
theorem lw_case_47 {I : fu_S → fu_S → Prop} (hE : lw_E_47 I) {L : Nat} {xs : Nat → Int32} {i : Int32} {s1 s2 : fu_S} {h : am_H} (hI : I s1 s2) (hR : rl_R s1 s2 h) : ∃ t1 t2 h1, I t1 t2 ∧ rl_R t1 t2 h1 ∧ rl_X L xs 1744 [.ref 2000000, .ref 0, .ref 117, .int i] [] h = rl_X L xs 1770 [.ref 2000000, .ref 0, .ref 117, .int i] [] h1 := by
  obtain ⟨r, t1, t2, hc, hr, hI1⟩ := hE s1 s2 hI 
  have fc : am_D (fu_ho fc_sh) am_m 998 231 [.ref 0] s1 = some (some (.int r), t1) := ((e_X11_mark 998 (by omega) s1 ) _ hc _ rfl)
  have fr : am_D (fu_ho fr_sh) am_m 998 383 [.ref 117] s2 = some (some (.int r), t2) := ((e_X12_mark 998 (by omega) s2 ) _ hr _ rfl)
  obtain ⟨ha, ea, hRa⟩ := rl_c (L := L) (xs := xs) hR fc
  obtain ⟨hb, eb, hRb⟩ := rl_r (L := L) (xs := xs) hRa fr
  refine ⟨t1, t2, hb, hI1, hRb, ?_⟩
  refine (rl_go (c' := (1745, [.ref 2000000, .ref 0, .ref 117, .int i], [.ref 0], h)) (k := 1) rfl).trans ?_
  refine (fu_cV rfl rfl rfl rfl rfl (rl_rvc hR am_at_X11_mark rfl) ea).trans ?_
  show rl_X L xs 1748 [.ref 2000000, .ref 0, .ref 117, .int i] [.int r] ha = _
  refine (rl_go (c' := (1749, [.ref 2000000, .ref 0, .ref 117, .int i], [.ref 117, .int r], ha)) (k := 1) rfl).trans ?_
  refine (fu_cV rfl rfl rfl rfl rfl (rl_rvr hRa am_at_X12_mark rfl) eb).trans ?_
  show rl_X L xs 1752 [.ref 2000000, .ref 0, .ref 117, .int i] [.int r, .int r] hb = _
  exact am_X_step (i := .if_icmp .eq 18) rfl (c' := (1770, [.ref 2000000, .ref 0, .ref 117, .int i], [], hb)) (by simp only [am_step, if_true])
set_option maxRecDepth 100000 in
theorem lw_case_48 {I : fu_S → fu_S → Prop} (hE : lw_E_48 I) {L : Nat} {xs : Nat → Int32} {i : Int32} {s1 s2 : fu_S} {h : am_H} (hI : I s1 s2) (hR : rl_R s1 s2 h) : ∃ t1 t2 h1, I t1 t2 ∧ rl_R t1 t2 h1 ∧ rl_X L xs 1757 [.ref 2000000, .ref 0, .ref 117, .int i] [] h = rl_X L xs 1770 [.ref 2000000, .ref 0, .ref 117, .int i] [] h1 := by
  obtain ⟨r, t1, t2, hc, hr, hI1⟩ := hE s1 s2 hI 
  have fc : am_D (fu_ho fc_sh) am_m 998 232 [.ref 0] s1 = some (some (.int r), t1) := ((e_X11_back 998 (by omega) s1 ) _ hc _ rfl)
  have fr : am_D (fu_ho fr_sh) am_m 998 384 [.ref 117] s2 = some (some (.int r), t2) := ((e_X12_back 998 (by omega) s2 ) _ hr _ rfl)
  obtain ⟨ha, ea, hRa⟩ := rl_c (L := L) (xs := xs) hR fc
  obtain ⟨hb, eb, hRb⟩ := rl_r (L := L) (xs := xs) hRa fr
  refine ⟨t1, t2, hb, hI1, hRb, ?_⟩
  refine (rl_go (c' := (1758, [.ref 2000000, .ref 0, .ref 117, .int i], [.ref 0], h)) (k := 1) rfl).trans ?_
  refine (fu_cV rfl rfl rfl rfl rfl (rl_rvc hR am_at_X11_back rfl) ea).trans ?_
  show rl_X L xs 1761 [.ref 2000000, .ref 0, .ref 117, .int i] [.int r] ha = _
  refine (rl_go (c' := (1762, [.ref 2000000, .ref 0, .ref 117, .int i], [.ref 117, .int r], ha)) (k := 1) rfl).trans ?_
  refine (fu_cV rfl rfl rfl rfl rfl (rl_rvr hRa am_at_X12_back rfl) eb).trans ?_
  show rl_X L xs 1765 [.ref 2000000, .ref 0, .ref 117, .int i] [.int r, .int r] hb = _
  exact am_X_step (i := .if_icmp .eq 5) rfl (c' := (1770, [.ref 2000000, .ref 0, .ref 117, .int i], [], hb)) (by simp only [am_step, if_true])
set_option maxRecDepth 100000 in
theorem lw_body {I : fu_S → fu_S → Prop} (hE : lw_EQ I) {L : Nat} {xs : Nat → Int32} {i : Int32} {s1 s2 : fu_S} {h : am_H} (hI : I s1 s2) (hR : rl_R s1 s2 h) (h0 : am_in i L = true) (h1 : am_in (i + (1 : Int32)) L = true) (h2 : am_in (i + (2 : Int32)) L = true) (h3 : am_in (i + (3 : Int32)) L = true) (h4 : am_in (i + (4 : Int32)) L = true) (h5 : am_in (i + (5 : Int32)) L = true) : ∃ t1 t2 h1, I t1 t2 ∧ rl_R t1 t2 h1 ∧ rl_X L xs 27 [.ref 2000000, .ref 0, .ref 117, .int i] [] h = rl_X L xs 1770 [.ref 2000000, .ref 0, .ref 117, .int i] [] h1 := by
  obtain ⟨g0, g1, g2, g3, g4, g5, g6, g7, g8, g9, g10, g11, g12, g13, g14, g15, g16, g17, g18, g19, g20, g21, g22, g23, g24, g25, g26, g27, g28, g29, g30, g31, g32, g33, g34, g35, g36, g37, g38, g39, g40, g41, g42, g43, g44, g45, g46, g47, g48⟩ := hE
  have e0 : rl_X L xs 27 [.ref 2000000, .ref 0, .ref 117, .int i] [] h = rl_X L xs 33 [.ref 2000000, .ref 0, .ref 117, .int i] [.int (xs (Int32.toNatClampNeg i) &&& (63 : Int32))] h := by
    refine (rl_go (c' := (29, [.ref 2000000, .ref 0, .ref 117, .int i], [.int i, .ref 2000000], h)) (k := 2) rfl).trans ?_
    refine (rl_ld rfl h0).trans ?_
    exact rl_go (c' := (33, [.ref 2000000, .ref 0, .ref 117, .int i], [.int (xs (Int32.toNatClampNeg i) &&& (63 : Int32))], h)) (k := 2) rfl
  rw [e0]
  generalize xs (Int32.toNatClampNeg i) &&& (63 : Int32) = x
  by_cases c0 : x = (0 : Int32)
  · obtain ⟨t1, t2, h1, z1, z2, z3⟩ := lw_case_0 g0 hI hR
    exact ⟨t1, t2, h1, z1, z2, (rl_tsw (t := 244) rfl c0 (by decide)).trans z3⟩
  by_cases c1 : x = (1 : Int32)
  · obtain ⟨t1, t2, h1, z1, z2, z3⟩ := lw_case_1 g1 hI hR
    exact ⟨t1, t2, h1, z1, z2, (rl_tsw (t := 257) rfl c1 (by decide)).trans z3⟩
  by_cases c2 : x = (2 : Int32)
  · obtain ⟨t1, t2, h1, z1, z2, z3⟩ := lw_case_2 g2 hI hR
    exact ⟨t1, t2, h1, z1, z2, (rl_tsw (t := 271) rfl c2 (by decide)).trans z3⟩
  by_cases c3 : x = (3 : Int32)
  · obtain ⟨t1, t2, h1, z1, z2, z3⟩ := lw_case_3 g3 hI hR h1 h2 h3
    exact ⟨t1, t2, h1, z1, z2, (rl_tsw (t := 285) rfl c3 (by decide)).trans z3⟩
  by_cases c4 : x = (4 : Int32)
  · obtain ⟨t1, t2, h1, z1, z2, z3⟩ := lw_case_4 g4 hI hR h1 h2 h3 h4
    exact ⟨t1, t2, h1, z1, z2, (rl_tsw (t := 328) rfl c4 (by decide)).trans z3⟩
  by_cases c5 : x = (5 : Int32)
  · obtain ⟨t1, t2, h1, z1, z2, z3⟩ := lw_case_5 g5 hI hR h1 h2
    exact ⟨t1, t2, h1, z1, z2, (rl_tsw (t := 401) rfl c5 (by decide)).trans z3⟩
  by_cases c6 : x = (6 : Int32)
  · obtain ⟨t1, t2, h1, z1, z2, z3⟩ := lw_case_6 g6 hI hR h1 h2 h3 h4 h5
    exact ⟨t1, t2, h1, z1, z2, (rl_tsw (t := 435) rfl c6 (by decide)).trans z3⟩
  by_cases c7 : x = (7 : Int32)
  · obtain ⟨t1, t2, h1, z1, z2, z3⟩ := lw_case_7 g7 hI hR h1 h2 h3 h4 h5
    exact ⟨t1, t2, h1, z1, z2, (rl_tsw (t := 498) rfl c7 (by decide)).trans z3⟩
  by_cases c8 : x = (8 : Int32)
  · obtain ⟨t1, t2, h1, z1, z2, z3⟩ := lw_case_8 g8 hI hR h1
    exact ⟨t1, t2, h1, z1, z2, (rl_tsw (t := 561) rfl c8 (by decide)).trans z3⟩
  by_cases c9 : x = (9 : Int32)
  · obtain ⟨t1, t2, h1, z1, z2, z3⟩ := lw_case_9 g9 hI hR h1
    exact ⟨t1, t2, h1, z1, z2, (rl_tsw (t := 584) rfl c9 (by decide)).trans z3⟩
  by_cases c10 : x = (10 : Int32)
  · obtain ⟨t1, t2, h1, z1, z2, z3⟩ := lw_case_10 g10 hI hR h1
    exact ⟨t1, t2, h1, z1, z2, (rl_tsw (t := 607) rfl c10 (by decide)).trans z3⟩
  by_cases c11 : x = (11 : Int32)
  · obtain ⟨t1, t2, h1, z1, z2, z3⟩ := lw_case_11 g11 hI hR h1
    exact ⟨t1, t2, h1, z1, z2, (rl_tsw (t := 630) rfl c11 (by decide)).trans z3⟩
  by_cases c12 : x = (12 : Int32)
  · obtain ⟨t1, t2, h1, z1, z2, z3⟩ := lw_case_12 g12 hI hR h1 h2
    exact ⟨t1, t2, h1, z1, z2, (rl_tsw (t := 653) rfl c12 (by decide)).trans z3⟩
  by_cases c13 : x = (13 : Int32)
  · obtain ⟨t1, t2, h1, z1, z2, z3⟩ := lw_case_13 g13 hI hR h1 h2
    exact ⟨t1, t2, h1, z1, z2, (rl_tsw (t := 686) rfl c13 (by decide)).trans z3⟩
  by_cases c14 : x = (14 : Int32)
  · obtain ⟨t1, t2, h1, z1, z2, z3⟩ := lw_case_14 g14 hI hR h1 h2
    exact ⟨t1, t2, h1, z1, z2, (rl_tsw (t := 719) rfl c14 (by decide)).trans z3⟩
  by_cases c15 : x = (15 : Int32)
  · obtain ⟨t1, t2, h1, z1, z2, z3⟩ := lw_case_15 g15 hI hR h1 h2
    exact ⟨t1, t2, h1, z1, z2, (rl_tsw (t := 752) rfl c15 (by decide)).trans z3⟩
  by_cases c16 : x = (16 : Int32)
  · obtain ⟨t1, t2, h1, z1, z2, z3⟩ := lw_case_16 g16 hI hR h1
    exact ⟨t1, t2, h1, z1, z2, (rl_tsw (t := 785) rfl c16 (by decide)).trans z3⟩
  by_cases c17 : x = (17 : Int32)
  · obtain ⟨t1, t2, h1, z1, z2, z3⟩ := lw_case_17 g17 hI hR h1 h2 h3
    exact ⟨t1, t2, h1, z1, z2, (rl_tsw (t := 808) rfl c17 (by decide)).trans z3⟩
  by_cases c18 : x = (18 : Int32)
  · obtain ⟨t1, t2, h1, z1, z2, z3⟩ := lw_case_18 g18 hI hR h1
    exact ⟨t1, t2, h1, z1, z2, (rl_tsw (t := 851) rfl c18 (by decide)).trans z3⟩
  by_cases c19 : x = (19 : Int32)
  · obtain ⟨t1, t2, h1, z1, z2, z3⟩ := lw_case_19 g19 hI hR h1 h2
    exact ⟨t1, t2, h1, z1, z2, (rl_tsw (t := 874) rfl c19 (by decide)).trans z3⟩
  by_cases c20 : x = (20 : Int32)
  · obtain ⟨t1, t2, h1, z1, z2, z3⟩ := lw_case_20 g20 hI hR h1 h2 h3
    exact ⟨t1, t2, h1, z1, z2, (rl_tsw (t := 907) rfl c20 (by decide)).trans z3⟩
  by_cases c21 : x = (21 : Int32)
  · obtain ⟨t1, t2, h1, z1, z2, z3⟩ := lw_case_21 g21 hI hR h1 h2
    exact ⟨t1, t2, h1, z1, z2, (rl_tsw (t := 966) rfl c21 (by decide)).trans z3⟩
  by_cases c22 : x = (22 : Int32)
  · obtain ⟨t1, t2, h1, z1, z2, z3⟩ := lw_case_22 g22 hI hR h1
    exact ⟨t1, t2, h1, z1, z2, (rl_tsw (t := 999) rfl c22 (by decide)).trans z3⟩
  by_cases c23 : x = (23 : Int32)
  · obtain ⟨t1, t2, h1, z1, z2, z3⟩ := lw_case_23 g23 hI hR h1 h2 h3
    exact ⟨t1, t2, h1, z1, z2, (rl_tsw (t := 1022) rfl c23 (by decide)).trans z3⟩
  by_cases c24 : x = (24 : Int32)
  · obtain ⟨t1, t2, h1, z1, z2, z3⟩ := lw_case_24 g24 hI hR h1 h2
    exact ⟨t1, t2, h1, z1, z2, (rl_tsw (t := 1065) rfl c24 (by decide)).trans z3⟩
  by_cases c25 : x = (25 : Int32)
  · obtain ⟨t1, t2, h1, z1, z2, z3⟩ := lw_case_25 g25 hI hR h1
    exact ⟨t1, t2, h1, z1, z2, (rl_tsw (t := 1098) rfl c25 (by decide)).trans z3⟩
  by_cases c26 : x = (26 : Int32)
  · obtain ⟨t1, t2, h1, z1, z2, z3⟩ := lw_case_26 g26 hI hR
    exact ⟨t1, t2, h1, z1, z2, (rl_tsw (t := 1121) rfl c26 (by decide)).trans z3⟩
  by_cases c27 : x = (27 : Int32)
  · obtain ⟨t1, t2, h1, z1, z2, z3⟩ := lw_case_27 g27 hI hR h1
    exact ⟨t1, t2, h1, z1, z2, (rl_tsw (t := 1134) rfl c27 (by decide)).trans z3⟩
  by_cases c28 : x = (28 : Int32)
  · obtain ⟨t1, t2, h1, z1, z2, z3⟩ := lw_case_28 g28 hI hR h1
    exact ⟨t1, t2, h1, z1, z2, (rl_tsw (t := 1157) rfl c28 (by decide)).trans z3⟩
  by_cases c29 : x = (29 : Int32)
  · obtain ⟨t1, t2, h1, z1, z2, z3⟩ := lw_case_29 g29 hI hR
    exact ⟨t1, t2, h1, z1, z2, (rl_tsw (t := 1180) rfl c29 (by decide)).trans z3⟩
  by_cases c30 : x = (30 : Int32)
  · obtain ⟨t1, t2, h1, z1, z2, z3⟩ := lw_case_30 g30 hI hR
    exact ⟨t1, t2, h1, z1, z2, (rl_tsw (t := 1193) rfl c30 (by decide)).trans z3⟩
  by_cases c31 : x = (31 : Int32)
  · obtain ⟨t1, t2, h1, z1, z2, z3⟩ := lw_case_31 g31 hI hR
    exact ⟨t1, t2, h1, z1, z2, (rl_tsw (t := 1206) rfl c31 (by decide)).trans z3⟩
  by_cases c32 : x = (32 : Int32)
  · obtain ⟨t1, t2, h1, z1, z2, z3⟩ := lw_case_32 g32 hI hR h1 h2
    exact ⟨t1, t2, h1, z1, z2, (rl_tsw (t := 1219) rfl c32 (by decide)).trans z3⟩
  by_cases c33 : x = (33 : Int32)
  · obtain ⟨t1, t2, h1, z1, z2, z3⟩ := lw_case_33 g33 hI hR h1 h2 h3
    exact ⟨t1, t2, h1, z1, z2, (rl_tsw (t := 1252) rfl c33 (by decide)).trans z3⟩
  by_cases c34 : x = (34 : Int32)
  · obtain ⟨t1, t2, h1, z1, z2, z3⟩ := lw_case_34 g34 hI hR h1 h2
    exact ⟨t1, t2, h1, z1, z2, (rl_tsw (t := 1295) rfl c34 (by decide)).trans z3⟩
  by_cases c35 : x = (35 : Int32)
  · obtain ⟨t1, t2, h1, z1, z2, z3⟩ := lw_case_35 g35 hI hR h1 h2 h3
    exact ⟨t1, t2, h1, z1, z2, (rl_tsw (t := 1328) rfl c35 (by decide)).trans z3⟩
  by_cases c36 : x = (36 : Int32)
  · obtain ⟨t1, t2, h1, z1, z2, z3⟩ := lw_case_36 g36 hI hR h1 h2
    exact ⟨t1, t2, h1, z1, z2, (rl_tsw (t := 1371) rfl c36 (by decide)).trans z3⟩
  by_cases c37 : x = (37 : Int32)
  · obtain ⟨t1, t2, h1, z1, z2, z3⟩ := lw_case_37 g37 hI hR h1 h2 h3
    exact ⟨t1, t2, h1, z1, z2, (rl_tsw (t := 1404) rfl c37 (by decide)).trans z3⟩
  by_cases c38 : x = (38 : Int32)
  · obtain ⟨t1, t2, h1, z1, z2, z3⟩ := lw_case_38 g38 hI hR h1 h2
    exact ⟨t1, t2, h1, z1, z2, (rl_tsw (t := 1447) rfl c38 (by decide)).trans z3⟩
  by_cases c39 : x = (39 : Int32)
  · obtain ⟨t1, t2, h1, z1, z2, z3⟩ := lw_case_39 g39 hI hR h1 h2
    exact ⟨t1, t2, h1, z1, z2, (rl_tsw (t := 1480) rfl c39 (by decide)).trans z3⟩
  by_cases c40 : x = (40 : Int32)
  · obtain ⟨t1, t2, h1, z1, z2, z3⟩ := lw_case_40 g40 hI hR h1 h2 h3
    exact ⟨t1, t2, h1, z1, z2, (rl_tsw (t := 1513) rfl c40 (by decide)).trans z3⟩
  by_cases c41 : x = (41 : Int32)
  · obtain ⟨t1, t2, h1, z1, z2, z3⟩ := lw_case_41 g41 hI hR h1 h2 h3
    exact ⟨t1, t2, h1, z1, z2, (rl_tsw (t := 1556) rfl c41 (by decide)).trans z3⟩
  by_cases c42 : x = (42 : Int32)
  · obtain ⟨t1, t2, h1, z1, z2, z3⟩ := lw_case_42 g42 hI hR h1 h2 h3
    exact ⟨t1, t2, h1, z1, z2, (rl_tsw (t := 1599) rfl c42 (by decide)).trans z3⟩
  by_cases c43 : x = (43 : Int32)
  · obtain ⟨t1, t2, h1, z1, z2, z3⟩ := lw_case_43 g43 hI hR h1
    exact ⟨t1, t2, h1, z1, z2, (rl_tsw (t := 1642) rfl c43 (by decide)).trans z3⟩
  by_cases c44 : x = (44 : Int32)
  · obtain ⟨t1, t2, h1, z1, z2, z3⟩ := lw_case_44 g44 hI hR h1
    exact ⟨t1, t2, h1, z1, z2, (rl_tsw (t := 1665) rfl c44 (by decide)).trans z3⟩
  by_cases c45 : x = (45 : Int32)
  · obtain ⟨t1, t2, h1, z1, z2, z3⟩ := lw_case_45 g45 hI hR h1
    exact ⟨t1, t2, h1, z1, z2, (rl_tsw (t := 1688) rfl c45 (by decide)).trans z3⟩
  by_cases c46 : x = (46 : Int32)
  · obtain ⟨t1, t2, h1, z1, z2, z3⟩ := lw_case_46 g46 hI hR h1 h2
    exact ⟨t1, t2, h1, z1, z2, (rl_tsw (t := 1711) rfl c46 (by decide)).trans z3⟩
  by_cases c47 : x = (47 : Int32)
  · obtain ⟨t1, t2, h1, z1, z2, z3⟩ := lw_case_47 g47 hI hR
    exact ⟨t1, t2, h1, z1, z2, (rl_tsw (t := 1744) rfl c47 (by decide)).trans z3⟩
  by_cases c48 : x = (48 : Int32)
  · obtain ⟨t1, t2, h1, z1, z2, z3⟩ := lw_case_48 g48 hI hR
    exact ⟨t1, t2, h1, z1, z2, (rl_tsw (t := 1757) rfl c48 (by decide)).trans z3⟩
  refine ⟨s1, s2, h, hI, hR, ?_⟩
  exact rl_tswd (t := 1770) [0, 1, 2, 3, 4, 5, 6, 7, 8, 9, 10, 11, 12, 13, 14, 15, 16, 17, 18, 19, 20, 21, 22, 23, 24, 25, 26, 27, 28, 29, 30, 31, 32, 33, 34, 35, 36, 37, 38, 39, 40, 41, 42, 43, 44, 45, 46, 47, 48] rfl (by decide +kernel) (fu_allc (fu_ne c0 (by decide)) (fu_allc (fu_ne c1 (by decide)) (fu_allc (fu_ne c2 (by decide)) (fu_allc (fu_ne c3 (by decide)) (fu_allc (fu_ne c4 (by decide)) (fu_allc (fu_ne c5 (by decide)) (fu_allc (fu_ne c6 (by decide)) (fu_allc (fu_ne c7 (by decide)) (fu_allc (fu_ne c8 (by decide)) (fu_allc (fu_ne c9 (by decide)) (fu_allc (fu_ne c10 (by decide)) (fu_allc (fu_ne c11 (by decide)) (fu_allc (fu_ne c12 (by decide)) (fu_allc (fu_ne c13 (by decide)) (fu_allc (fu_ne c14 (by decide)) (fu_allc (fu_ne c15 (by decide)) (fu_allc (fu_ne c16 (by decide)) (fu_allc (fu_ne c17 (by decide)) (fu_allc (fu_ne c18 (by decide)) (fu_allc (fu_ne c19 (by decide)) (fu_allc (fu_ne c20 (by decide)) (fu_allc (fu_ne c21 (by decide)) (fu_allc (fu_ne c22 (by decide)) (fu_allc (fu_ne c23 (by decide)) (fu_allc (fu_ne c24 (by decide)) (fu_allc (fu_ne c25 (by decide)) (fu_allc (fu_ne c26 (by decide)) (fu_allc (fu_ne c27 (by decide)) (fu_allc (fu_ne c28 (by decide)) (fu_allc (fu_ne c29 (by decide)) (fu_allc (fu_ne c30 (by decide)) (fu_allc (fu_ne c31 (by decide)) (fu_allc (fu_ne c32 (by decide)) (fu_allc (fu_ne c33 (by decide)) (fu_allc (fu_ne c34 (by decide)) (fu_allc (fu_ne c35 (by decide)) (fu_allc (fu_ne c36 (by decide)) (fu_allc (fu_ne c37 (by decide)) (fu_allc (fu_ne c38 (by decide)) (fu_allc (fu_ne c39 (by decide)) (fu_allc (fu_ne c40 (by decide)) (fu_allc (fu_ne c41 (by decide)) (fu_allc (fu_ne c42 (by decide)) (fu_allc (fu_ne c43 (by decide)) (fu_allc (fu_ne c44 (by decide)) (fu_allc (fu_ne c45 (by decide)) (fu_allc (fu_ne c46 (by decide)) (fu_allc (fu_ne c47 (by decide)) (fu_allc (fu_ne c48 (by decide)) fu_all))))))))))))))))))))))))))))))))))))))))))))))))) (by decide)
theorem rl_le {n L : Nat} (hn : n < 4000) (hL : L ≤ 3072) : (Int32.ofNat n ≤ Int32.ofNat L - 6) ↔ n + 6 ≤ L := by
  have h1 : (Int32.ofNat L - 6).toInt = (L : Int) - 6 := by
    rw [Int32.toInt_sub, Int32.toInt_ofNat_of_lt (by omega), show (6 : Int32).toInt = 6 from rfl]
    rw [Int.bmod_eq_of_le] <;> omega
  rw [Int32.le_iff_toInt_le, h1, Int32.toInt_ofNat_of_lt (by omega)]
  omega
theorem rl_in {n k L : Nat} (h : n + k < L) (hL : L ≤ 3072) : am_in (Int32.ofNat n + Int32.ofNat k) L = true := by
  rw [← Int32.ofNat_add]
  exact (in_ofNat h (by omega)).1
set_option maxRecDepth 100000 in
theorem rl_loop {I : fu_S → fu_S → Prop} (hE : lw_EQ I) {L : Nat} (hL : L ≤ 3072) {xs : Nat → Int32} : ∀ (m n : Nat) (s1 s2 : fu_S) (h : am_H), I s1 s2 → rl_R s1 s2 h → L ≤ n + 6 * m → n < L + 6 → ∃ t1 t2 h1, rl_R t1 t2 h1 ∧ rl_X L xs 18 [.ref 2000000, .ref 0, .ref 117, .int (Int32.ofNat n)] [] h = some (some (.int 1), h1)
  | m, n, s1, s2, h, hI, hR, hm, hn => by
    have e0 : rl_X L xs 18 [.ref 2000000, .ref 0, .ref 117, .int (Int32.ofNat n)] [] h = rl_X L xs 24 [.ref 2000000, .ref 0, .ref 117, .int (Int32.ofNat n)] [.int (Int32.ofNat L - 6), .int (Int32.ofNat n)] h := by
      refine (rl_go (c' := (20, [.ref 2000000, .ref 0, .ref 117, .int (Int32.ofNat n)], [.ref 2000000, .int (Int32.ofNat n)], h)) (k := 2) rfl).trans ?_
      refine (rl_al rfl).trans ?_
      exact rl_go (c' := (24, [.ref 2000000, .ref 0, .ref 117, .int (Int32.ofNat n)], [.int (Int32.ofNat L - 6), .int (Int32.ofNat n)], h)) (k := 2) rfl
    rw [e0]
    by_cases hc : n + 6 ≤ L
    · have hle := (rl_le (by omega) hL).mpr hc
      have e1 : rl_X L xs 24 [.ref 2000000, .ref 0, .ref 117, .int (Int32.ofNat n)] [.int (Int32.ofNat L - 6), .int (Int32.ofNat n)] h = rl_X L xs 27 [.ref 2000000, .ref 0, .ref 117, .int (Int32.ofNat n)] [] h := am_X_step (i := .if_icmp .gt 1752) rfl (c' := (27, [.ref 2000000, .ref 0, .ref 117, .int (Int32.ofNat n)], [], h)) (by simp only [am_step, if_pos hle])
      rw [e1]
      obtain ⟨t1, t2, h1, hI1, hR1, e2⟩ := lw_body hE (L := L) (xs := xs) (i := Int32.ofNat n) hI hR (in_ofNat (by omega) (by omega)).1 (rl_in (k := 1) (by omega) hL) (rl_in (k := 2) (by omega) hL) (rl_in (k := 3) (by omega) hL) (rl_in (k := 4) (by omega) hL) (rl_in (k := 5) (by omega) hL)
      rw [e2]
      have e3 : rl_X L xs 1770 [.ref 2000000, .ref 0, .ref 117, .int (Int32.ofNat n)] [] h1 = rl_X L xs 18 [.ref 2000000, .ref 0, .ref 117, .int (Int32.ofNat n + 6)] [] h1 := rl_go (c' := (18, [.ref 2000000, .ref 0, .ref 117, .int (Int32.ofNat n + 6)], [], h1)) (k := 2) rfl
      rw [e3, show Int32.ofNat n + 6 = Int32.ofNat (n + 6) by rw [Int32.ofNat_add]; rfl]
      match m, hm with
      | 0, hm => omega
      | m + 1, hm => exact rl_loop hE hL m (n + 6) t1 t2 h1 hI1 hR1 (by omega) (by omega)
    · have hle : ¬ Int32.ofNat n ≤ Int32.ofNat L - 6 := fun z => hc ((rl_le (by omega) hL).mp z)
      refine ⟨s1, s2, h, hR, ?_⟩
      have e1 : rl_X L xs 24 [.ref 2000000, .ref 0, .ref 117, .int (Int32.ofNat n)] [.int (Int32.ofNat L - 6), .int (Int32.ofNat n)] h = rl_X L xs 1776 [.ref 2000000, .ref 0, .ref 117, .int (Int32.ofNat n)] [] h := am_X_step (i := .if_icmp .gt 1752) rfl (c' := (1776, [.ref 2000000, .ref 0, .ref 117, .int (Int32.ofNat n)], [], h)) (by simp only [am_step, if_neg hle])
      rw [e1]
      refine (rl_go (c' := (1777, [.ref 2000000, .ref 0, .ref 117, .int (Int32.ofNat n)], [.int 1], h)) (k := 1) rfl).trans ?_
      rw [am_X_eq]
      rfl
/-- what a cell of a shape takes -/
def rl_csz (k : fu_K) : Nat := match k with
  | .inl (c, _) => am_N c
  | .inr (_, n, _) => n
theorem rl_csz_ok {k : fu_K} {f : Nat → Int32} {g : Nat → Int64} {c : am_C} (h : fu_ok k f g c) : am_csz c = rl_csz k := by
  unfold fu_ok at h
  split at h
  · obtain ⟨fs, rfl, h2, -⟩ := h
    exact h2
  all_goals
    obtain ⟨F, rfl, -⟩ := h
    rfl
def rl_shl : List fu_K := fc_shl ++ fr_shl
theorem rl_sl {s1 s2 : fu_S} {h : am_H} (hR : rl_R s1 s2 h) : am_sl h = (rl_shl.map rl_csz).sum := by
  unfold am_sl
  congr 1
  apply List.ext_getElem?
  intro a
  rw [List.getElem?_map, List.getElem?_map]
  by_cases ha : a < 117
  · have h1 : rl_shl[a]? = fc_sh a := List.getElem?_append_left (by show a < 117; exact ha)
    obtain ⟨k, hk⟩ : ∃ k, fc_sh a = some k := ⟨_, List.getElem?_eq_getElem (show a < fc_shl.length by show a < 117; exact ha)⟩
    obtain ⟨c, hc, ho⟩ := hR.2.1 a k hk
    rw [h1, hk, hc]
    exact congrArg some (rl_csz_ok ho)
  · by_cases hb : a < 128
    · have h1 : rl_shl[a]? = fr_sh a := by
        unfold fr_sh rl_shl
        rw [List.getElem?_append_right (show fc_shl.length ≤ a by show 117 ≤ a; omega), cond_eq_ite, if_neg (fun z => ha (Nat.blt_eq.mp z))]
        rfl
      obtain ⟨k, hk⟩ : ∃ k, fr_sh a = some k := by
        unfold fr_sh
        rw [cond_eq_ite, if_neg (fun z => ha (Nat.blt_eq.mp z))]
        exact ⟨_, List.getElem?_eq_getElem (show a - 117 < fr_shl.length by show a - 117 < 128 - 117; omega)⟩
      obtain ⟨c, hc, ho⟩ := hR.2.2 a k hk
      rw [h1, hk, hc]
      exact congrArg some (rl_csz_ok ho)
    · rw [List.getElem?_eq_none (show h.length ≤ a by rw [hR.1]; omega), List.getElem?_eq_none (show rl_shl.length ≤ a by show 128 ≤ a; omega)]
      rfl
theorem rl_start : ∃ h1 h2 : am_H, am_Dy am_hoN in_O am_m 4 178 [.ref 0] [.inr (9, am_df 9)] = some (none, h1) ∧ h1.length = 117 ∧ am_Dy am_hoN in_O am_m 4 233 [.ref 117] (h1 ++ [.inr (10, am_df 10)]) = some (none, h2) ∧ rl_R (ini_s h2) (ini_s h2) h2 ∧ ini_P (ini_s h2) := by
  have h := ini_run_ok
  unfold ini_run at h
  split at h
  · rename_i h1 e1
    rw [Bool.and_eq_true] at h
    obtain ⟨hl, h⟩ := h
    split at h
    · rename_i h2 e2
      unfold ini_ok at h
      simp only [Bool.and_eq_true, List.all_eq_true, decide_eq_true_eq] at h
      obtain ⟨⟨⟨hl2, h⟩, p1⟩, p2⟩ := h
      have hlen : h2.length = 128 := Nat.eq_of_beq_eq_true hl2
      refine ⟨h1, h2, e1, Nat.eq_of_beq_eq_true hl, e2, ⟨hlen, fun a k ha => ?_, fun a k ha => ?_⟩, p1, p2⟩
      · have h3 := h a (List.mem_range.mpr (by have := rl_cs ha; omega))
        rw [ha] at h3
        dsimp only at h3
        cases hc : h2[a]? with
        | none => rw [hc] at h3; cases h3
        | some c => rw [hc] at h3; exact ⟨c, rfl, fu_chk_ok hc h3⟩
      · have h3 := h a (List.mem_range.mpr (rl_rs ha).2)
        rw [rl_cn (rl_rs ha).1, ha] at h3
        dsimp only at h3
        cases hc : h2[a]? with
        | none => rw [hc] at h3; cases h3
        | some c => rw [hc] at h3; exact ⟨c, rfl, fu_chk_ok hc h3⟩
    · cases h
  · cases h
theorem rl_cI {η : Type} {ho : Nat → Nat → Nat → List Value → η → Option (List Value × η)} {C : Nat → List Value → η → Option (Option Value × η)} {rt : Option FieldType} {code : List am_I} {pc n p q a x' : Nat} {ls st as r : List Value} {s s' : η} {v : Value} {w : Option Value} (hat : am_at code pc = some (.invokespecial x', n, p, q, v)) (hp : Nat.ble 1000 p = false) (ht : (st.take q).reverse = as) (hd : st.drop q = .ref a :: r) (hr : Nat.ble (am_sz r) 8 = true) (hc : C p (.ref a :: as) s = some (w, s')) : am_X ho C rt code pc ls st s = am_X ho C rt code (pc + n) ls (w.toList ++ r) s' := by
  rw [am_X_eq]
  have h1 : am_one ho C rt code pc ls st s = some (.inr (pc + n, ls, w.toList ++ r, s')) := by
    simp only [am_one, hat, hp, cond_false, ht, hd, hc]
    rw [if_pos (Nat.le_of_ble_eq_true hr)]
  rw [h1]
theorem rl_new {L : Nat} {xs : Nat → Int32} {C : Nat → List Value → am_H → Option (Option Value × am_H)} {rt : Option FieldType} {code : List am_I} {pc n p q x' N : Nat} {ls st : List Value} {h : am_H} {v : Value} (hat : am_at code pc = some (.new x', n, p, q, v)) (hp : p < 11) (hN : h.length = N) (hl : N < 1000000) : am_X (am_ho L xs) C rt code pc ls st h = am_X (am_ho L xs) C rt code (pc + n) ls (.ref N :: st) (h ++ [.inr (p, am_df p)]) := by
  subst hN
  have e : am_ho L xs 12 p q st h = some (.ref h.length :: st, h ++ [.inr (p, am_df p)]) := by
    simp only [am_ho]
    rw [if_pos ⟨hp, hl⟩]
  refine am_X_step (ho := am_ho L xs) (st := st) (h := h) (ls := ls) hat (c' := (pc + n, ls, .ref h.length :: st, h ++ [.inr (p, am_df p)])) ?_
  simp only [am_step, e]
set_option maxRecDepth 100000 in
/-- the law's run, out of what is shown of each pair of methods -/
theorem lw_glue {I : fu_S → fu_S → Prop} (hI : ∀ s, ini_P s → I s s) (hE : lw_EQ I) : am_AML := by
  intro L xs hL
  obtain ⟨h1, h2, e1, l1, e2, hR, hp⟩ := rl_start
  have f1 : am_D (am_ho L xs) am_m 998 178 [.ref 0] ([.inr (9, am_df 9)] : am_H) = some (none, h1) := by
    obtain ⟨z, z1, rfl⟩ := am_Dy_D (fun m as h r e => in_O_ok e) 4 _ _ _ _ _ _ rfl e1
    obtain ⟨z', z2, rfl⟩ := sm_D (am_hoN_sim (L := L) (xs := xs)) 6 _ _ _ _ _ _ rfl z1
    exact am_D_le (by omega) z2
  have f2 : am_D (am_ho L xs) am_m 998 233 [.ref 117] (h1 ++ [.inr (10, am_df 10)]) = some (none, h2) := by
    obtain ⟨z, z1, rfl⟩ := am_Dy_D (fun m as h r e => in_O_ok e) 4 _ _ _ _ _ _ rfl e2
    obtain ⟨z', z2, rfl⟩ := sm_D (am_hoN_sim (L := L) (xs := xs)) 6 _ _ _ _ _ _ rfl z1
    exact am_D_le (by omega) z2
  obtain ⟨t1, t2, h3, hR3, e3⟩ := rl_loop hE hL (xs := xs) (L + 1) 0 (ini_s h2) (ini_s h2) h2 (hI _ hp) hR (by omega) (by omega)
  have e0 : rl_X L xs 0 [.ref 2000000, am_U, am_U, am_U] [] [] = some (some (.int 1), h3) := by
    refine (rl_new (N := 0) rfl (by omega) rfl (by omega)).trans ?_
    refine (rl_go (c' := (4, [.ref 2000000, am_U, am_U, am_U], [.ref 0, .ref 0], [.inr (9, am_df 9)])) (k := 1) rfl).trans ?_
    refine (rl_cI rfl rfl rfl rfl rfl f1).trans ?_
    refine (rl_go (c' := (8, [.ref 2000000, .ref 0, am_U, am_U], [], h1)) (k := 1) rfl).trans ?_
    refine (rl_new (N := 117) rfl (by omega) l1 (by omega)).trans ?_
    refine (rl_go (c' := (12, [.ref 2000000, .ref 0, am_U, am_U], [.ref 117, .ref 117], h1 ++ [.inr (10, am_df 10)])) (k := 1) rfl).trans ?_
    refine (rl_cI rfl rfl rfl rfl rfl f2).trans ?_
    refine (rl_go (c' := (18, [.ref 2000000, .ref 0, .ref 117, .int (Int32.ofNat 0)], [], h2)) (k := 3) rfl).trans ?_
    exact e3
  obtain ⟨n, e⟩ := am_X_ex e0
  obtain ⟨h', e', rfl⟩ := sm_ex sm_refl (fun m as s h v s' hR e => by
    subst hR
    exact ⟨s', am_D_le (show 998 ≤ 1000 by omega) e, rfl⟩) rfl e
  refine ⟨n, h3, e', by rw [hR3.1]; omega, ?_⟩
  rw [rl_sl hR3]
  exact Nat.le_of_ble_eq_true (by decide +kernel)

