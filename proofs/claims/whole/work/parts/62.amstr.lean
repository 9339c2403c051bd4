/-! the two members of String that the code calls, as the small machine has them -/
theorem sd_ad (base : Nat) (sp : Nat → Nat) : am_ad base sp 1000000 = sp 1000000 := if_neg (by omega)
set_option maxHeartbeats 4000000 in
theorem am_str {l : Launch} {D : va_G} {tA : Nat → ClassId} {base : Nat} {sp : Nat → Nat} {L : Nat} {xs : Nat → Int32} : am_STR l D tA base sp L xs := by
  intro p e R s m args below meth c Q cc nL c0 s0 o fin x n p' q v pc ls st st' h h1 F G hR8 hp hd hk h16 ho hRc hRs kk LS H locs cells slots hl hP hS hc hs
  obtain ⟨hx, hb, hml, hown, hts, hK, hbs, hfin, hR, hX, hXb, hAO4, hAO5, hstr, hAC⟩ := F
  obtain ⟨-, -, -, -, -, gE, -, -, gZ, gZq⟩ := G
  have hE : sd_S base sp s := ⟨gE, gZ, gZq⟩
  simp only [am_chk, Bool.and_eq_true, decide_eq_true_eq, Nat.beq_eq, hp, cond_true, Bool.or_eq_true] at hk
  obtain ⟨-, rfl, hm0, hor⟩ := hk
  have hm := List.elem_iff.mp hm0
  have hlk : Cond.methodLink (am_own o) x (am_pn p') ∈ am_TT := am_tt (am_pl_in _ hm) rfl
  rcases hor with rfl | rfl
  · cases st with
    | nil => simp [am_ho] at ho
    | cons x0 r =>
      cases x0 <;> try (simp [am_ho] at ho; done)
      simp only [am_ho] at ho
      split at ho
      · rename_i ha
        cases ho
        subst ha
        have hr8 : (r.map (am_ev (am_ad base sp)) |>.map fun v => v.category).sum ≤ 8 := by
          rw [am_ev_sz]
          simp only [am_sz, List.map_cons, List.sum_cons] at h16 ⊢
          omega
        show W p l e R s m args below meth c H locs cells slots Q (F0 m pc LS (.ref (am_ad base sp 1000000) :: r.map (am_ev (am_ad base sp))))
        rw [sd_ad]
        refine sd_run (va_runV (maxL := 1) (ret := (some .int)) (bytes := cJ0_length_8abf5) (As := []) (rest := r.map (am_ev (am_ad base sp))) ⟨hx, hb, hml, hown, hts⟩ (sd_length l base sp) (cwV (ws' := am_TT) 0 hts (sd_good (sd_l2 24 rfl) (fun z hz => by
          rcases List.mem_cons.mp hz with rfl | hz
          · exact hlk
          rcases List.mem_cons.mp hz with rfl | hz
          · exact sd_l2 22 rfl
          rcases List.mem_cons.mp hz with rfl | hz
          · exact sd_l2 23 rfl
          rcases List.mem_cons.mp hz with rfl | hz
          · exact sd_l2 4 rfl
          cases hz)) rfl rfl rfl (by decide +kernel) ⟨by show 2 + 1 ≤ R.frames; omega, by show 8 + (1 + 11) + 60 ≤ R.locals; omega⟩) ⟨sd_blind, vk_recv gE (i := 0) (by decide) hS, fun U hU hW => ⟨rfl, sd_call hE hS hU hW⟩⟩ rfl rfl hl.2.1 rfl (lv_room hr8) hd ⟨by omega, by omega⟩) (fun r hr => ?_)
        subst hr
        exact kk LS H locs cells slots hl hP hS hc hs
      · cases ho
  · cases st with
    | nil => simp [am_ho] at ho
    | cons x0 r =>
      cases x0 <;> try (simp [am_ho] at ho; done)
      rename_i i
      cases r with
      | nil => simp [am_ho] at ho
      | cons x1 r =>
        cases x1 <;> try (simp [am_ho] at ho; done)
        simp only [am_ho] at ho
        split at ho
        · rename_i ha
          cases ho
          obtain ⟨rfl, hi⟩ := ha
          have hr8 : (r.map (am_ev (am_ad base sp)) |>.map fun v => v.category).sum ≤ 8 := by
            rw [am_ev_sz]
            simp only [am_sz, List.map_cons, List.sum_cons] at h16 ⊢
            omega
          show W p l e R s m args below meth c H locs cells slots Q (F0 m pc LS (.int i :: .ref (am_ad base sp 1000000) :: r.map (am_ev (am_ad base sp))))
          rw [sd_ad]
          refine sd_run (va_runV (maxL := 2) (ret := (some .char)) (bytes := cJ0_charAt_5068e) (As := [.int i]) (rest := r.map (am_ev (am_ad base sp))) ⟨hx, hb, hml, hown, hts⟩ (sd_charAt l base sp i hi) (cwV (ws' := am_TT) 1 hts (sd_good (sd_l2 28 rfl) (fun z hz => by
            rcases List.mem_cons.mp hz with rfl | hz
            · exact hlk
            rcases List.mem_cons.mp hz with rfl | hz
            · exact sd_l2 26 rfl
            rcases List.mem_cons.mp hz with rfl | hz
            · exact sd_l2 27 rfl
            rcases List.mem_cons.mp hz with rfl | hz
            · exact sd_l2 4 rfl
            cases hz)) rfl rfl rfl (by decide +kernel) ⟨by show 4 + 1 ≤ R.frames; omega, by show 8 + (2 + 11) + 160 ≤ R.locals; omega⟩) ⟨sd_blind, vk_recv gE (i := 0) (by decide) hS, fun U hU hW => ⟨rfl, sd_call hE hS hU hW⟩⟩ rfl rfl hl.2.1 rfl (lv_room hr8) hd ⟨by omega, by omega⟩) (fun r hr => ?_)
          subst hr
          exact kk LS H locs cells slots hl hP hS hc hs
        · cases ho
