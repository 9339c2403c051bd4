theorem am_pw : ∀ w ∈ ([.static Lib.Math.max.name, .static Lib.Math.min.name, .static Lib.Math.abs.name, .static Lib.MathLoose.abs_long.x, .initialized "java/lang/Math", .code Lib.Math.max.name Lib.Math.max.code 2 (some .int), .code Lib.Math.min.name Lib.Math.min.code 2 (some .int), .code Lib.Math.abs.name Lib.Math.abs.code 1 (some .int), .code Lib.MathLoose.abs_long.x Lib.MathLoose.abs_long.code 2 (some .long), .static arraycopyName, .native arraycopyName, .initialized "java/lang/System", .instanceMethod Lib.objectInit, .code Lib.objectInit ⟨#[0xb1]⟩ 1 none] : List Cond), w ∈ am_TT := by decide +kernel
section AMP
variable {p : Program} {l : Launch} {e : Env} {R : Room} {s : State} {m : MethodId} {args : Array Value} {below : List Frame} {meth : Method} {c : Code} {Q : State → Prop} {D : va_G} {tA : Nat → ClassId} {base : Nat} {sp : Nat → Nat} {L : Nat} {xs : Nat → Int32} {cc : ByteArray} {nL c0 s0 o : Nat} {fin : Bool}
set_option maxHeartbeats 8000000 in
theorem am_primS (F : am_F p R s m args meth c D tA base sp L xs cc nL o c0 fin) {x n p' q : Nat} {v : Value} {pc : Nat} {ls st st' : List Value} {h h1 : am_H} (hp : Nat.ble 1000 p' = true) (hd : decode cc pc = .ok (.invokestatic x, n)) (hk : am_chk o fin cc (pc, .invokestatic x, n, p', q, v) = true)
    (h16 : am_sz st ≤ 16) (ho : am_ho L xs p' 0 0 st h = some (st', h1)) (hRc : h.length ≤ R.cells + c0) (hRs : am_sl h ≤ R.slots + s0)
    (kk : am_W p l e R s m args below meth c Q D tA base sp nL c0 s0 (pc + n) ls st' h1) : am_W p l e R s m args below meth c Q D tA base sp nL c0 s0 pc ls st h := by
  intro LS H locs cells slots hl hP hS hc hs
  obtain ⟨hx, hb, hml, hown, hts, hK, hbs, hfin, hR, hX, hXb, hAO4, hAO5, hstr, hAC⟩ := F
  have hD := hP.D
  simp only [am_chk, Bool.and_eq_true, decide_eq_true_eq, Nat.beq_eq, hp, cond_true, Nat.ble_eq] at hk
  obtain ⟨-, rfl, hm0, hle⟩ := hk
  have hm := List.elem_iff.mp hm0
  have hlk : (Cond.methodLink (am_own o) x (am_pn p')).before args s = true := hts _ (am_tt (am_pl_in _ hm) rfl)
  have hW := fun w hw => hts w (am_pw w hw)
  have hge : 1000 ≤ p' := Nat.le_of_ble_eq_true hp
  have hml2 : c.maxLocals = LS.size := by rw [hml]; exact hl.2.1.symm
  have hcc : cells ≤ R.cells := by omega
  have hss : slots ≤ R.slots := by omega
  obtain rfl | rfl | rfl | rfl | rfl : p' = 1000 ∨ p' = 1001 ∨ p' = 1002 ∨ p' = 1003 ∨ p' = 1004 := by omega
  · cases st with
    | nil => simp [am_ho] at ho
    | cons x0 st =>
      cases x0 <;> try (simp [am_ho] at ho; done)
      cases st with
      | nil => simp [am_ho] at ho
      | cons x1 st =>
        cases x1 <;> try (simp [am_ho] at ho; done)
        simp only [am_ho] at ho
        cases ho
        have hz : ((st.map (am_ev (am_ad base sp))).map fun v => v.category).sum + 13 ≤ R.locals := by
          rw [am_ev_sz]
          simp [am_sz, Value.category] at h16 ⊢
          omega
        exact va_mmax hx hb hml2 hown hlk (hW _ (by simp)) (hW _ (by simp)) (hW _ (by simp)) hR.1 hz hcc hss hd (kk LS H locs cells slots hl hP hS hc hs)
  · cases st with
    | nil => simp [am_ho] at ho
    | cons x0 st =>
      cases x0 <;> try (simp [am_ho] at ho; done)
      cases st with
      | nil => simp [am_ho] at ho
      | cons x1 st =>
        cases x1 <;> try (simp [am_ho] at ho; done)
        simp only [am_ho] at ho
        cases ho
        have hz : ((st.map (am_ev (am_ad base sp))).map fun v => v.category).sum + 13 ≤ R.locals := by
          rw [am_ev_sz]
          simp [am_sz, Value.category] at h16 ⊢
          omega
        exact va_mmin hx hb hml2 hown hlk (hW _ (by simp)) (hW _ (by simp)) (hW _ (by simp)) hR.1 hz hcc hss hd (kk LS H locs cells slots hl hP hS hc hs)
  · cases st with
    | nil => simp [am_ho] at ho
    | cons x0 st =>
      cases x0 <;> try (simp [am_ho] at ho; done)
      simp only [am_ho] at ho
      cases ho
      have hz : ((st.map (am_ev (am_ad base sp))).map fun v => v.category).sum + 13 ≤ R.locals := by
        rw [am_ev_sz]
        simp [am_sz, Value.category] at h16 ⊢
        omega
      exact va_mabs hx hb hml2 hown hlk (hW _ (by simp)) (hW _ (by simp)) (hW _ (by simp)) hR.1 hz hcc hss hd (kk LS H locs cells slots hl hP hS hc hs)
  · cases st with
    | nil => simp [am_ho] at ho
    | cons x0 st =>
      cases x0 <;> try (simp [am_ho] at ho; done)
      simp only [am_ho] at ho
      cases ho
      have hz : ((st.map (am_ev (am_ad base sp))).map fun v => v.category).sum + 13 ≤ R.locals := by
        rw [am_ev_sz]
        simp [am_sz, Value.category] at h16 ⊢
        omega
      exact va_mabs_long hx hb hml2 hown hlk (hW _ (by simp)) (hW _ (by simp)) (hW _ (by simp)) hR.1 hz hcc hss hd (kk LS H locs cells slots hl hP hS hc hs)
  · cases st with
    | nil => simp [am_ho] at ho
    | cons x0 st =>
      cases x0 <;> try (simp [am_ho] at ho; done)
      cases st with
      | nil => simp [am_ho] at ho
      | cons x1 st =>
        cases x1 <;> try (simp [am_ho] at ho; done)
        cases st with
        | nil => simp [am_ho] at ho
        | cons x2 st =>
          cases x2 <;> try (simp [am_ho] at ho; done)
          cases st with
          | nil => simp [am_ho] at ho
          | cons x3 st =>
            cases x3 <;> try (simp [am_ho] at ho; done)
            cases st with
            | nil => simp [am_ho] at ho
            | cons x4 st =>
              cases x4 <;> try (simp [am_ho] at ho; done)
              rename_i n1 dp1 a1 sp1 a0
              have hz : ((st.map (am_ev (am_ad base sp))).map fun v => v.category).sum + (nativeFrameWords "java/lang/System" "arraycopy" 5 + 11) ≤ R.locals := by
                rw [am_ev_sz]
                have : nativeFrameWords "java/lang/System" "arraycopy" 5 ≤ 30 := by decide
                simp [am_sz, Value.category] at h16 ⊢
                omega
              simp only [am_ho] at ho
              split at ho
              · rename_i n0 f n2 g hca0 hca
                split at ho
                · rename_i hcd
                  cases ho
                  obtain ⟨q1, q2, q3, q4, q5⟩ := hcd
                  refine va_copyi (D := D) (ty := .int) hx hb hml2 hown hlk (hW _ (by simp)) (hW _ (by simp)) (hW _ (by simp)) hK hP.2 hD hS a0 a1 0 0 (am_eh_get hca0) (am_eh_get hca) rfl rfl rfl q1 q2 q3 q4 q5 (fun _ _ => rfl) hR.1 hz hd (fun H1 locs1 hP1 _ hS1 => ?_)
                  refine kk LS H1 locs1 cells slots hl ⟨by rw [List.length_set]; exact hP.1, ?_⟩ hS1 (by rw [hc, List.length_set]) (by rw [hs, am_sl_set hca (by simp [am_csz])])
                  rw [am_eh_set]
                  exact hP1
                · cases ho
              · rename_i n0 f n2 g hca0 hca
                split at ho
                · rename_i hcd
                  cases ho
                  obtain ⟨q1, q2, q3, q4, q5⟩ := hcd
                  refine va_copyl (D := D) (ty := .long) hx hb hml2 hown hlk (hW _ (by simp)) (hW _ (by simp)) (hW _ (by simp)) hK hP.2 hD hS a0 a1 1 1 (am_eh_get hca0) (am_eh_get hca) rfl rfl rfl q1 q2 q3 q4 q5 (fun _ _ => rfl) hR.1 hz hd (fun H1 locs1 hP1 _ hS1 => ?_)
                  refine kk LS H1 locs1 cells slots hl ⟨by rw [List.length_set]; exact hP.1, ?_⟩ hS1 (by rw [hc, List.length_set]) (by rw [hs, am_sl_set hca (by simp [am_csz])])
                  rw [am_eh_set]
                  exact hP1
                · cases ho
              · cases ho
theorem am_primI (F : am_F p R s m args meth c D tA base sp L xs cc nL o c0 fin) {x n p' q : Nat} {v : Value} {pc : Nat} {ls st st' : List Value} {h h1 : am_H} (hp : Nat.ble 1000 p' = true) (hd : decode cc pc = .ok (.invokespecial x, n)) (hk : am_chk o fin cc (pc, .invokespecial x, n, p', q, v) = true)
    (h16 : am_sz st ≤ 16) (ho : am_ho L xs p' 0 0 st h = some (st', h1))
    (kk : am_W p l e R s m args below meth c Q D tA base sp nL c0 s0 (pc + n) ls st' h1) : am_W p l e R s m args below meth c Q D tA base sp nL c0 s0 pc ls st h := by
  intro LS H locs cells slots hl hP hS hc hs
  obtain ⟨hx, hb, hml, hown, hts, hK, hbs, hfin, hR, hX, hXb, hAO4, hAO5, hstr, hAC⟩ := F
  simp only [am_chk, Bool.and_eq_true, decide_eq_true_eq, Nat.beq_eq, hp, cond_true] at hk
  obtain ⟨-, rfl, hm0, rfl⟩ := hk
  have hm := List.elem_iff.mp hm0
  have hlk : (Cond.methodLink (am_own o) x Lib.objectInit).before args s = true := hts _ (am_tt (am_pl_in _ hm) rfl)
  have hW := fun w hw => hts w (am_pw w hw)
  cases st with
  | nil => simp [am_ho] at ho
  | cons x0 st =>
    cases x0 <;> try (simp [am_ho] at ho; done)
    simp only [am_ho] at ho
    cases ho
    refine W.objInit hx hb hown hlk (hW _ (by simp)) (hW _ (by simp)) rfl (by rw [hml]; exact hl.2.1) rfl hd hR.1 ?_ (kk LS H locs cells slots hl hP hS hc hs)
    show 2 * 0 + _ + 12 ≤ _
    rw [am_ev_sz]
    simp [am_sz, Value.category] at h16 ⊢
    omega
end AMP
