/-- the two members of String that the code calls (shown elsewhere) -/
def am_STR (l : Launch) (D : va_G) (tA : Nat → ClassId) (base : Nat) (sp : Nat → Nat) (L : Nat) (xs : Nat → Int32) : Prop :=
  ∀ (p : Program) (e : Env) (R : Room) (s : State) (m : MethodId) (args : Array Value) (below : List Frame) (meth : Method) (c : Code) (Q : State → Prop) (cc : ByteArray) (nL c0 s0 o : Nat) (fin : Bool) (x n p' q : Nat) (v : Value) (pc : Nat) (ls st st' : List Value) (h h1 : am_H),
    am_F p R s m args meth c D tA base sp L xs cc nL o c0 fin → am_G D tA base sp L xs s → 8 ≤ R.frames ∧ 512 ≤ R.locals → Nat.ble 1000 p' = true → decode cc pc = .ok (.invokevirtual x, n) → am_chk o fin cc (pc, .invokevirtual x, n, p', q, v) = true → am_sz st ≤ 8 → am_ho L xs p' 0 0 st h = some (st', h1) → h.length ≤ R.cells + c0 → am_sl h ≤ R.slots + s0 →
    am_W p l e R s m args below meth c Q D tA base sp nL c0 s0 (pc + n) ls st' h1 → am_W p l e R s m args below meth c Q D tA base sp nL c0 s0 pc ls st h
theorem am_chk_d {o : Nat} {fin : Bool} {b : ByteArray} {pc : Nat} {i : Instr} {n p q : Nat} {v : Value} (h : am_chk o fin b (pc, i, n, p, q, v) = true) : decode b pc = .ok (i, n) := by
  unfold am_chk at h
  exact of_decide_eq_true ((Bool.and_eq_true _ _).mp h).1
section AMO
variable {p : Program} {l : Launch} {e : Env} {R : Room} {s : State} {m : MethodId} {args : Array Value} {below : List Frame} {meth : Method} {c : Code} {Q : State → Prop} {D : va_G} {tA : Nat → ClassId} {base : Nat} {sp : Nat → Nat} {L : Nat} {xs : Nat → Int32} {cc : ByteArray} {nL c0 s0 o : Nat} {fin : Bool}
set_option maxHeartbeats 8000000 in
theorem am_oneW (F : am_F p R s m args meth c D tA base sp L xs cc nL o c0 fin) (G : am_G D tA base sp L xs s) {d : Nat} (hRd : d + 9 ≤ R.frames ∧ 64 * (d + 9) ≤ R.locals) (hok : ∀ m, m < 386 → am_okm m = true) (IH : ∀ m, m < 386 → am_MET l D tA base sp L xs d m) (hSt : am_STR l D tA base sp L xs)
    {rt : Option FieldType} {code : List am_I} (hch : ∀ x ∈ code, am_chk o fin cc x = true) {pc : Nat} {ls st : List Value} {h : am_H} {c' : Nat × List Value × List Value × am_H} (he : am_one (am_ho L xs) (am_D (am_ho L xs) am_m d) rt code pc ls st h = some (.inr c')) (hRc : c'.2.2.2.length ≤ R.cells + c0) (hRs : am_sl c'.2.2.2 ≤ R.slots + s0)
    (kk : am_W p l e R s m args below meth c Q D tA base sp nL c0 s0 c'.1 c'.2.1 c'.2.2.1 c'.2.2.2) : am_W p l e R s m args below meth c Q D tA base sp nL c0 s0 pc ls st h := by
  have gr : am_gr h c'.2.2.2 := am_one_gr (r := .inr c') (fun m as h v h' => am_D_gr d m as h v h') he
  have hRc0 : h.length ≤ R.cells + c0 := by have := gr.1; omega
  have hRs0 : am_sl h ≤ R.slots + s0 := by have := gr.2; omega
  have hR8 : 8 ≤ R.frames ∧ 512 ≤ R.locals := by omega
  unfold am_one at he
  cases hat : am_at code pc with
  | none => rw [hat] at he; cases he
  | some r =>
    obtain ⟨i, n, p', q, v⟩ := r
    have hk := hch _ (am_at_mem hat)
    have hd := am_chk_d hk
    rw [hat] at he
    dsimp only at he
    split at he
    · split at he <;> cases he
    · split at he
      · split at he <;> cases he
      · cases he
    · split at he <;> cases he
    · rw [cond_eq_ite] at he
      split at he
      · rename_i hp
        split at he
        · rename_i h16
          split at he
          · rename_i st' h' hho
            cases he
            exact hSt _ _ _ _ _ _ _ _ _ _ _ _ _ _ _ _ _ _ _ _ _ _ _ _ _ _ _ F G hR8 hp hd hk h16 hho hRc0 hRs0 kk
          · cases he
        · cases he
      · rename_i hp
        split at he
        · rename_i a r hst
          split at he
          · rename_i h8
            split at he
            · rename_i y hho
              split at he
              · rename_i w h' hC
                cases he
                exact am_callW F G hRd hok IH (Bool.eq_false_iff.mpr hp) hd hk hst h8 ⟨_, hho⟩ hC hRc hRs kk
              · cases he
            · cases he
          · cases he
        · cases he
    · rw [cond_eq_ite] at he
      split at he
      · rename_i hp
        split at he
        · rename_i h16
          split at he
          · rename_i st' h' hho
            cases he
            exact am_primS F hp hd hk h16 hho hRc0 hRs0 kk
          · cases he
        · cases he
      · rename_i hp
        split at he
        · rename_i h8
          split at he
          · rename_i w h' hC
            cases he
            exact am_callS F G hRd hok IH (Bool.eq_false_iff.mpr hp) hd hk h8.1 h8.2 hC hRc hRs kk
          · cases he
        · cases he
    · rw [cond_eq_ite] at he
      split at he
      · rename_i hp
        split at he
        · rename_i h16
          split at he
          · rename_i st' h' hho
            cases he
            exact am_primI F hp hd hk h16 hho kk
          · cases he
        · cases he
      · rename_i hp
        split at he
        · rename_i a r hst
          split at he
          · rename_i h8
            split at he
            · rename_i w h' hC
              cases he
              exact am_callI F G hRd hok IH (Bool.eq_false_iff.mpr hp) hd hk hst h8 hC hRc hRs kk
            · cases he
          · cases he
        · cases he
    · split at he
      · rename_i c1 hh
        cases he
        exact am_stepW F hd hk hh hRc hRs kk
      · cases he
theorem am_exW (F : am_F p R s m args meth c D tA base sp L xs cc nL o c0 fin) (G : am_G D tA base sp L xs s) {d : Nat} (hRd : d + 9 ≤ R.frames ∧ 64 * (d + 9) ≤ R.locals) (hok : ∀ m, m < 386 → am_okm m = true) (IH : ∀ m, m < 386 → am_MET l D tA base sp L xs d m) (hSt : am_STR l D tA base sp L xs)
    {rt : Option FieldType} {code : List am_I} (hch : ∀ x ∈ code, am_chk o fin cc x = true) {v : Option Value} {h' : am_H} (hRc : h'.length ≤ R.cells + c0) (hRs : am_sl h' ≤ R.slots + s0)
    (hend : ∀ (pc : Nat) (ls st : List Value) (h : am_H), am_one (am_ho L xs) (am_D (am_ho L xs) am_m d) rt code pc ls st h = some (.inl (v, h')) → am_W p l e R s m args below meth c Q D tA base sp nL c0 s0 pc ls st h) :
    ∀ (n pc : Nat) (ls st : List Value) (h : am_H), am_ex (am_ho L xs) (am_D (am_ho L xs) am_m d) rt code n pc ls st h = some (v, h') → am_W p l e R s m args below meth c Q D tA base sp nL c0 s0 pc ls st h
  | 0, _, _, _, _, he => by simp [am_ex] at he
  | n + 1, pc, ls, st, h, he => by
    rw [am_ex] at he
    cases ho : am_one (am_ho L xs) (am_D (am_ho L xs) am_m d) rt code pc ls st h with
    | none => rw [ho] at he; cases he
    | some r =>
      rw [ho] at he
      cases r with
      | inl a => cases he; exact hend _ _ _ _ ho
      | inr c' =>
        have g := am_ex_gr (fun m as h v h' => am_D_gr d m as h v h') (r := (v, h')) he
        exact am_oneW F G hRd hok IH hSt hch ho (by have := g.1; dsimp only at this; omega) (by have := g.2; dsimp only at this; omega) (am_exW F G hRd hok IH hSt hch hRc hRs hend n _ _ _ _ he)
end AMO
theorem am_ac : ∀ t, t < 3 → Cond.arrayClass (am_tau t) ∈ am_TT := by
  intro t ht
  match t, ht with
  | 0, _ => exact am_tt (by decide +kernel : Cond.arrayClass .int ∈ lw_tbl) rfl
  | 1, _ => exact am_tt (by decide +kernel : Cond.arrayClass .long ∈ lw_tbl) rfl
  | 2, _ => exact am_tt (by decide +kernel : Cond.arrayClass .byte ∈ lw_tbl) rfl
  | n + 3, h => omega
theorem am_lay_len {ad : Nat → Nat} : ∀ (as : List Value), (lg_sl (as.map (am_ev ad))).length = (am_lay as).length
  | [] => rfl
  | v :: t => by
    have h := am_lay_len (ad := ad) t
    unfold lg_sl at h ⊢
    rw [List.map_cons, List.flatMap_cons, List.length_append, h]
    cases v <;> simp [am_lay, am_ev, Value.category] <;> omega
theorem am_lay_in {ad : Nat → Nat} : ∀ (as : List Value) (k i : Nat) (v : Value), (am_lay as)[i]? = some v → (∀ x, v ≠ .retAddr x) → (k + i, am_ev ad v) ∈ lv_args k (as.map (am_ev ad))
  | [], _, _, _, h, _ => by simp [am_lay] at h
  | u :: t, k, i, v, h, hn => by
    have ih := am_lay_in (ad := ad) t
    cases u with
    | long x =>
      simp only [am_lay] at h
      match i, h with
      | 0, h => simp at h; subst h; simp [lv_args, am_ev]
      | 1, h => simp at h; exact absurd h.symm (hn _)
      | i + 2, h =>
        simp at h
        have := ih (k + 2) i v h hn
        simp only [List.map_cons, lv_args, am_ev, Value.category]
        refine List.mem_cons_of_mem _ ?_
        rw [show k + (i + 2) = k + 2 + i by omega]
        exact this
    | double x =>
      simp only [am_lay] at h
      match i, h with
      | 0, h => simp at h; subst h; simp [lv_args, am_ev]
      | 1, h => simp at h; exact absurd h.symm (hn _)
      | i + 2, h =>
        simp at h
        have := ih (k + 2) i v h hn
        simp only [List.map_cons, lv_args, am_ev, Value.category]
        refine List.mem_cons_of_mem _ ?_
        rw [show k + (i + 2) = k + 2 + i by omega]
        exact this
    | _ =>
      simp only [am_lay] at h
      match i, h with
      | 0, h => simp at h; subst h; simp [lv_args, am_ev]
      | i + 1, h =>
        simp at h
        have := ih (k + 1) i v h hn
        simp only [List.map_cons, lv_args, am_ev, Value.category]
        refine List.mem_cons_of_mem _ ?_
        rw [show k + (i + 1) = k + 1 + i by omega]
        exact this
theorem am_entry {ad : Nat → Nat} {as : List Value} {n : Nat} (hn : (am_lay as).length ≤ n) : am_Lc ad ((lg_sl (as.map (am_ev ad)) ++ List.replicate (n - (lg_sl (as.map (am_ev ad))).length) Slot.unset).toArray) n (am_init as n) := by
  have h := lv_entry (as.map (am_ev ad)) (n := n) (by rw [am_lay_len]; exact hn)
  refine ⟨by simp [am_init]; omega, h.1, h.2.1, fun q hq => h.2.2 q ?_⟩
  obtain ⟨v, hv, hnr, hw⟩ := am_asc_mem.mp hq
  unfold am_init at hv
  rw [List.getElem?_append] at hv
  split at hv
  · have := am_lay_in (ad := ad) as 0 q.1 v hv hnr
    rw [Nat.zero_add, ← hw] at this
    exact this
  · rw [List.getElem?_replicate] at hv
    split at hv
    · cases hv; exact absurd rfl (hnr _)
    · cases hv
set_option maxHeartbeats 8000000 in
/-- every method, at every depth: what the small machine answers, the machine answers -/
theorem am_met {l : Launch} {D : va_G} {tA : Nat → ClassId} {base : Nat} {sp : Nat → Nat} {L : Nat} {xs : Nat → Int32} (hok : ∀ m, m < 386 → am_okm m = true) (hSt : am_STR l D tA base sp L xs) : ∀ (d m : Nat), m < 386 → am_MET l D tA base sp L xs d m
  | 0, m, _ => fun as h v h' he => by simp [am_D] at he
  | d + 1, m, hm => fun as h v h' he => by
    obtain ⟨y, nL, rt, code, o, b, g1, g2, g3, g4, g5, g6, g7⟩ := am_okm_of (hok m hm)
    have hy := am_y_of g1
    rw [am_D, g1] at he
    dsimp only at he
    rw [cond_eq_ite] at he
    split at he
    · rename_i hle
      obtain ⟨n, he⟩ := am_X_ex he
      have gr := am_ex_gr (fun m as h v h' => am_D_gr d m as h v h') he
      refine Met.ofW (cc := b) (maxL := nL) (ret := rt) (by rw [hy]; exact g4) (ws' := am_TT) (by unfold am_wm; rw [g2, hy]) ?_
      intro p e s m' args below meth c s₁ B hml hv
      obtain ⟨ha, hsz, hP, hG⟩ := hv
      have hts0 := atoms_spec (ws := am_wm m) B.pre
      have hts : ∀ w ∈ am_TT, w.before args s = true := fun w hw => hts0 w (List.mem_cons_of_mem _ hw)
      have hown : s.vm.findClass (am_own o) = some m'.cls := by rw [g5, ← hy]; exact findClass_of_methodNamed B.named
      have hin : meth.name = (am_y m).name := (name_of_methodNamed B.named B.method).1
      obtain ⟨G1, G2, G3, G4, G5, G6, G7, G8, -, -⟩ := id hG
      have F : am_F p (headSpec (am_wm m) (am_rm (d + 1) (h'.length - h.length) (am_sl h' - am_sl h))).room s m' args meth c D tA base sp L xs b nL o h.length (decide (y.name = "<init>")) :=
        ⟨B.exec, B.bytes, hml, hown, hts, G1, hsz, fun z => by rw [hin, hy]; exact of_decide_eq_true z, ⟨by show 1 ≤ d + 1 + 8; omega, by show 64 ≤ 64 * (d + 1 + 8); omega⟩, G2, G7, G3, G4, fun _ => G5, fun t ht => hts _ (am_ac t ht)⟩
      have hRc : h'.length ≤ (headSpec (am_wm m) (am_rm (d + 1) (h'.length - h.length) (am_sl h' - am_sl h))).room.cells + h.length := by
        show h'.length ≤ (h'.length - h.length) + h.length
        omega
      have hRs : am_sl h' ≤ (headSpec (am_wm m) (am_rm (d + 1) (h'.length - h.length) (am_sl h' - am_sl h))).room.slots + am_sl h := by
        show am_sl h' ≤ (am_sl h' - am_sl h) + am_sl h
        omega
      have hrt := B.returns
      have hlocks := B.notSynchronized
      have K := am_exW (p := p) (l := l) (e := e) (s := s) (m := m') (args := args) (below := below) (meth := meth) (c := c) (Q := MQ below (am_Qc D tA base sp v h') args s (h'.length - h.length) (am_sl h' - am_sl h) (am_Ar base)) (s0 := am_sl h) F hG ⟨by show d + 9 ≤ d + 1 + 8; omega, by show 64 * (d + 9) ≤ 64 * (d + 1 + 8); omega⟩ hok (fun m hm => am_met hok hSt d m hm) hSt g7 (rt := rt) (v := v) (h' := h') hRc hRs (by
        intro pc ls st h2 ho LS H locs cells slots hl hP2 hS2 hc hs
        unfold am_one at ho
        cases hat : am_at code pc with
        | none => rw [hat] at ho; cases ho
        | some r =>
          obtain ⟨i, n, p', q, v2⟩ := r
          have hk := g7 _ (am_at_mem hat)
          have hd := am_chk_d hk
          rw [hat] at ho
          dsimp only at ho
          split at ho
          · split at ho
            · cases ho
              simp only [am_chk, Bool.and_eq_true, Nat.beq_eq] at hk
              obtain ⟨-, rfl⟩ := hk
              obtain rfl : cells = h'.length - h.length := by omega
              obtain rfl : slots = am_sl h' - am_sl h := by omega
              exact W.vret B.exec B.bytes hrt (fun t ht _ => ⟨rfl, by rw [ht]; exact hP2, hS2.F ht⟩) hS2.2.2 hd hlocks
            · cases ho
          · split at ho
            · split at ho
              · rename_i hn
                cases ho
                simp only [am_chk, Bool.and_eq_true, Nat.beq_eq] at hk
                obtain ⟨-, rfl⟩ := hk
                obtain rfl : cells = h'.length - h.length := by omega
                obtain rfl : slots = am_sl h' - am_sl h := by omega
                exact W.zret B.exec B.bytes hrt hn (fun t ht _ => ⟨rfl, by rw [ht]; exact hP2, hS2.F ht⟩) hS2.2.2 hd hlocks
              · cases ho
            · cases ho
          · split at ho
            · cases ho
              simp only [am_chk, Bool.and_eq_true, Nat.beq_eq] at hk
              obtain ⟨-, rfl⟩ := hk
              obtain rfl : cells = h'.length - h.length := by omega
              obtain rfl : slots = am_sl h' - am_sl h := by omega
              exact W.lret B.exec B.bytes hrt (fun t ht _ => ⟨rfl, by rw [ht]; exact hP2, hS2.F ht⟩) hS2.2.2 hd hlocks
            · cases ho
          all_goals (exfalso; revert ho; (try rw [cond_eq_ite]); (repeat' split) <;> intro ho <;> cases ho)) n 0 (am_init as nL) [] h he
      rw [ha, lg_entry_eq]
      rw [ha] at K
      exact K _ _ _ _ _ (am_entry (Nat.le_of_ble_eq_true hle)) hP va_S.rf (by omega) (by omega)
    · cases he
