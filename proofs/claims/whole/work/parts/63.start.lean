/-! THE CLAIM OUT OF ONE WALK OF THE LAW'S BODY. Your part is whole_start (and what it stands on); all else here is the same for every law, but numbers. -/
def R_law : String := "ItchParishLaw"
def lw_P (b : Addr) (xs : List Int32) (args : Array Value) (s : State) : Prop := args = #[.ref b] ∧ s.IntsAt b xs ∧ xs.length ≤ 3072 ∧ (Jvm.Cond.and given_1 narrow_1).before args s = true
def lw_Q (_ : Array Value) (s : State) (o : Outcome) (t : State) : Prop := o = .returned (some (.int 1)) ∧ Framed s o t [] 600000 7302249
def lw_Z (below : List Frame) (a : Array Value) (s : State) : State → Prop := fun t => ∃ o, t.status = .running ∧ Ended t below o ∧ lw_Q a s o t
/-- the law's own end, with 1 on the stack, nothing written that was there before, its room as the claim has it -/
theorem lw_ret {p : Program} {l : Launch} {e : Env} {s : State} {m : MethodId} {below : List Frame} {meth : Method} {c : Code} {b : Nat} (hx : p.tables.exec = Jvm.exec) (hb : c.code = code) (hr : meth.sig.returnType = ret) (hlocks : meth.locks = false) {pc : Nat} {H : Heap} {ls : Array Slot} (hdg : decode code pc = .ok (.ireturn, 1)) : W p l e room_1 s m #[Value.ref b] below meth c H [] 600000 7302249 (lw_Z below #[Value.ref b] s) (F0 m pc ls [.int 1]) := by
  intro T hT X
  obtain ⟨fs, hret, hrun, hended, hW, hframe⟩ := X.leave (v := some (.int 1)) (hlocks := hlocks) (fun h => by rw [hr] at h; cases h)
  have hmeth' : T.vm.method? m = some meth := X.method'
  refine ⟨T.setFrames fs, ?_, .returned (some (.int 1)), hrun, hended, rfl, ⟨_, rfl⟩, hW, hframe⟩
  jvm_step X.here [X.here.top, hx, hb, hdg, hmeth', hr, ret, narrow_b1]
  (try refine ⟨rfl, ?_⟩); (try refine ⟨rfl, ?_⟩)
  first | (intro acts; rw [hret _ acts rfl rfl rfl]) | rw [hret _ _ rfl rfl rfl]
  exact Steps.refl _
/-- what holds at the law's entry: the machine, the code, the tables' words (any of lw_tbl by 'hts w (by decide +kernel)'), the script of L ints xs at the cell b, what the Statement gives of the start (any of its parts by flat_of_before) -/
def lw_At (p : Program) (s : State) (m : MethodId) (meth : Method) (c : Code) (b L : Nat) (xs : Nat → Int32) : Prop :=
  p.tables.exec = Jvm.exec ∧ c.code = code ∧ meth.sig.returnType = ret ∧ c.maxLocals = 4 ∧ s.vm.findClass R_law = some m.cls ∧ (∀ w ∈ lw_tbl, w.before #[Value.ref b] s = true) ∧ va_X b L xs s s.heap ∧ b < s.heap.size ∧ meth.locks = false ∧ (Jvm.Cond.and given_1 narrow_1).before #[Value.ref b] s = true
/-! what is left to show, of the small machine alone: on every script its run of the law ends with 1 -/
def am_AML : Prop := ∀ (L : Nat) (xs : Nat → Int32), L ≤ 3072 → ∃ (n : Nat) (h' : am_H), am_ex (am_ho L xs) (am_D (am_ho L xs) am_m 1000) (some .boolean) k_L_law n 0 [.ref 2000000, am_U, am_U, am_U] [] [] = some (some (.int 1), h') ∧ h'.length ≤ 600000 ∧ am_sl h' ≤ 7302249
theorem ws_str : ∀ w ∈ ([Cond.exactly (.string RX8 45) "java/lang/String", Cond.eq (.field (.string RX8 45) "java/lang/String" "coder" "B") (.int 0), Cond.arrayOf (.field (.string RX8 45) "java/lang/String" "value" "[B") .byte, Cond.eq (.length (.field (.string RX8 45) "java/lang/String" "value" "[B")) (.int (Int32.ofNat 118)), Cond.eq (.static RJ0 "COMPACT_STRINGS" "Z") (.int 1), Cond.isRef (.static RJ3 "SIOOBE_FORMATTER" "Ljava/util/function/BiFunction;")] : List Cond), w ∈ flatC (Jvm.Cond.and given_1 narrow_1) := by decide +kernel
theorem ws_el : ∀ j, j < 118 → Cond.eq (.elem (.field (.string RX8 45) "java/lang/String" "value" "[B") (.int (Int32.ofNat j))) (.int (am_wordsL.getD j 0)) ∈ flatC (Jvm.Cond.and given_1 narrow_1) := by decide +kernel
theorem ws_tbl : ∀ w ∈ ([Cond.laysStatic RJ0 "COMPACT_STRINGS" "Z", Cond.initialized RJ0, Cond.laysStatic RJ3 "SIOOBE_FORMATTER" "Ljava/util/function/BiFunction;", Cond.initialized RJ3, Cond.arrayOver (.object RX4), Cond.arrayOver (.object RX5), Cond.stringRef RX8 45 am_text, Cond.arrayClass .int, Cond.arrayClass .long, Cond.arrayClass .byte] : List Cond), w ∈ lw_tbl := by decide +kernel
theorem ws_mn : ∀ r ∈ am_mn, (am_mnW r).onTables = true := fun r _ => rfl
theorem ws_prim {s : State} {args : Array Value} {ty : FieldType} (h : (Cond.arrayClass ty).before args s = true) (hp : ∀ C, ty ≠ .object C) : ∃ cA, ArrOfT s cA ty ∧ va_RA s cA ty := by
  obtain ⟨cA, kA, comp, h1, h2, h3⟩ := Cond.arrayClass_spec h
  refine ⟨cA, fun n z => ⟨fun k h => (by cases h), kA, h2, comp, h3⟩, ?_⟩
  cases ty <;> first | exact h1 | exact absurd rfl (hp _)
theorem ws_over {s : State} {args : Array Value} {C : String} (h : (Cond.arrayOver (.object C)).before args s = true) : ∃ cA, ArrOfT s cA (.object C) ∧ va_RA s cA (.object C) := by
  obtain ⟨comp, cA, kA, h1, -, h2, h3, h4⟩ := Cond.arrayOver_spec h
  exact ⟨cA, fun n z => ⟨fun k h => (by cases h), kA, h2, comp, h3⟩, kA, comp, h2, h3, h1, h4⟩
set_option maxHeartbeats 4000000 in
theorem ws_go (hok : ∀ m, m < 386 → am_okm m = true) (hokL : ∀ x ∈ k_L_law, am_chk 13 false code x = true) (hA0 : am_AML) {p : Program} {e : Env} {s : State} {m : MethodId} {below : List Frame} {meth : Method} {c : Code} (l : Launch) {b L : Nat} {xs : Nat → Int32} (hL : L ≤ 3072) (C0 : lw_At p s m meth c b L xs) : W p l e room_1 s m #[Value.ref b] below meth c s.heap [] 0 0 (lw_Z below #[Value.ref b] s) (entryFrame m ([Value.ref b] : List Value).toArray 4) := by
  obtain ⟨hx, hb, hr, hml, hown, hts, hX, hbl, hlocks, hgv⟩ := id C0
  have hs := flat_of_before _ hgv
  have hT : ∀ w ∈ am_TT, w.before #[Value.ref b] s = true := fun w hw => hts w (am_tt_mem hw).1
  have hA : ∀ a : Nat, a < s.heap.size → ¬ am_Ar s.heap.size a := fun a h z => by unfold am_Ar at z; omega
  have hw6 := fun w hw => hs w (ws_str w hw)
  have hwt := fun w hw => hts w (ws_tbl w hw)
  obtain ⟨adK, adV, hE, hEv⟩ := vk_Sof (args := #[Value.ref b]) (s := s) (N := 1) (tm := fun _ => .string RX8 45) (len := [118]) (byt := [am_wordsL]) (A := am_Ar s.heap.size)
    (fun i hi => by obtain rfl : i = 0 := by omega
                    decide)
    (fun i _ => hw6 _ (by simp)) (fun i _ => hw6 _ (by simp)) (fun i _ => hw6 _ (by simp))
    (fun i hi => by obtain rfl : i = 0 := by omega
                    exact hw6 _ (by simp))
    (fun i hi j hj => by obtain rfl : i = 0 := by omega
                         exact hs _ (ws_el j hj))
    (fun i j hi hj hij => absurd (by omega) hij) hA
  have hZ : va_Z RJ0 "COMPACT_STRINGS" "Z" (.int 1) (am_Ar s.heap.size) s s.heap := va_Zof (hwt _ (by simp)) (hwt _ (by simp)) (va_eqi (hw6 _ (by simp))) hA
  have hZq : va_Zq RJ3 "SIOOBE_FORMATTER" "Ljava/util/function/BiFunction;" (am_Ar s.heap.size) s s.heap := va_Zqof (hwt _ (by simp)) (hwt _ (by simp)) (hw6 _ (by simp)) hA
  obtain ⟨sp, hs1, hs2, hs3⟩ : ∃ sp : Nat → Nat, sp 2000000 = b ∧ sp 1000000 = adK 0 ∧ sp 1000001 = adV 0 := ⟨fun i => if i = 2000000 then b else if i = 1000000 then adK 0 else adV 0, rfl, rfl, rfl⟩
  have hE' : vk_S 1 [118] [am_wordsL] (fun _ => sp 1000000) (fun _ => sp 1000001) (am_Ar s.heap.size) s s.heap := by
    refine ⟨fun i hi => ?_, fun i j hi hj _ => by omega⟩
    obtain rfl : i = 0 := by omega
    show _ ∧ _
    rw [hs2, hs3]
    exact hE.1 0 hi
  have hR45 : vk_R RX8 45 am_text (sp 1000000) s := by
    rw [hs2]
    exact vk_R.of (hwt _ (by simp)) (hEv 0 (by omega))
  have hAO4 : va_AO RX4 s := va_AO.of (hwt (.arrayOver (.object RX4)) (by simp))
  have hAO5 : va_AO RX5 s := va_AO.of (hwt (.arrayOver (.object RX5)) (by simp))
  obtain ⟨t0, ht0⟩ := ws_prim (ty := .int) (hwt _ (by simp)) (fun C h => by cases h)
  obtain ⟨t1, ht1⟩ := ws_prim (ty := .long) (hwt _ (by simp)) (fun C h => by cases h)
  obtain ⟨t2, ht2⟩ := ws_prim (ty := .byte) (hwt _ (by simp)) (fun C h => by cases h)
  obtain ⟨t3, ht3⟩ := ws_over (hwt (.arrayOver (.object RX4)) (by simp))
  obtain ⟨t4, ht4⟩ := ws_over (hwt (.arrayOver (.object RX5)) (by simp))
  have hKn : ∀ ci : Nat, ∃ q : ClassId × (Nat → Nat), ci < 11 → u_Kn s (am_cl ci) (am_T ci) (am_N ci) q.1 q.2 := fun ci => by
    by_cases h : ci < 11
    · obtain ⟨a1, a2, a3⟩ := u_known (n := am_N ci) hT (am_cls_in ci h) (hts _ (am_inst_in ci (List.mem_range.mpr h)))
      exact ⟨(a1, a2), fun _ => a3⟩
    · exact ⟨(0, fun _ => 0), fun z => absurd z h⟩
  obtain ⟨DD, hDD⟩ := Classical.axiomOfChoice hKn
  have hK : va_K (fun k => (DD k).1, fun k => (DD k).2) vwCl (am_tys (fun k => [t0, t1, t2, t3, t4].getD k t4)) s := by
    refine ⟨fun k q hq => ?_, fun k q hq => ?_⟩
    · have h1 : k < 11 := (List.getElem?_eq_some_iff.mp hq).1
      have h2 := hDD k h1
      have h3 : q = (am_cl k, am_T k, am_N k) := by
        unfold am_cl am_T am_N
        rw [hq]
      rw [h3]
      exact h2
    · match k, hq with
      | 0, hq => cases hq; exact ht0
      | 1, hq => cases hq; exact ht1
      | 2, hq => cases hq; exact ht2
      | 3, hq => cases hq; exact ht3
      | 4, hq => cases hq; exact ht4
      | k + 5, hq => simp [am_tys] at hq
  have hXs : va_X (sp 2000000) L xs s s.heap := by rw [hs1]; exact hX
  have hsb : sp 2000000 < s.heap.size := by rw [hs1]; exact hbl
  have F : am_F p room_1 s m #[Value.ref b] meth c (fun k => (DD k).1, fun k => (DD k).2) (fun k => [t0, t1, t2, t3, t4].getD k t4) s.heap.size sp L xs code 4 13 0 false :=
    ⟨hx, hb, hml, hown, hT, hK, rfl, (fun z => by cases z), ⟨Nat.le_of_ble_eq_true rfl, Nat.le_of_ble_eq_true rfl⟩, hXs, hsb, hAO4, hAO5, (fun z => by cases z), fun t ht => hT _ (am_ac t ht)⟩
  have G : am_G (fun k => (DD k).1, fun k => (DD k).2) (fun k => [t0, t1, t2, t3, t4].getD k t4) s.heap.size sp L xs s :=
    ⟨hK, hXs, hAO4, hAO5, hR45, hE', hsb, fun r hr => va_Nw.of (ws_mn r hr) (hts _ (am_mn_in r hr)), hZ, hZq⟩
  obtain ⟨n, h', hex, hln, hsl⟩ := hA0 L xs hL
  have K := am_exW (l := l) (e := e) (below := below) (Q := lw_Z below #[Value.ref b] s) (s0 := 0) F G (d := 1000) ⟨Nat.le_of_ble_eq_true rfl, Nat.le_of_ble_eq_true rfl⟩ hok (fun m hm => am_met hok am_str 1000 m hm) am_str hokL (rt := some .boolean) (v := some (.int 1)) (h' := h') (by show h'.length ≤ 600000 + 0; omega) (by show am_sl h' ≤ 7302249 + 0; omega) (by
    intro pc ls st h2 ho LS H locs cells slots hl hP2 hS2 hc hs'
    unfold am_one at ho
    cases hat : am_at k_L_law pc with
    | none => rw [hat] at ho; cases ho
    | some r =>
      obtain ⟨i, n, p', q, v2⟩ := r
      have hk := hokL _ (am_at_mem hat)
      have hd := am_chk_d hk
      rw [hat] at ho
      dsimp only at ho
      split at ho
      · cases ho
      · split at ho
        · rename_i hn
          cases ho
          simp only [am_chk, Bool.and_eq_true, Nat.beq_eq] at hk
          obtain ⟨-, rfl⟩ := hk
          refine va_forget (fun q hq => hS2.2.2 q hq) (W.widen (k := 600000) (n := 7302249) (by omega) (by omega) ?_)
          exact lw_ret hx hb hr hlocks hd
        · cases ho
      · cases ho
      all_goals (exfalso; revert ho; (try rw [cond_eq_ite]); (repeat' split) <;> intro ho <;> cases ho)) n 0 [.ref 2000000, am_U, am_U, am_U] [] [] hex
  have hl := lv_entry ([.ref b]) (n := 4) (Nat.le_of_ble_eq_true rfl)
  rw [lg_entry_eq]
  have hLc : am_Lc (am_ad s.heap.size sp) ((lg_sl ([.ref b]) ++ List.replicate (4 - (lg_sl ([.ref b])).length) Slot.unset).toArray) 4 [.ref 2000000, am_U, am_U, am_U] := by
    have h1 := am_entry (ad := am_ad s.heap.size sp) (as := [.ref 2000000]) (n := 4) (Nat.le_of_ble_eq_true rfl)
    have h2 : ([.ref 2000000] : List Value).map (am_ev (am_ad s.heap.size sp)) = [.ref b] := by
      show [Value.ref (am_ad s.heap.size sp 2000000)] = [.ref b]
      rw [show am_ad s.heap.size sp 2000000 = b from (if_neg (by omega)).trans hs1]
    rw [h2] at h1
    exact h1
  exact K _ s.heap [] 0 0 hLc ⟨by show 0 ≤ 1000000; omega, fun k q h => by simp [am_eh] at h⟩ va_S.rf rfl rfl
