/-! calls and ends: each method's contract by induction on how deep calls go -/
section AMC
variable {p : Program} {l : Launch} {e : Env} {R : Room} {s : State} {m : MethodId} {args : Array Value} {below : List Frame} {meth : Method} {c : Code} {Q : State → Prop} {D : va_G} {tA : Nat → ClassId} {base : Nat} {sp : Nat → Nat} {L : Nat} {xs : Nat → Int32} {cc : ByteArray} {nL c0 s0 o : Nat} {fin : Bool}
theorem am_run {H : Heap} {locs : List Loc} {cells slots mc ms pc : Nat} {LS : Array Slot} {st rest : List Value} {Qa : State → Outcome → State → Prop} {free : Addr → Prop} (hr : va_Run p l e R s m args below meth c H locs cells slots mc ms (F0 m pc LS st) rest Qa free)
    (kk : ∀ (v : Option Value) (st₀ t : State) (H1 : Heap) (L1 : List Loc), st₀.heap = H → Qa st₀ (.returned v) t → t.heap = H1 → (∀ q ∈ L1, free q.base) → W p l e R s m args below meth c H1 (locs ++ L1) (cells + mc) (slots + ms) Q (F0 m (pc + 3) LS (v.toList ++ rest))) : W p l e R s m args below meth c H locs cells slots Q (F0 m pc LS st) := by
  intro T hT X
  obtain ⟨v, st₀, t, T', L1, h0, X', hL, e1, e2, hq, st1⟩ := hr T hT X
  obtain ⟨t2, a1, b1⟩ := kk v st₀ t T'.heap L1 h0 hq e1.symm hL T' rfl X'
  exact ⟨t2, st1 t2 a1, b1⟩
/-- what every frame's start has, beside its cells -/
def am_G (D : va_G) (tA : Nat → ClassId) (base : Nat) (sp : Nat → Nat) (L : Nat) (xs : Nat → Int32) (U : State) : Prop :=
  va_K D vwCl (am_tys tA) U ∧ va_X (sp 2000000) L xs U U.heap ∧ va_AO RX4 U ∧ va_AO RX5 U ∧ vk_R RX8 45 am_text (sp 1000000) U ∧ vk_S 1 [118] [am_wordsL] (fun _ => sp 1000000) (fun _ => sp 1000001) (am_Ar base) U U.heap ∧ sp 2000000 < base ∧ (∀ r ∈ am_mn, va_Nw (am_mnW r) U) ∧ va_Z RJ0 "COMPACT_STRINGS" "Z" (.int 1) (am_Ar base) U U.heap ∧ va_Zq RJ3 "SIOOBE_FORMATTER" "Ljava/util/function/BiFunction;" (am_Ar base) U U.heap
def am_Pc (D : va_G) (tA : Nat → ClassId) (base : Nat) (sp : Nat → Nat) (L : Nat) (xs : Nat → Int32) (as : List Value) (h : am_H) : Array Value → State → Prop := fun a U =>
  a = (as.map (am_ev (am_ad base sp))).toArray ∧ U.heap.size = base + h.length ∧ am_P D tA base sp h U.heap ∧ am_G D tA base sp L xs U
def am_Qc (D : va_G) (tA : Nat → ClassId) (base : Nat) (sp : Nat → Nat) (v : Option Value) (h : am_H) : Array Value → State → Outcome → State → Prop := fun _ st oc t =>
  oc = .returned (v.map (am_ev (am_ad base sp))) ∧ am_P D tA base sp h t.heap ∧ va_F (am_Ar base) st t
def am_rm (d mc ms : Nat) : Room := { frames := d + 8, cells := mc, slots := ms, locals := 64 * (d + 8) }
theorem am_blind {as : List Value} {h : am_H} : FrameBlind (am_Pc D tA base sp L xs as h) := by
  intro a U g mk hp
  obtain ⟨h1, h2, h3, g1, g2, g3, g4, g5, g6, g7, g8, g9, g10⟩ := hp
  exact ⟨h1, h2, h3, va_K.moved (u := U) (U := U.calling g mk a) (Vm.Alike.refl U.vm) g1, va_X.moved (u := U) (U := U.calling g mk a) (Vm.Alike.refl U.vm) g2, va_AO.moved (u := U) (U := U.calling g mk a) (Vm.Alike.refl U.vm) g3, va_AO.moved (u := U) (U := U.calling g mk a) (Vm.Alike.refl U.vm) g4, vk_R.same (u := U) (U := U.calling g mk a) rfl g5, vk_S.moved (u := U) (U := U.calling g mk a) (Vm.Alike.refl U.vm) g6, g7, fun r hr => va_Nw.same (U := U.calling g mk a) rfl rfl (g8 r hr), va_Z.moved (u := U) (U := U.calling g mk a) (Vm.Alike.refl U.vm) g9, va_Zq.moved (u := U) (U := U.calling g mk a) (Vm.Alike.refl U.vm) g10⟩
/-- a frame's facts hold at the start of what it calls -/
theorem am_G.call (hG : am_G D tA base sp L xs s) {H : Heap} {locs : List Loc} (hS : va_S (am_Ar base) s.heap H locs) (hbs : base ≤ s.heap.size) {U : State} (hU : U.heap = H) (hW : s.WarmedH U.vm) : am_G D tA base sp L xs U := by
  obtain ⟨g1, g2, g3, g4, g5, g6, g7, g8, g9, g10⟩ := hG
  refine ⟨va_K.moved hW.alike g1, ?_, va_AO.moved hW.alike g3, va_AO.moved hW.alike g4, vk_R.warm hW g5, ?_, g7, fun r hr => va_Nw.warmM hW (g8 r hr), (va_Z.moved hW.alike g9).kept fun a h1 h2 => by rw [hU]; exact hS.2.1 a h1 h2, (va_Zq.moved hW.alike g10).kept fun a h1 h2 => by rw [hU]; exact hS.2.1 a h1 h2⟩
  · refine (va_X.moved hW.alike g2).kept ?_
    rw [hU]
    exact hS.2.1 _ (by omega) (fun z => by unfold am_Ar at z; omega)
  · refine (vk_S.moved hW.alike g6).kept fun a h1 h2 => ?_
    rw [hU]
    exact hS.2.1 a h1 h2
theorem am_size {H : Heap} {locs : List Loc} {cells sl : Nat} {h : am_H} {T : State} (X : Stand p l e R s m args below meth c T locs cells sl) (hT : T.heap = H) (hb : s.heap.size = base + c0) (hc : cells + c0 = h.length) (hP : am_P D tA base sp h H) (hS : va_S (am_Ar base) s.heap H locs) : H.size = base + h.length := by
  have h2 : H.size ≤ s.heap.size + cells := by
    have := X.same.2.2.1
    rw [← hT]
    exact this
  have h3 := hS.1
  rcases Nat.eq_zero_or_pos h.length with h0 | h0
  · omega
  · obtain ⟨y, hy⟩ : ∃ y, h[h.length - 1]? = some y := ⟨_, List.getElem?_eq_getElem (by omega)⟩
    have h5 := (hP.2 _ _ (am_eh_get hy)).lt
    have h6 : am_ad base sp (h.length - 1) < H.size := h5
    have h7 := hP.1
    rw [am_ad, if_pos (by omega)] at h6
    omega
end AMC
def am_mlk (r : Nat × Nat × Nat × Nat × Nat) : Bool := Nat.blt r.2.2.2.1 386 && decide ((am_y r.2.2.2.1).cls ≠ "java/lang/invoke/MethodHandle" ∧ (am_y r.2.2.2.1).cls ≠ "java/lang/invoke/VarHandle") && decide ((parseMethodDescriptor (am_y r.2.2.2.1).desc).map (fun d => d.parameters.length) = some r.2.2.2.2) && (match r.2.2.1 with
  | 0 => am_cv.contains r.2.2.2.1 && am_ci.contains r.2.2.2.1
  | 1 => am_cs.contains r.2.2.2.1
  | _ => am_ci.contains r.2.2.2.1 && decide ((am_y r.2.2.2.1).name = "<init>"))
theorem am_ml_ok : ∀ r ∈ am_ml, am_mlk r = true := List.all_eq_true.mp (by decide +kernel)
theorem am_mn_ok : ∀ r ∈ am_mn, am_mlk r = true := List.all_eq_true.mp (by decide +kernel)
theorem am_cm_all : ∀ m, m < 386 → m ∈ am_cm := by
  intro m hm
  have h : am_cm = List.range 386 := by decide +kernel
  rw [h]
  exact List.mem_range.mpr hm
/-- method m's own word of the tables -/
def am_cw (m : Nat) : Cond := match am_cm_p[m]? with | some k => (match lw_tbl[k]? with | some w => w | none => .initialized "") | none => .initialized ""
def am_wm (m : Nat) : List Cond := am_cw m :: am_TT
theorem am_tt_mem {w : Cond} (h : w ∈ am_TT) : w ∈ lw_tbl ∧ goodWord w = true := List.mem_filter.mp h
theorem am_okm_of {m : Nat} (h : am_okm m = true) : ∃ (y : MethodName) (nL : Nat) (rt : Option FieldType) (code : List am_I) (o : Nat) (b : ByteArray), am_m m = some (y, nL, rt, code, o) ∧ am_cw m = .code y b nL rt ∧ am_cw m ∈ am_TT ∧ plainName y.cls = true ∧ am_own o = y.cls ∧ nL ≤ 20 ∧ ∀ x ∈ code, am_chk o (decide (y.name = "<init>")) b x = true := by
  unfold am_okm at h
  cases h1 : am_m m with
  | none => rw [h1] at h; cases h
  | some r =>
    obtain ⟨y, nL, rt, code, o⟩ := r
    rw [h1] at h
    cases h2 : am_cm_p[m]? with
    | none => rw [h2] at h; cases h
    | some k =>
      rw [h2] at h
      dsimp only at h
      cases h3 : lw_tbl[k]? with
      | none => rw [h3] at h; cases h
      | some w =>
        rw [h3] at h
        have hw : am_cw m = w := by unfold am_cw; rw [h2]; dsimp only; rw [h3]
        cases w <;> try (cases h; done)
        rename_i y' b n' rt'
        simp only [Bool.and_eq_true, decide_eq_true_eq, Nat.beq_eq, Nat.ble_eq] at h
        obtain ⟨⟨⟨⟨⟨⟨e1, e2⟩, e3⟩, e4⟩, e5⟩, e6⟩, e7⟩ := h
        subst e1 e2 e3
        refine ⟨_, _, _, _, _, b, rfl, hw, ?_, e4, e5, e6, fun x hx => List.all_eq_true.mp e7 x hx⟩
        rw [hw]
        exact am_tt (List.mem_of_getElem? h3) rfl
theorem am_y_of {m : Nat} {y : MethodName} {nL : Nat} {rt : Option FieldType} {code : List am_I} {o : Nat} (h : am_m m = some (y, nL, rt, code, o)) : am_y m = y := by unfold am_y; rw [h]
theorem am_oc_cl {c : Nat} (hc : c < 11) : am_own (am_oc c) = am_cl c := am_oc_ok c hc
theorem am_goodW {m : Nat} (hm : am_cw m ∈ am_TT) {ws : List Cond} (hw : ∀ w ∈ ws, w ∈ am_TT) : GoodIn am_TT (ws ++ am_wm m) := by
  intro w h
  have h1 : w ∈ am_TT := by
    rcases List.mem_append.mp h with h | h
    · exact hw w h
    · rcases List.mem_cons.mp h with rfl | h
      · exact hm
      · exact h
  exact ⟨h1, good_of_word (am_tt_mem h1).2⟩
/-- what is to be shown of method m at depth d -/
def am_MET (l : Launch) (D : va_G) (tA : Nat → ClassId) (base : Nat) (sp : Nat → Nat) (L : Nat) (xs : Nat → Int32) (d m : Nat) : Prop :=
  ∀ (as : List Value) (h : am_H) (v : Option Value) (h' : am_H), am_D (am_ho L xs) am_m d m as h = some (v, h') → Met l (am_y m) (am_wm m) (am_rm d (h'.length - h.length) (am_sl h' - am_sl h)) (am_Pc D tA base sp L xs as h) (am_Qc D tA base sp v h') (h'.length - h.length) (am_sl h' - am_sl h) (am_Ar base)
theorem am_rt_all : (List.range 386).all (fun m => match am_m m with | some r => (! decide (r.1.name = "<init>")) || decide (r.2.2.1 = none) | none => true) = true := by decide +kernel
theorem am_rt_init {m : Nat} {y : MethodName} {nL : Nat} {rt : Option FieldType} {code : List am_I} {o : Nat} (hm : m < 386) (g : am_m m = some (y, nL, rt, code, o)) (hy : y.name = "<init>") : rt = none := by
  have h := List.all_eq_true.mp am_rt_all m (List.mem_range.mpr hm)
  rw [g] at h
  simpa [hy] using h
theorem am_ho16 {L : Nat} {xs : Nat → Int32} {p a : Nat} {h : am_H} {y : MethodName} {nL : Nat} {rt : Option FieldType} {code : List am_I} {o : Nat} {y1 : List Value × am_H} (g : am_m p = some (y, nL, rt, code, o)) (e : am_ho L xs 16 p 0 [.ref a] h = some y1) : ∃ (c : Nat) (fs : List Value), h[a]? = some (.inr (c, fs)) ∧ am_oc c = o := by
  have e2 : (match am_m p, h[a]? with | some (_, _, _, _, o), some (.inr (c, _)) => (bif Nat.beq (am_oc c) o then some (([] : List Value), h) else none) | _, _ => none) = some y1 := e
  rw [g] at e2
  cases hca : h[a]? with
  | none => rw [hca] at e2; cases e2
  | some x =>
    rw [hca] at e2
    cases x with
    | inl x => cases e2
    | inr x =>
      obtain ⟨c, fs⟩ := x
      have e3 : (bif Nat.beq (am_oc c) o then some (([] : List Value), h) else none) = some y1 := e2
      rw [cond_eq_ite] at e3
      split at e3
      · rename_i hb
        exact ⟨c, fs, rfl, Nat.eq_of_beq_eq_true hb⟩
      · cases e3
section AMC2
variable {p : Program} {l : Launch} {e : Env} {R : Room} {s : State} {m : MethodId} {args : Array Value} {below : List Frame} {meth : Method} {c : Code} {Q : State → Prop} {D : va_G} {tA : Nat → ClassId} {base : Nat} {sp : Nat → Nat} {L : Nat} {xs : Nat → Int32} {cc : ByteArray} {nL c0 s0 o : Nat} {fin : Bool}
theorem am_back {H : Heap} {locs L1 : List Loc} {H1 : Heap} {st₀ t : State} (hS : va_S (am_Ar base) s.heap H locs) (h0 : st₀.heap = H) (hF : va_F (am_Ar base) st₀ t) (ht : t.heap = H1) (hL : ∀ q ∈ L1, am_Ar base q.base) : va_S (am_Ar base) s.heap H1 (locs ++ L1) := by
  obtain ⟨f1, f2⟩ := hF
  rw [h0, ht] at f1 f2
  refine ⟨Nat.le_trans hS.1 f1, fun q h1 h2 => (f2 q (Nat.lt_of_lt_of_le h1 hS.1) h2).trans (hS.2.1 q h1 h2), fun q hq => ?_⟩
  rcases List.mem_append.mp hq with h | h
  · exact hS.2.2 q h
  · exact hL q h
theorem am_ev_sz {ad : Nat → Nat} (st : List Value) : ((st.map (am_ev ad)).map fun v => v.category).sum = am_sz st := by
  unfold am_sz
  congr 1
  rw [List.map_map]
  apply List.map_congr_left
  intro v _
  exact am_ev_cat v
/-- behind a call: the caller goes on with what came back -/
theorem am_goes {d m' : Nat} {h h1 : am_H} {as : List Value} {w : Option Value} {H H1 : Heap} {locs L1 : List Loc} {cells slots pc : Nat} {LS : Array Slot} {ls r : List Value} {st₀ t : State} {a : Array Value} {v1 : Option Value} (gr : am_gr h h1)
    (hl : am_Lc (am_ad base sp) LS nL ls) (hS : va_S (am_Ar base) s.heap H locs) (hc : cells + c0 = h.length) (hs : slots + s0 = am_sl h) (h0 : st₀.heap = H) (hq : am_Qc D tA base sp w h1 a st₀ (.returned v1) t) (ht : t.heap = H1) (hL : ∀ q ∈ L1, am_Ar base q.base)
    (kk : am_W p l e R s m args below meth c Q D tA base sp nL c0 s0 (pc + 3) ls (w.toList ++ r) h1) : W p l e R s m args below meth c H1 (locs ++ L1) (cells + (h1.length - h.length)) (slots + (am_sl h1 - am_sl h)) Q (F0 m (pc + 3) LS (v1.toList ++ r.map (am_ev (am_ad base sp)))) := by
  obtain ⟨hv, hP1, hF⟩ := hq
  have hv := Outcome.returned.inj hv
  subst hv
  have hz := kk LS H1 (locs ++ L1) (cells + (h1.length - h.length)) (slots + (am_sl h1 - am_sl h)) hl (ht ▸ hP1) (am_back hS h0 hF ht hL) (by have := gr.1; omega) (by have := gr.2; omega)
  cases w with
  | none => exact hz
  | some x => exact hz
theorem am_split_st {ad : Nat → Nat} {st r : List Value} {q a : Nat} (h : st.drop q = .ref a :: r) : st.map (am_ev ad) = ((st.take q).reverse.map (am_ev ad)).reverse ++ .ref (ad a) :: r.map (am_ev ad) ∧ ((st.take q).reverse.map (am_ev ad)).length = q := by
  have hl : q < st.length := by
    rcases Nat.lt_or_ge q st.length with h1 | h1
    · exact h1
    · rw [List.drop_eq_nil_of_le h1] at h
      cases h
  constructor
  · rw [← List.map_reverse, List.reverse_reverse]
    rw [show (Value.ref (ad a) :: r.map (am_ev ad)) = (Value.ref a :: r).map (am_ev ad) from rfl, ← h, ← List.map_append, List.take_append_drop]
  · simp; omega
set_option maxHeartbeats 4000000 in
theorem am_callW (F : am_F p R s m args meth c D tA base sp L xs cc nL o c0 fin) (G : am_G D tA base sp L xs s) {d : Nat} (hRd : d + 9 ≤ R.frames ∧ 64 * (d + 9) ≤ R.locals) (hok : ∀ m, m < 386 → am_okm m = true) (IH : ∀ m, m < 386 → am_MET l D tA base sp L xs d m)
    {x n p' q : Nat} {v : Value} {pc : Nat} {ls st : List Value} {h h1 : am_H} {w : Option Value} {a : Nat} {r : List Value} (hp : Nat.ble 1000 p' = false) (hd : decode cc pc = .ok (.invokevirtual x, n)) (hk : am_chk o fin cc (pc, .invokevirtual x, n, p', q, v) = true)
    (hst : st.drop q = .ref a :: r) (hr : am_sz r ≤ 8) (ho : ∃ y, am_ho L xs 16 p' 0 [.ref a] h = some y) (hC : am_D (am_ho L xs) am_m d p' (.ref a :: (st.take q).reverse) h = some (w, h1)) (hRc : h1.length ≤ R.cells + c0) (hRs : am_sl h1 ≤ R.slots + s0)
    (kk : am_W p l e R s m args below meth c Q D tA base sp nL c0 s0 (pc + n) ls (w.toList ++ r) h1) : am_W p l e R s m args below meth c Q D tA base sp nL c0 s0 pc ls st h := by
  intro LS H locs cells slots hl hP hS hc hs T hT X
  obtain ⟨hx, hb, hml, hown, hts, hK, hbs, hfin, hR, hX, hXb, hAO4, hAO5, hstr, hAC⟩ := F
  have hsz := am_size X hT hbs hc hP hS
  simp only [am_chk, Bool.and_eq_true, decide_eq_true_eq, Nat.beq_eq, hp, cond_false] at hk
  obtain ⟨-, rfl, hm0⟩ := hk
  have hm := List.elem_iff.mp hm0
  have h2 := am_ml_ok _ hm
  simp only [am_mlk, Bool.and_eq_true, decide_eq_true_eq] at h2
  obtain ⟨⟨⟨hlt, hmh⟩, hnp⟩, hcv, hci⟩ := h2
  have hlt : p' < 386 := Nat.blt_eq.mp hlt
  obtain ⟨y, nL', rt, code, o', b, g1, g2, g3, g4, g5, g6, g7⟩ := am_okm_of (hok p' hlt)
  have hy := am_y_of g1
  have gr := am_D_gr d p' _ _ _ _ hC
  obtain ⟨y1, ho⟩ := ho
  obtain ⟨c1, fs, hca, hoc⟩ := am_ho16 g1 ho
  have hc1 : c1 < 11 := by
    obtain ⟨r1, hr1, -⟩ := hP.2 _ _ (am_eh_get hca)
    exact (List.getElem?_eq_some_iff.mp hr1).1
  have hcl : am_cl c1 = (am_y p').cls := by rw [hy, ← g5, ← hoc, am_oc_cl hc1]
  obtain ⟨hst1, hst2⟩ := am_split_st (ad := am_ad base sp) hst
  have hG2 : GoodIn am_TT (wsV (am_own o) x (am_y p').cls (am_y p') (am_wm p')) := am_goodW g3 (fun z hz => by
    rcases List.mem_cons.mp hz with rfl | hz
    · exact am_tt (am_ml_in _ hm) rfl
    rcases List.mem_cons.mp hz with rfl | hz
    · exact am_tt (am_ci_in _ (List.elem_iff.mp hci)) rfl
    rcases List.mem_cons.mp hz with rfl | hz
    · exact am_tt (am_cv_in _ (List.elem_iff.mp hcv)) rfl
    rcases List.mem_cons.mp hz with rfl | hz
    · exact am_tt (am_cmi_in _ (am_cm_all _ hlt)) rfl
    cases hz)
  have hre := va_recv hK hP.2 (am_cls_at _ hc1) (am_eh_get hca)
  rw [show (am_cl c1, am_T c1, am_N c1).1 = am_cl c1 from rfl, hcl] at hre
  refine am_run (va_runV (maxL := nL') (ret := rt) (bytes := b) (As := (st.take q).reverse.map (am_ev (am_ad base sp))) (rest := r.map (am_ev (am_ad base sp))) ⟨hx, hb, hml, hown, hts⟩ (IH p' hlt _ _ _ _ hC) (cwV (ws' := am_TT) q hts hG2 (by unfold am_wm; rw [g2, hy]) rfl rfl ⟨rfl, hmh.1, hmh.2, hnp⟩ ⟨hRd.1, by unfold am_rm; show 8 + (nL' + 11) + 64 * (d + 8) ≤ _; omega⟩)
    ⟨am_blind, hre, fun U hU hW => ⟨rfl, by rw [hU]; exact hsz, by rw [hU]; exact hP, G.call hS (by omega) hU hW⟩⟩ rfl hst2 hl.2.1 hst1 (by rw [am_ev_sz]; show 2 * 0 + _ ≤ 8; omega) hd ⟨by have := gr.1; omega, by have := gr.2; omega⟩)
    (fun v1 st₀ t H1 L1 h0 hq ht hL => am_goes (d := d) (m' := p') (as := []) gr hl hS hc hs h0 hq ht hL kk) T hT X
end AMC2
section AMC3
variable {p : Program} {l : Launch} {e : Env} {R : Room} {s : State} {m : MethodId} {args : Array Value} {below : List Frame} {meth : Method} {c : Code} {Q : State → Prop} {D : va_G} {tA : Nat → ClassId} {base : Nat} {sp : Nat → Nat} {L : Nat} {xs : Nat → Int32} {cc : ByteArray} {nL c0 s0 o : Nat} {fin : Bool}
set_option maxHeartbeats 4000000 in
theorem am_callS (F : am_F p R s m args meth c D tA base sp L xs cc nL o c0 fin) (G : am_G D tA base sp L xs s) {d : Nat} (hRd : d + 9 ≤ R.frames ∧ 64 * (d + 9) ≤ R.locals) (hok : ∀ m, m < 386 → am_okm m = true) (IH : ∀ m, m < 386 → am_MET l D tA base sp L xs d m)
    {x n p' q : Nat} {v : Value} {pc : Nat} {ls st : List Value} {h h1 : am_H} {w : Option Value} (hp : Nat.ble 1000 p' = false) (hd : decode cc pc = .ok (.invokestatic x, n)) (hk : am_chk o fin cc (pc, .invokestatic x, n, p', q, v) = true)
    (hst : q ≤ st.length) (hr : am_sz (st.drop q) ≤ 8) (hC : am_D (am_ho L xs) am_m d p' (st.take q).reverse h = some (w, h1)) (hRc : h1.length ≤ R.cells + c0) (hRs : am_sl h1 ≤ R.slots + s0)
    (kk : am_W p l e R s m args below meth c Q D tA base sp nL c0 s0 (pc + n) ls (w.toList ++ st.drop q) h1) : am_W p l e R s m args below meth c Q D tA base sp nL c0 s0 pc ls st h := by
  intro LS H locs cells slots hl hP hS hc hs T hT X
  obtain ⟨hx, hb, hml, hown, hts, hK, hbs, hfin, hR, hX, hXb, hAO4, hAO5, hstr, hAC⟩ := F
  have hsz := am_size X hT hbs hc hP hS
  simp only [am_chk, Bool.and_eq_true, decide_eq_true_eq, Nat.beq_eq, hp, cond_false] at hk
  obtain ⟨-, rfl, hm0⟩ := hk
  have hm := List.elem_iff.mp hm0
  have h2 := am_ml_ok _ hm
  simp only [am_mlk, Bool.and_eq_true, decide_eq_true_eq] at h2
  obtain ⟨⟨⟨hlt, hmh⟩, hnp⟩, hcs⟩ := h2
  have hlt : p' < 386 := Nat.blt_eq.mp hlt
  obtain ⟨y, nL', rt, code, o', b, g1, g2, g3, g4, g5, g6, g7⟩ := am_okm_of (hok p' hlt)
  have hy := am_y_of g1
  have gr := am_D_gr d p' _ _ _ _ hC
  have hst1 : st.map (am_ev (am_ad base sp)) = ((st.take q).reverse.map (am_ev (am_ad base sp))).reverse ++ (st.drop q).map (am_ev (am_ad base sp)) := by
    rw [← List.map_reverse, List.reverse_reverse, ← List.map_append, List.take_append_drop]
  have hst2 : ((st.take q).reverse.map (am_ev (am_ad base sp))).length = q := by simp; omega
  have hG2 : GoodIn am_TT (va_wsS (am_own o) x (am_y p') (am_wm p')) := am_goodW g3 (fun z hz => by
    rcases List.mem_cons.mp hz with rfl | hz
    · exact am_tt (am_ml_in _ hm) rfl
    rcases List.mem_cons.mp hz with rfl | hz
    · exact am_tt (am_cs_in _ (List.elem_iff.mp hcs)) rfl
    rcases List.mem_cons.mp hz with rfl | hz
    · exact am_tt (am_cmi_in _ (am_cm_all _ hlt)) rfl
    cases hz)
  refine am_run (va_runS (maxL := nL') (ret := rt) (bytes := b) (As := (st.take q).reverse.map (am_ev (am_ad base sp))) (rest := (st.drop q).map (am_ev (am_ad base sp))) ⟨hx, hb, hml, hown, hts⟩ (IH p' hlt _ _ _ _ hC) (va_cwS (ws' := am_TT) q hts hG2 (by unfold am_wm; rw [g2, hy]) rfl rfl ⟨hmh.1, hmh.2, hnp⟩ ⟨hRd.1, by unfold am_rm; show 8 + (nL' + 11) + 64 * (d + 8) ≤ _; omega⟩)
    ⟨am_blind, fun U hU hW => ⟨rfl, by rw [hU]; exact hsz, by rw [hU]; exact hP, G.call hS (by omega) hU hW⟩⟩ rfl hst2 hl.2.1 hst1 (by rw [am_ev_sz]; show 2 * 0 + _ ≤ 8; omega) hd ⟨by have := gr.1; omega, by have := gr.2; omega⟩)
    (fun v1 st₀ t H1 L1 h0 hq ht hL => am_goes (d := d) (m' := p') (as := []) gr hl hS hc hs h0 hq ht hL kk) T hT X
set_option maxHeartbeats 4000000 in
theorem am_callI (F : am_F p R s m args meth c D tA base sp L xs cc nL o c0 fin) (G : am_G D tA base sp L xs s) {d : Nat} (hRd : d + 9 ≤ R.frames ∧ 64 * (d + 9) ≤ R.locals) (hok : ∀ m, m < 386 → am_okm m = true) (IH : ∀ m, m < 386 → am_MET l D tA base sp L xs d m)
    {x n p' q : Nat} {v : Value} {pc : Nat} {ls st : List Value} {h h1 : am_H} {w : Option Value} {a : Nat} {r : List Value} (hp : Nat.ble 1000 p' = false) (hd : decode cc pc = .ok (.invokespecial x, n)) (hk : am_chk o fin cc (pc, .invokespecial x, n, p', q, v) = true)
    (hst : st.drop q = .ref a :: r) (hr : am_sz r ≤ 8) (hC : am_D (am_ho L xs) am_m d p' (.ref a :: (st.take q).reverse) h = some (w, h1)) (hRc : h1.length ≤ R.cells + c0) (hRs : am_sl h1 ≤ R.slots + s0)
    (kk : am_W p l e R s m args below meth c Q D tA base sp nL c0 s0 (pc + n) ls (w.toList ++ r) h1) : am_W p l e R s m args below meth c Q D tA base sp nL c0 s0 pc ls st h := by
  intro LS H locs cells slots hl hP hS hc hs T hT X
  obtain ⟨hx, hb, hml, hown, hts, hK, hbs, hfin, hR, hX, hXb, hAO4, hAO5, hstr, hAC⟩ := F
  have hsz := am_size X hT hbs hc hP hS
  simp only [am_chk, Bool.and_eq_true, Bool.or_eq_true, decide_eq_true_eq, Nat.beq_eq, hp, cond_false] at hk
  obtain ⟨-, rfl, hm0⟩ := hk
  have gr := am_D_gr d p' _ _ _ _ hC
  obtain ⟨hst1, hst2⟩ := am_split_st (ad := am_ad base sp) hst
  have hG0 : ∀ {b : ByteArray} {nL' : Nat} {rt : Option FieldType}, am_cw p' ∈ am_TT → GoodIn am_TT (am_wm p') := fun g3 => by
    have := am_goodW (ws := []) g3 (fun z hz => by cases hz)
    simpa using this
  rcases hm0 with hm0 | hm0
  · have hm := List.elem_iff.mp hm0
    have h2 := am_ml_ok _ hm
    simp only [am_mlk, Bool.and_eq_true, decide_eq_true_eq] at h2
    obtain ⟨⟨⟨hlt, hmh⟩, hnp⟩, hci, hin⟩ := h2
    have hlt : p' < 386 := Nat.blt_eq.mp hlt
    obtain ⟨y, nL', rt, code, o', b, g1, g2, g3, g4, g5, g6, g7⟩ := am_okm_of (hok p' hlt)
    have hy := am_y_of g1
    have hrt : rt = none := am_rt_init hlt g1 (by rw [← hy]; exact hin)
    subst hrt
    refine am_run (va_runI (maxL := nL') (bytes := b) (As := (st.take q).reverse.map (am_ev (am_ad base sp))) (rest := r.map (am_ev (am_ad base sp))) ⟨hx, hb, hml, hown, hts⟩ (IH p' hlt _ _ _ _ hC) (cwI (ws' := am_TT) q hts (hG0 (b := b) (nL' := 0) (rt := none) g3) (by unfold am_wm; rw [g2, hy]) rfl rfl (hts _ (am_tt (am_cmi_in _ (am_cm_all _ hlt)) rfl)) (hts _ (am_tt (am_ml_in _ hm) rfl)) (hts _ (am_tt (am_ci_in _ (List.elem_iff.mp hci)) rfl)) hin ⟨hmh.1, hmh.2, hnp⟩ ⟨hRd.1, by unfold am_rm; show 8 + (nL' + 11) + 64 * (d + 8) ≤ _; omega⟩)
      ⟨am_blind, fun U hU hW => ⟨rfl, by rw [hU]; exact hsz, by rw [hU]; exact hP, G.call hS (by omega) hU hW⟩⟩ rfl hst2 hl.2.1 hst1 (by rw [am_ev_sz]; show 2 * 0 + _ ≤ 8; omega) hd ⟨by have := gr.1; omega, by have := gr.2; omega⟩)
      (fun v1 st₀ t H1 L1 h0 hq ht hL => am_goes (d := d) (m' := p') (as := []) gr hl hS hc hs h0 hq ht hL kk) T hT X
  · have hm := List.elem_iff.mp hm0
    have h2 := am_mn_ok _ hm
    simp only [am_mlk, Bool.and_eq_true, decide_eq_true_eq] at h2
    obtain ⟨⟨⟨hlt, hmh⟩, hnp⟩, hci, hin⟩ := h2
    have hlt : p' < 386 := Nat.blt_eq.mp hlt
    obtain ⟨y, nL', rt, code, o', b, g1, g2, g3, g4, g5, g6, g7⟩ := am_okm_of (hok p' hlt)
    have hy := am_y_of g1
    have hrt : rt = none := am_rt_init hlt g1 (by rw [← hy]; exact hin)
    subst hrt
    have hnw : va_Nw (.methodLinkNest (am_own o) x (am_y p') RX11) s := G.2.2.2.2.2.2.2.1 _ hm
    refine am_run (va_runIN (maxL := nL') (bytes := b) (As := (st.take q).reverse.map (am_ev (am_ad base sp))) (rest := r.map (am_ev (am_ad base sp))) ⟨hx, hb, hml, hown, hts⟩ (IH p' hlt _ _ _ _ hC) ⟨va_cnB (ws' := am_TT) q hts (hG0 (b := b) (nL' := 0) (rt := none) g3) (by unfold am_wm; rw [g2, hy]) rfl rfl hnw (hts _ (am_tt (am_cmi_in _ (am_cm_all _ hlt)) rfl)) ⟨hmh.1, hmh.2, hnp⟩ ⟨hRd.1, by unfold am_rm; show 8 + (nL' + 11) + 64 * (d + 8) ≤ _; omega⟩, hin, hts _ (am_tt (am_ci_in _ (List.elem_iff.mp hci)) rfl)⟩
      ⟨am_blind, fun U hU hW => ⟨rfl, by rw [hU]; exact hsz, by rw [hU]; exact hP, G.call hS (by omega) hU hW⟩⟩ rfl hst2 hl.2.1 hst1 (by rw [am_ev_sz]; show 2 * 0 + _ ≤ 8; omega) hd ⟨by have := gr.1; omega, by have := gr.2; omega⟩)
      (fun v1 st₀ t H1 L1 h0 hq ht hL => am_goes (d := d) (m' := p') (as := []) gr hl hS hc hs h0 hq ht hL kk) T hT X
end AMC3
