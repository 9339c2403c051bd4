def am_text : String := "odds arm kind step spot weight person home reach thing worth lose wait scratch any when found up minute loop end stop "
theorem am_at_mem : ∀ {code : List am_I} {pc : Nat} {r : Instr × Nat × Nat × Nat × Value}, am_at code pc = some r → (pc, r) ∈ code
  | [], _, _, h => by simp [am_at] at h
  | x :: t, pc, r, h => by
    unfold am_at at h
    cases hb : Nat.beq x.1 pc with
    | true =>
      rw [hb] at h
      have e1 : x.1 = pc := Nat.eq_of_beq_eq_true hb
      cases h
      subst e1
      exact List.mem_cons_self
    | false =>
      rw [hb] at h
      exact List.mem_cons_of_mem _ (am_at_mem h)
theorem am_lko {pc : Nat} {d : Int} {x : Int} : ∀ {ps : List (Int × Int)}, 0 ≤ (pc : Int) + d → ps.all (fun f => decide (0 ≤ (pc : Int) + f.2)) = true → 0 ≤ (pc : Int) + Op.lookupswitch.offset ps d x
  | [], hd, _ => hd
  | y :: t, hd, hp => by
    rw [List.all_cons, Bool.and_eq_true] at hp
    obtain ⟨y1, y2⟩ := y
    show 0 ≤ (pc : Int) + (if y1 = x then y2 else Op.lookupswitch.offset t d x)
    split
    · exact of_decide_eq_true hp.1
    · exact am_lko hd hp.2
theorem am_fl_rng : ∀ r ∈ am_fl, r.2.2.1 < 11 ∧ r.2.2.2 < am_N r.2.2.1 := by decide +kernel
theorem am_ltc {P : Nat → Prop} (h : ∀ c ∈ List.range 11, P c) : ∀ c, c < 11 → P c := fun c hc => h c (List.mem_range.mpr hc)
theorem am_cls_at : ∀ c, c < 11 → vwCl[c]? = some (am_cl c, am_T c, am_N c) := by
  intro c hc
  match c, hc with
  | 0, _ => rfl
  | 1, _ => rfl
  | 2, _ => rfl
  | 3, _ => rfl
  | 4, _ => rfl
  | 5, _ => rfl
  | 6, _ => rfl
  | 7, _ => rfl
  | 8, _ => rfl
  | 9, _ => rfl
  | 10, _ => rfl
  | n + 11, hc => omega
theorem am_uws {c n : Nat} {C : String} {T : u_T} (h : ∀ k ∈ List.range n, u_lay C T k ∈ lw_tbl) : ∀ w ∈ u_ws C T n, w ∈ am_TT := by
  intro w hw
  unfold u_ws at hw
  obtain ⟨k, hk, rfl⟩ := List.mem_map.mp hw
  refine am_tt (h k hk) ?_
  unfold u_lay
  split <;> rfl
theorem am_cls_in : ∀ c, c < 11 → ∀ w ∈ u_ws (am_cl c) (am_T c) (am_N c), w ∈ am_TT := by
  intro c hc
  match c, hc with
  | 0, _ => exact am_uws (c := 0) am_lay_in_0
  | 1, _ => exact am_uws (c := 1) am_lay_in_1
  | 2, _ => exact am_uws (c := 2) am_lay_in_2
  | 3, _ => exact am_uws (c := 3) am_lay_in_3
  | 4, _ => exact am_uws (c := 4) am_lay_in_4
  | 5, _ => exact am_uws (c := 5) am_lay_in_5
  | 6, _ => exact am_uws (c := 6) am_lay_in_6
  | 7, _ => exact am_uws (c := 7) am_lay_in_7
  | 8, _ => exact am_uws (c := 8) am_lay_in_8
  | 9, _ => exact am_uws (c := 9) am_lay_in_9
  | 10, _ => exact am_uws (c := 10) am_lay_in_10
  | n + 11, hc => omega
theorem am_ty_all : ∀ c ∈ List.range 11, ∀ k ∈ List.range (am_N c), parseFieldDescriptor (am_T c k).2.2.1 = some (am_ty c k) := by decide +kernel
theorem am_ty_ok (c : Nat) (hc : c < 11) : ∀ k, k < am_N c → parseFieldDescriptor (am_T c k).2.2.1 = some (am_ty c k) := fun k hk => am_ty_all c (List.mem_range.mpr hc) k (List.mem_range.mpr hk)
theorem am_nm_all : ∀ c ∈ List.range 11, ∀ a ∈ List.range (am_N c), ∀ b ∈ List.range (am_N c), a ≠ b → (am_T c a).2.1 ≠ (am_T c b).2.1 := by decide +kernel
theorem am_nm_ok (c : Nat) (hc : c < 11) : ∀ a, a < am_N c → ∀ b, b < am_N c → a ≠ b → (am_T c a).2.1 ≠ (am_T c b).2.1 := fun a ha b hb => am_nm_all c (List.mem_range.mpr hc) a (List.mem_range.mpr ha) b (List.mem_range.mpr hb)
theorem am_ev_nar {ad : Nat → Nat} {t : FieldType} {v : Value} (h : narrow t v = v) : narrow t (am_ev ad v) = am_ev ad v := by
  cases v with
  | ref a => cases t <;> rfl
  | _ => exact h
theorem am_ev_fit {ad : Nat → Nat} {t : FieldType} {v : Value} : fits t (am_ev ad v) = fits t v := by
  cases v with
  | ref a => cases t <;> rfl
  | _ => rfl
theorem am_df_ok (c : Nat) (ad : Nat → Nat) : ∀ j, j < am_N c → defaultValue (am_ty c j) = vp_V ((am_df c).map (am_ev ad)) j := by
  intro j hj
  have e : ((am_df c).map (am_ev ad))[j]? = some (am_ev ad (defaultValue (am_ty c j))) := by
    simp [am_df, hj]
  unfold vp_V
  rw [List.getD_eq_getElem?_getD, e]
  show _ = am_ev ad (defaultValue (am_ty c j))
  cases am_ty c j <;> rfl
theorem am_fresh {p : Program} {l : Launch} {e : Env} {R : Room} {s : State} {m : MethodId} {args : Array Value} {below : List Frame} {meth : Method} {c : Code} {D : va_G} {tA : Nat → ClassId} {base : Nat} {sp : Nat → Nat} {c0 cells sl q : Nat} {h : am_H} {H : Heap} {T : State} {locs : List Loc} {x : va_E}
    (hl : h.length < 1000000) (X : Stand p l e R s m args below meth c T locs (cells + 1) sl) (hT : T.heap = H) (hb : s.heap.size = base + c0) (hc : cells + c0 = h.length) (hP : va_P D vwCl (am_eh (am_ad base sp) tA h ++ [(q, x)]) H) (hD : va_D (am_Ar base) (am_eh (am_ad base sp) tA h ++ [(q, x)])) : q = am_ad base sp h.length := by
  have hlen : (am_eh (am_ad base sp) tA h).length = h.length := by simp [am_eh]
  have hq : (am_eh (am_ad base sp) tA h ++ [(q, x)])[h.length]? = some (q, x) := by
    rw [← hlen]
    simp
  have h1 : q < H.size := (hP _ _ hq).lt
  have h2 : H.size ≤ s.heap.size + (cells + 1) := by
    have := X.same.2.2.1
    rw [← hT]
    exact this
  have h3 : base ≤ q := hD.2 _ _ hq
  rw [am_ad, if_pos hl]
  rcases Nat.lt_or_ge (q - base) h.length with h4 | h4
  · exfalso
    obtain ⟨y, hy⟩ : ∃ y, h[q - base]? = some y := ⟨_, List.getElem?_eq_getElem h4⟩
    have h5 := am_eh_get (ad := am_ad base sp) (tA := tA) hy
    have h6 : (am_eh (am_ad base sp) tA h ++ [(q, x)])[q - base]? = some (am_ad base sp (q - base), am_ec (am_ad base sp) tA y) := by
      rw [List.getElem?_append_left (by rw [hlen]; exact h4)]
      exact h5
    have h7 := hD.1 _ _ _ _ h6 hq (by show am_ad base sp (q - base) = q; rw [am_ad, if_pos (by omega)]; omega)
    omega
  · omega
theorem am_tA1 {D : va_G} {tA : Nat → ClassId} {s : State} {cA : ClassId} {ty : FieldType} (hK : va_K D vwCl (am_tys tA) s) (hK1 : va_K D vwCl (am_tys tA ++ [(cA, ty)]) s) (k : Nat) (hk : (am_tys tA)[k]? = some (tA k, ty)) (ho : ∀ C, ty ≠ .object C) : cA = tA k := by
  have a := (hK.2 k _ hk).2
  have b := (hK1.2 5 (cA, ty) rfl).2
  cases ty <;> first | exact absurd rfl (ho _) | (exact Option.some.inj ((Eq.symm b).trans a))
theorem am_tA2 {D : va_G} {tA : Nat → ClassId} {s : State} {cA : ClassId} {C : String} (hK : va_K D vwCl (am_tys tA) s) (hK1 : va_K D vwCl (am_tys tA ++ [(cA, .object C)]) s) (k : Nat) (hk : (am_tys tA)[k]? = some (tA k, .object C)) : cA = tA k := by
  obtain ⟨_, _, _, _, _, a⟩ := (hK.2 k _ hk).2
  obtain ⟨_, _, _, _, _, b⟩ := (hK1.2 5 (cA, .object C) rfl).2
  exact Option.some.inj (b.symm.trans a)
section AMW
variable {p : Program} {l : Launch} {e : Env} {R : Room} {s : State} {m : MethodId} {args : Array Value} {below : List Frame} {meth : Method} {c : Code} {Q : State → Prop} {D : va_G} {tA : Nat → ClassId} {base : Nat} {sp : Nat → Nat} {L : Nat} {xs : Nat → Int32} {cc : ByteArray} {nL c0 s0 o : Nat} {fin : Bool}
def am_W (p : Program) (l : Launch) (e : Env) (R : Room) (s : State) (m : MethodId) (args : Array Value) (below : List Frame) (meth : Method) (c : Code) (Q : State → Prop) (D : va_G) (tA : Nat → ClassId) (base : Nat) (sp : Nat → Nat) (nL c0 s0 pc : Nat) (ls st : List Value) (h : am_H) : Prop :=
  ∀ (LS : Array Slot) (H : Heap) (locs : List Loc) (cells slots : Nat), am_Lc (am_ad base sp) LS nL ls → am_P D tA base sp h H → va_S (am_Ar base) s.heap H locs → cells + c0 = h.length → slots + s0 = am_sl h → W p l e R s m args below meth c H locs cells slots Q (F0 m pc LS (st.map (am_ev (am_ad base sp))))
/-- what a frame's walk rests on -/
def am_F (p : Program) (R : Room) (s : State) (m : MethodId) (args : Array Value) (meth : Method) (c : Code) (D : va_G) (tA : Nat → ClassId) (base : Nat) (sp : Nat → Nat) (L : Nat) (xs : Nat → Int32) (cc : ByteArray) (nL o c0 : Nat) (fin : Bool) : Prop :=
  p.tables.exec = Jvm.exec ∧ c.code = cc ∧ c.maxLocals = nL ∧ s.vm.findClass (am_own o) = some m.cls ∧ (∀ w ∈ am_TT, w.before args s = true) ∧ va_K D vwCl (am_tys tA) s ∧ s.heap.size = base + c0 ∧ (fin = true → meth.name = "<init>") ∧ (1 ≤ R.frames ∧ 64 ≤ R.locals) ∧ va_X (sp 2000000) L xs s s.heap ∧ sp 2000000 < base ∧ va_AO RX4 s ∧ va_AO RX5 s ∧ (o = 8 → vk_R RX8 45 am_text (sp 1000000) s) ∧ (∀ t, t < 3 → (Cond.arrayClass (am_tau t)).before args s = true)
set_option maxHeartbeats 40000000 in
theorem am_stepW (F : am_F p R s m args meth c D tA base sp L xs cc nL o c0 fin) {i : Instr} {n p' q : Nat} {v : Value} {pc : Nat} {ls st : List Value} {h : am_H} {c' : Nat × List Value × List Value × am_H} (hd : decode cc pc = .ok (i, n)) (hk : am_chk o fin cc (pc, i, n, p', q, v) = true) (he : am_step (am_ho L xs) i n p' q v pc ls st h = some c') (hRc : c'.2.2.2.length ≤ R.cells + c0) (hRs : am_sl c'.2.2.2 ≤ R.slots + s0)
    (kk : am_W p l e R s m args below meth c Q D tA base sp nL c0 s0 c'.1 c'.2.1 c'.2.2.1 c'.2.2.2) : am_W p l e R s m args below meth c Q D tA base sp nL c0 s0 pc ls st h := by
  intro LS H locs cells slots hl hP hS hc hs
  obtain ⟨hx, hb, hml, hown, hts, hK, hbs, hfin, hR, hX, hXb, hAO4, hAO5, hstr, hAC⟩ := F
  have hll := hl.1
  have hD := hP.D
  have hbX : ¬ am_Ar base (sp 2000000) := fun z => by unfold am_Ar at z; omega
  cases i
  all_goals first
    | (simp only [am_step] at he; done)
    | (exfalso; simp [am_step] at he; done)
    | skip
  case iconst k =>
    simp only [am_chk, Bool.and_eq_true, Bool.or_eq_true, decide_eq_true_eq, Nat.beq_eq] at hk
    obtain ⟨-, rfl, rfl⟩ := hk
    simp only [am_step] at he; cases he
    exact lv_iconst hx hb hd rfl (kk LS H locs cells slots hl hP hS hc hs)
  case bipush k =>
    simp only [am_chk, Bool.and_eq_true, Bool.or_eq_true, decide_eq_true_eq, Nat.beq_eq] at hk
    obtain ⟨-, rfl, rfl⟩ := hk
    simp only [am_step] at he; cases he
    exact lv_bipush hx hb hd rfl (kk LS H locs cells slots hl hP hS hc hs)
  case sipush k =>
    simp only [am_chk, Bool.and_eq_true, Bool.or_eq_true, decide_eq_true_eq, Nat.beq_eq] at hk
    obtain ⟨-, rfl, rfl⟩ := hk
    simp only [am_step] at he; cases he
    exact lv_sipush hx hb hd rfl (kk LS H locs cells slots hl hP hS hc hs)
  case lconst k =>
    simp only [am_chk, Bool.and_eq_true, Bool.or_eq_true, decide_eq_true_eq, Nat.beq_eq] at hk
    obtain ⟨-, rfl, rfl⟩ := hk
    simp only [am_step] at he; cases he
    exact lv_lconst hx hb hd rfl (kk LS H locs cells slots hl hP hS hc hs)
  case ldc_w k =>
    simp only [am_chk, Bool.and_eq_true, Bool.or_eq_true, decide_eq_true_eq, Nat.beq_eq] at hk
    obtain ⟨-, rfl, hk⟩ := hk
    simp only [am_step] at he; cases he
    rw [List.any_eq_true] at hk
    obtain ⟨r, hr, hr2⟩ := hk
    simp only [Bool.and_eq_true, decide_eq_true_eq, Nat.beq_eq] at hr2
    obtain ⟨⟨⟨rfl, rfl⟩, rfl⟩, hv⟩ := hr2
    have hw := am_cn_in r hr
    obtain ⟨r1, r2, r3⟩ := r
    cases r3 <;> first | (cases hv; done) | skip
    exact lv_ldcw hx hb hown (hts _ (am_tt hw rfl)) hd (kk LS H locs cells slots hl hP hS hc hs)
  case ldc2_w k =>
    simp only [am_chk, Bool.and_eq_true, Bool.or_eq_true, decide_eq_true_eq, Nat.beq_eq] at hk
    obtain ⟨-, rfl, hk⟩ := hk
    simp only [am_step] at he; cases he
    rw [List.any_eq_true] at hk
    obtain ⟨r, hr, hr2⟩ := hk
    simp only [Bool.and_eq_true, decide_eq_true_eq, Nat.beq_eq] at hr2
    obtain ⟨⟨⟨rfl, rfl⟩, rfl⟩, hv⟩ := hr2
    have hw := am_cn_in r hr
    obtain ⟨r1, r2, r3⟩ := r
    cases r3 <;> first | (cases hv; done) | skip
    exact lv_ldc2 hx hb hown (hts _ (am_tt hw rfl)) hd (kk LS H locs cells slots hl hP hS hc hs)
  case ldc k =>
    simp only [am_chk, Bool.and_eq_true, Bool.or_eq_true, decide_eq_true_eq, Nat.beq_eq] at hk
    obtain ⟨-, rfl, hk⟩ := hk
    simp only [am_step] at he; cases he
    rcases hk with hk | hk
    · rw [List.any_eq_true] at hk
      obtain ⟨r, hr, hr2⟩ := hk
      simp only [Bool.and_eq_true, decide_eq_true_eq, Nat.beq_eq] at hr2
      obtain ⟨⟨⟨rfl, rfl⟩, rfl⟩, hv⟩ := hr2
      have hw := am_cn_in r hr
      obtain ⟨r1, r2, r3⟩ := r
      cases r3 <;> first | (cases hv; done) | skip
      exact lv_ldc hx hb hown (hts _ (am_tt hw rfl)) hd (kk LS H locs cells slots hl hP hS hc hs)
    · obtain ⟨⟨rfl, rfl⟩, rfl⟩ := hk
      exact va_ldcS hx hb hown (hstr rfl) hd (kk LS H locs cells slots hl hP hS hc hs)
  case iload_n k =>
    simp only [am_chk, Bool.and_eq_true, Bool.or_eq_true, decide_eq_true_eq, Nat.beq_eq] at hk
    obtain ⟨-, rfl, rfl⟩ := hk
    simp only [am_step] at he
    split at he
    · rename_i x hx1
      cases he
      exact lv_iload_n hx hb hd rfl (hl.at hx1 (fun k hk => Value.noConfusion hk)) (kk LS H locs cells slots hl hP hS hc hs)
    · cases he
  case iload k =>
    simp only [am_chk, Bool.and_eq_true, Bool.or_eq_true, decide_eq_true_eq, Nat.beq_eq] at hk
    obtain ⟨-, rfl, rfl⟩ := hk
    simp only [am_step] at he
    split at he
    · rename_i x hx1
      cases he
      exact lv_iload hx hb hd (hl.at hx1 (fun k hk => Value.noConfusion hk)) (kk LS H locs cells slots hl hP hS hc hs)
    · cases he
  case lload_n k =>
    simp only [am_chk, Bool.and_eq_true, Bool.or_eq_true, decide_eq_true_eq, Nat.beq_eq] at hk
    obtain ⟨-, rfl, rfl⟩ := hk
    simp only [am_step] at he
    split at he
    · rename_i x hx1
      cases he
      exact lv_lload_n hx hb hd rfl (hl.at hx1 (fun k hk => Value.noConfusion hk)) (kk LS H locs cells slots hl hP hS hc hs)
    · cases he
  case lload k =>
    simp only [am_chk, Bool.and_eq_true, Bool.or_eq_true, decide_eq_true_eq, Nat.beq_eq] at hk
    obtain ⟨-, rfl, rfl⟩ := hk
    simp only [am_step] at he
    split at he
    · rename_i x hx1
      cases he
      exact lv_lload hx hb hd (hl.at hx1 (fun k hk => Value.noConfusion hk)) (kk LS H locs cells slots hl hP hS hc hs)
    · cases he
  case aload_n k =>
    simp only [am_chk, Bool.and_eq_true, Bool.or_eq_true, decide_eq_true_eq, Nat.beq_eq] at hk
    obtain ⟨-, rfl, rfl⟩ := hk
    simp only [am_step] at he
    split at he
    · rename_i x hx1
      cases he
      exact lv_aload_n hx hb hd rfl (hl.at hx1 (fun k hk => Value.noConfusion hk)) (kk LS H locs cells slots hl hP hS hc hs)
    · cases he
  case aload k =>
    simp only [am_chk, Bool.and_eq_true, Bool.or_eq_true, decide_eq_true_eq, Nat.beq_eq] at hk
    obtain ⟨-, rfl, rfl⟩ := hk
    simp only [am_step] at he
    split at he
    · rename_i x hx1
      cases he
      exact lv_aload hx hb hd (hl.at hx1 (fun k hk => Value.noConfusion hk)) (kk LS H locs cells slots hl hP hS hc hs)
    · cases he
  case istore_n k =>
    simp only [am_chk, Bool.and_eq_true, Bool.or_eq_true, decide_eq_true_eq, Nat.beq_eq] at hk
    obtain ⟨-, rfl, rfl⟩ := hk
    cases st with
    | nil => simp [am_step] at he
    | cons x st =>
      cases x <;> try (simp [am_step] at he; done)
      rename_i x
      simp only [am_step] at he
      split at he
      · rename_i l2 hp2
        cases he
        have hi : k.val < nL := by
          unfold am_put1 at hp2
          split at hp2
          · omega
          · cases hp2
        exact lv_istore_n hx hb hd rfl hl.2 hi rfl (fun LS1 hl1 => kk LS1 H locs cells slots (am_Lc.put1 hll hp2 hl1) hP hS hc hs)
      · cases he
  case istore k =>
    simp only [am_chk, Bool.and_eq_true, Bool.or_eq_true, decide_eq_true_eq, Nat.beq_eq] at hk
    obtain ⟨-, rfl, rfl⟩ := hk
    cases st with
    | nil => simp [am_step] at he
    | cons x st =>
      cases x <;> try (simp [am_step] at he; done)
      rename_i x
      simp only [am_step] at he
      split at he
      · rename_i l2 hp2
        cases he
        have hi : k < nL := by
          unfold am_put1 at hp2
          split at hp2
          · omega
          · cases hp2
        exact lv_istore hx hb hd hl.2 hi rfl (fun LS1 hl1 => kk LS1 H locs cells slots (am_Lc.put1 hll hp2 hl1) hP hS hc hs)
      · cases he
  case lstore_n k =>
    simp only [am_chk, Bool.and_eq_true, Bool.or_eq_true, decide_eq_true_eq, Nat.beq_eq] at hk
    obtain ⟨-, rfl, rfl⟩ := hk
    cases st with
    | nil => simp [am_step] at he
    | cons x st =>
      cases x <;> try (simp [am_step] at he; done)
      rename_i x
      simp only [am_step] at he
      split at he
      · rename_i l2 hp2
        cases he
        have hi : k.val + 1 < nL := by
          unfold am_put2 at hp2
          split at hp2
          · omega
          · cases hp2
        exact lv_lstore_n hx hb hd rfl hl.2 hi rfl (fun LS1 hl1 => kk LS1 H locs cells slots (am_Lc.put2 hll hp2 hl1) hP hS hc hs)
      · cases he
  case lstore k =>
    simp only [am_chk, Bool.and_eq_true, Bool.or_eq_true, decide_eq_true_eq, Nat.beq_eq] at hk
    obtain ⟨-, rfl, rfl⟩ := hk
    cases st with
    | nil => simp [am_step] at he
    | cons x st =>
      cases x <;> try (simp [am_step] at he; done)
      rename_i x
      simp only [am_step] at he
      split at he
      · rename_i l2 hp2
        cases he
        have hi : k + 1 < nL := by
          unfold am_put2 at hp2
          split at hp2
          · omega
          · cases hp2
        exact lv_lstore hx hb hd hl.2 hi rfl (fun LS1 hl1 => kk LS1 H locs cells slots (am_Lc.put2 hll hp2 hl1) hP hS hc hs)
      · cases he
  case astore_n k =>
    simp only [am_chk, Bool.and_eq_true, Bool.or_eq_true, decide_eq_true_eq, Nat.beq_eq] at hk
    obtain ⟨-, rfl, rfl⟩ := hk
    cases st with
    | nil => simp [am_step] at he
    | cons x st =>
      cases x <;> try (simp [am_step] at he; done)
      rename_i x
      simp only [am_step] at he
      split at he
      · rename_i l2 hp2
        cases he
        have hi : k.val < nL := by
          unfold am_put1 at hp2
          split at hp2
          · omega
          · cases hp2
        exact lv_astore_n hx hb hd rfl hl.2 hi rfl (fun LS1 hl1 => kk LS1 H locs cells slots (am_Lc.put1 hll hp2 hl1) hP hS hc hs)
      · cases he
  case iinc k x =>
    simp only [am_chk, Bool.and_eq_true, Bool.or_eq_true, decide_eq_true_eq, Nat.beq_eq] at hk
    obtain ⟨-, ⟨rfl, rfl⟩, rfl⟩ := hk
    simp only [am_step] at he
    split at he
    · rename_i x1 c1 h1 h2
      cases h2
      split at he
      · rename_i l2 hp2
        cases he
        have hi : k < nL := by
          unfold am_put1 at hp2
          split at hp2
          · omega
          · cases hp2
        obtain ⟨kq, hkq⟩ := List.getElem?_of_mem (am_asc_mem (ad := am_ad base sp) (q := (k, am_ev (am_ad base sp) (.int x1))) |>.mpr ⟨.int x1, h1, fun k hk => Value.noConfusion hk, rfl⟩)
        exact lv_iinc hx hb hd hl.2 hkq rfl hi rfl (fun LS1 hl1 => kk LS1 H locs cells slots (am_Lc.put1 hll hp2 hl1) hP hS hc hs)
      · cases he
    · cases he
  case iadd =>
    simp only [am_chk, Bool.and_eq_true, Bool.or_eq_true, decide_eq_true_eq, Nat.beq_eq] at hk
    obtain ⟨-, rfl⟩ := hk
    cases st with
    | nil => simp [am_step] at he
    | cons x0 st =>
      cases x0 <;> try (simp [am_step] at he; done)
      rename_i x0
      cases st with
      | nil => simp [am_step] at he
      | cons x1 st =>
        cases x1 <;> try (simp [am_step] at he; done)
        rename_i x1
        simp only [am_step] at he
        cases he
        exact lv_iadd hx hb hd (kk LS H locs cells slots hl hP hS hc hs)
  case isub =>
    simp only [am_chk, Bool.and_eq_true, Bool.or_eq_true, decide_eq_true_eq, Nat.beq_eq] at hk
    obtain ⟨-, rfl⟩ := hk
    cases st with
    | nil => simp [am_step] at he
    | cons x0 st =>
      cases x0 <;> try (simp [am_step] at he; done)
      rename_i x0
      cases st with
      | nil => simp [am_step] at he
      | cons x1 st =>
        cases x1 <;> try (simp [am_step] at he; done)
        rename_i x1
        simp only [am_step] at he
        cases he
        exact lv_isub hx hb hd (kk LS H locs cells slots hl hP hS hc hs)
  case imul =>
    simp only [am_chk, Bool.and_eq_true, Bool.or_eq_true, decide_eq_true_eq, Nat.beq_eq] at hk
    obtain ⟨-, rfl⟩ := hk
    cases st with
    | nil => simp [am_step] at he
    | cons x0 st =>
      cases x0 <;> try (simp [am_step] at he; done)
      rename_i x0
      cases st with
      | nil => simp [am_step] at he
      | cons x1 st =>
        cases x1 <;> try (simp [am_step] at he; done)
        rename_i x1
        simp only [am_step] at he
        cases he
        exact lv_imul hx hb hd (kk LS H locs cells slots hl hP hS hc hs)
  case iand =>
    simp only [am_chk, Bool.and_eq_true, Bool.or_eq_true, decide_eq_true_eq, Nat.beq_eq] at hk
    obtain ⟨-, rfl⟩ := hk
    cases st with
    | nil => simp [am_step] at he
    | cons x0 st =>
      cases x0 <;> try (simp [am_step] at he; done)
      rename_i x0
      cases st with
      | nil => simp [am_step] at he
      | cons x1 st =>
        cases x1 <;> try (simp [am_step] at he; done)
        rename_i x1
        simp only [am_step] at he
        cases he
        exact lv_iand hx hb hd (kk LS H locs cells slots hl hP hS hc hs)
  case ior =>
    simp only [am_chk, Bool.and_eq_true, Bool.or_eq_true, decide_eq_true_eq, Nat.beq_eq] at hk
    obtain ⟨-, rfl⟩ := hk
    cases st with
    | nil => simp [am_step] at he
    | cons x0 st =>
      cases x0 <;> try (simp [am_step] at he; done)
      rename_i x0
      cases st with
      | nil => simp [am_step] at he
      | cons x1 st =>
        cases x1 <;> try (simp [am_step] at he; done)
        rename_i x1
        simp only [am_step] at he
        cases he
        exact lv_ior hx hb hd (kk LS H locs cells slots hl hP hS hc hs)
  case ixor =>
    simp only [am_chk, Bool.and_eq_true, Bool.or_eq_true, decide_eq_true_eq, Nat.beq_eq] at hk
    obtain ⟨-, rfl⟩ := hk
    cases st with
    | nil => simp [am_step] at he
    | cons x0 st =>
      cases x0 <;> try (simp [am_step] at he; done)
      rename_i x0
      cases st with
      | nil => simp [am_step] at he
      | cons x1 st =>
        cases x1 <;> try (simp [am_step] at he; done)
        rename_i x1
        simp only [am_step] at he
        cases he
        exact lv_ixor hx hb hd (kk LS H locs cells slots hl hP hS hc hs)
  case ishl =>
    simp only [am_chk, Bool.and_eq_true, Bool.or_eq_true, decide_eq_true_eq, Nat.beq_eq] at hk
    obtain ⟨-, rfl⟩ := hk
    cases st with
    | nil => simp [am_step] at he
    | cons x0 st =>
      cases x0 <;> try (simp [am_step] at he; done)
      rename_i x0
      cases st with
      | nil => simp [am_step] at he
      | cons x1 st =>
        cases x1 <;> try (simp [am_step] at he; done)
        rename_i x1
        simp only [am_step] at he
        cases he
        exact lv_ishl hx hb hd (kk LS H locs cells slots hl hP hS hc hs)
  case ishr =>
    simp only [am_chk, Bool.and_eq_true, Bool.or_eq_true, decide_eq_true_eq, Nat.beq_eq] at hk
    obtain ⟨-, rfl⟩ := hk
    cases st with
    | nil => simp [am_step] at he
    | cons x0 st =>
      cases x0 <;> try (simp [am_step] at he; done)
      rename_i x0
      cases st with
      | nil => simp [am_step] at he
      | cons x1 st =>
        cases x1 <;> try (simp [am_step] at he; done)
        rename_i x1
        simp only [am_step] at he
        cases he
        exact lv_ishr hx hb hd (kk LS H locs cells slots hl hP hS hc hs)
  case iushr =>
    simp only [am_chk, Bool.and_eq_true, Bool.or_eq_true, decide_eq_true_eq, Nat.beq_eq] at hk
    obtain ⟨-, rfl⟩ := hk
    cases st with
    | nil => simp [am_step] at he
    | cons x0 st =>
      cases x0 <;> try (simp [am_step] at he; done)
      rename_i x0
      cases st with
      | nil => simp [am_step] at he
      | cons x1 st =>
        cases x1 <;> try (simp [am_step] at he; done)
        rename_i x1
        simp only [am_step] at he
        cases he
        exact lv_iushr hx hb hd rfl (kk LS H locs cells slots hl hP hS hc hs)
  case idiv =>
    simp only [am_chk, Bool.and_eq_true, Bool.or_eq_true, decide_eq_true_eq, Nat.beq_eq] at hk
    obtain ⟨-, rfl⟩ := hk
    cases st with
    | nil => simp [am_step] at he
    | cons x0 st =>
      cases x0 <;> try (simp [am_step] at he; done)
      rename_i x0
      cases st with
      | nil => simp [am_step] at he
      | cons x1 st =>
        cases x1 <;> try (simp [am_step] at he; done)
        rename_i x1
        simp only [am_step] at he
        split at he
        · cases he
        rename_i hne
        cases he
        exact lv_idiv hx hb hd hne (kk LS H locs cells slots hl hP hS hc hs)
  case irem =>
    simp only [am_chk, Bool.and_eq_true, Bool.or_eq_true, decide_eq_true_eq, Nat.beq_eq] at hk
    obtain ⟨-, rfl⟩ := hk
    cases st with
    | nil => simp [am_step] at he
    | cons x0 st =>
      cases x0 <;> try (simp [am_step] at he; done)
      rename_i x0
      cases st with
      | nil => simp [am_step] at he
      | cons x1 st =>
        cases x1 <;> try (simp [am_step] at he; done)
        rename_i x1
        simp only [am_step] at he
        split at he
        · cases he
        rename_i hne
        cases he
        exact lv_irem hx hb hd hne (kk LS H locs cells slots hl hP hS hc hs)
  case ladd =>
    simp only [am_chk, Bool.and_eq_true, Bool.or_eq_true, decide_eq_true_eq, Nat.beq_eq] at hk
    obtain ⟨-, rfl⟩ := hk
    cases st with
    | nil => simp [am_step] at he
    | cons x0 st =>
      cases x0 <;> try (simp [am_step] at he; done)
      rename_i x0
      cases st with
      | nil => simp [am_step] at he
      | cons x1 st =>
        cases x1 <;> try (simp [am_step] at he; done)
        rename_i x1
        simp only [am_step] at he
        cases he
        exact lv_ladd hx hb hd (kk LS H locs cells slots hl hP hS hc hs)
  case lsub =>
    simp only [am_chk, Bool.and_eq_true, Bool.or_eq_true, decide_eq_true_eq, Nat.beq_eq] at hk
    obtain ⟨-, rfl⟩ := hk
    cases st with
    | nil => simp [am_step] at he
    | cons x0 st =>
      cases x0 <;> try (simp [am_step] at he; done)
      rename_i x0
      cases st with
      | nil => simp [am_step] at he
      | cons x1 st =>
        cases x1 <;> try (simp [am_step] at he; done)
        rename_i x1
        simp only [am_step] at he
        cases he
        exact lv_lsub hx hb hd (kk LS H locs cells slots hl hP hS hc hs)
  case lmul =>
    simp only [am_chk, Bool.and_eq_true, Bool.or_eq_true, decide_eq_true_eq, Nat.beq_eq] at hk
    obtain ⟨-, rfl⟩ := hk
    cases st with
    | nil => simp [am_step] at he
    | cons x0 st =>
      cases x0 <;> try (simp [am_step] at he; done)
      rename_i x0
      cases st with
      | nil => simp [am_step] at he
      | cons x1 st =>
        cases x1 <;> try (simp [am_step] at he; done)
        rename_i x1
        simp only [am_step] at he
        cases he
        exact lv_lmul hx hb hd (kk LS H locs cells slots hl hP hS hc hs)
  case land =>
    simp only [am_chk, Bool.and_eq_true, Bool.or_eq_true, decide_eq_true_eq, Nat.beq_eq] at hk
    obtain ⟨-, rfl⟩ := hk
    cases st with
    | nil => simp [am_step] at he
    | cons x0 st =>
      cases x0 <;> try (simp [am_step] at he; done)
      rename_i x0
      cases st with
      | nil => simp [am_step] at he
      | cons x1 st =>
        cases x1 <;> try (simp [am_step] at he; done)
        rename_i x1
        simp only [am_step] at he
        cases he
        exact lv_land hx hb hd (kk LS H locs cells slots hl hP hS hc hs)
  case lor =>
    simp only [am_chk, Bool.and_eq_true, Bool.or_eq_true, decide_eq_true_eq, Nat.beq_eq] at hk
    obtain ⟨-, rfl⟩ := hk
    cases st with
    | nil => simp [am_step] at he
    | cons x0 st =>
      cases x0 <;> try (simp [am_step] at he; done)
      rename_i x0
      cases st with
      | nil => simp [am_step] at he
      | cons x1 st =>
        cases x1 <;> try (simp [am_step] at he; done)
        rename_i x1
        simp only [am_step] at he
        cases he
        exact lv_lor hx hb hd (kk LS H locs cells slots hl hP hS hc hs)
  case ldiv =>
    simp only [am_chk, Bool.and_eq_true, Bool.or_eq_true, decide_eq_true_eq, Nat.beq_eq] at hk
    obtain ⟨-, rfl⟩ := hk
    cases st with
    | nil => simp [am_step] at he
    | cons x0 st =>
      cases x0 <;> try (simp [am_step] at he; done)
      rename_i x0
      cases st with
      | nil => simp [am_step] at he
      | cons x1 st =>
        cases x1 <;> try (simp [am_step] at he; done)
        rename_i x1
        simp only [am_step] at he
        split at he
        · cases he
        rename_i hne
        cases he
        exact lv_ldiv hx hb hd hne (kk LS H locs cells slots hl hP hS hc hs)
  case lrem =>
    simp only [am_chk, Bool.and_eq_true, Bool.or_eq_true, decide_eq_true_eq, Nat.beq_eq] at hk
    obtain ⟨-, rfl⟩ := hk
    cases st with
    | nil => simp [am_step] at he
    | cons x0 st =>
      cases x0 <;> try (simp [am_step] at he; done)
      rename_i x0
      cases st with
      | nil => simp [am_step] at he
      | cons x1 st =>
        cases x1 <;> try (simp [am_step] at he; done)
        rename_i x1
        simp only [am_step] at he
        split at he
        · cases he
        rename_i hne
        cases he
        exact lv_lrem hx hb hd hne (kk LS H locs cells slots hl hP hS hc hs)
  case lshl =>
    simp only [am_chk, Bool.and_eq_true, Bool.or_eq_true, decide_eq_true_eq, Nat.beq_eq] at hk
    obtain ⟨-, rfl⟩ := hk
    cases st with
    | nil => simp [am_step] at he
    | cons x0 st =>
      cases x0 <;> try (simp [am_step] at he; done)
      rename_i x0
      cases st with
      | nil => simp [am_step] at he
      | cons x1 st =>
        cases x1 <;> try (simp [am_step] at he; done)
        rename_i x1
        simp only [am_step] at he
        cases he
        exact lv_lshl hx hb hd rfl (kk LS H locs cells slots hl hP hS hc hs)
  case lcmp =>
    simp only [am_chk, Bool.and_eq_true, Bool.or_eq_true, decide_eq_true_eq, Nat.beq_eq] at hk
    obtain ⟨-, rfl⟩ := hk
    cases st with
    | nil => simp [am_step] at he
    | cons x0 st =>
      cases x0 <;> try (simp [am_step] at he; done)
      rename_i x0
      cases st with
      | nil => simp [am_step] at he
      | cons x1 st =>
        cases x1 <;> try (simp [am_step] at he; done)
        rename_i x1
        simp only [am_step] at he
        cases he
        exact W.lcmp hx hb hd (kk LS H locs cells slots hl hP hS hc hs)
  case ineg =>
    simp only [am_chk, Bool.and_eq_true, Bool.or_eq_true, decide_eq_true_eq, Nat.beq_eq] at hk
    obtain ⟨-, rfl⟩ := hk
    cases st with
    | nil => simp [am_step] at he
    | cons x0 st =>
      cases x0 <;> try (simp [am_step] at he; done)
      rename_i x0
      simp only [am_step] at he
      cases he
      exact lv_ineg hx hb hd (kk LS H locs cells slots hl hP hS hc hs)
  case i2l =>
    simp only [am_chk, Bool.and_eq_true, Bool.or_eq_true, decide_eq_true_eq, Nat.beq_eq] at hk
    obtain ⟨-, rfl⟩ := hk
    cases st with
    | nil => simp [am_step] at he
    | cons x0 st =>
      cases x0 <;> try (simp [am_step] at he; done)
      rename_i x0
      simp only [am_step] at he
      cases he
      exact lv_i2l hx hb hd rfl (kk LS H locs cells slots hl hP hS hc hs)
  case l2i =>
    simp only [am_chk, Bool.and_eq_true, Bool.or_eq_true, decide_eq_true_eq, Nat.beq_eq] at hk
    obtain ⟨-, rfl⟩ := hk
    cases st with
    | nil => simp [am_step] at he
    | cons x0 st =>
      cases x0 <;> try (simp [am_step] at he; done)
      rename_i x0
      simp only [am_step] at he
      cases he
      exact lv_l2i hx hb hd rfl (kk LS H locs cells slots hl hP hS hc hs)
  case i2b =>
    simp only [am_chk, Bool.and_eq_true, Bool.or_eq_true, decide_eq_true_eq, Nat.beq_eq] at hk
    obtain ⟨-, rfl⟩ := hk
    cases st with
    | nil => simp [am_step] at he
    | cons x0 st =>
      cases x0 <;> try (simp [am_step] at he; done)
      rename_i x0
      simp only [am_step] at he
      cases he
      exact lv_i2b hx hb hd rfl (kk LS H locs cells slots hl hP hS hc hs)
  case i2s =>
    simp only [am_chk, Bool.and_eq_true, Bool.or_eq_true, decide_eq_true_eq, Nat.beq_eq] at hk
    obtain ⟨-, rfl⟩ := hk
    cases st with
    | nil => simp [am_step] at he
    | cons x0 st =>
      cases x0 <;> try (simp [am_step] at he; done)
      rename_i x0
      simp only [am_step] at he
      cases he
      exact lv_i2s hx hb hd rfl (kk LS H locs cells slots hl hP hS hc hs)
  case dup =>
    simp only [am_chk, Bool.and_eq_true, Bool.or_eq_true, decide_eq_true_eq, Nat.beq_eq] at hk
    obtain ⟨-, rfl⟩ := hk
    cases st with
    | nil => simp [am_step] at he
    | cons x0 st =>
      cases x0 <;> try (simp [am_step] at he; done)
      all_goals
        simp only [am_step] at he
        cases he
        exact lv_dup hx hb hd rfl (kk LS H locs cells slots hl hP hS hc hs)
  case pop =>
    simp only [am_chk, Bool.and_eq_true, Bool.or_eq_true, decide_eq_true_eq, Nat.beq_eq] at hk
    obtain ⟨-, rfl⟩ := hk
    cases st with
    | nil => simp [am_step] at he
    | cons x0 st =>
      cases x0 <;> try (simp [am_step] at he; done)
      simp only [am_step] at he
      cases he
      exact lv_pop hx hb hd rfl (kk LS H locs cells slots hl hP hS hc hs)
  case dup2 =>
    simp only [am_chk, Bool.and_eq_true, Bool.or_eq_true, decide_eq_true_eq, Nat.beq_eq] at hk
    obtain ⟨-, rfl⟩ := hk
    cases st with
    | nil => simp [am_step] at he
    | cons x0 st =>
      cases x0 <;> try (simp [am_step] at he; done)
      · cases st with
        | nil => simp [am_step] at he
        | cons x1 st =>
          cases x1 <;> try (simp [am_step] at he; done)
          simp only [am_step] at he
          cases he
          exact lv_dup2_11 hx hb hd rfl rfl (kk LS H locs cells slots hl hP hS hc hs)
      · simp only [am_step] at he
        cases he
        exact lv_dup2_2 hx hb hd rfl (kk LS H locs cells slots hl hP hS hc hs)
  case goto f =>
    simp only [am_chk, Bool.and_eq_true, Bool.or_eq_true, decide_eq_true_eq, Nat.beq_eq] at hk
    obtain ⟨-, rfl, ht⟩ := hk
    simp only [am_step] at he; cases he
    exact lv_goto hx hb hd ht (kk LS H locs cells slots hl hP hS hc hs)
  case ifCond cd f =>
    simp only [am_chk, Bool.and_eq_true, Bool.or_eq_true, decide_eq_true_eq, Nat.beq_eq] at hk
    obtain ⟨-, rfl, ht⟩ := hk
    cases st with
    | nil => cases cd <;> simp [am_step] at he
    | cons x0 st =>
      cases x0 <;> try (cases cd <;> simp [am_step] at he; done)
      rename_i x0
      cases cd <;> simp only [am_step] at he
      all_goals first
        | exact lv_if_eq hx hb hd ht (fun z => by rw [if_pos z] at he; cases he; exact (kk LS H locs cells slots hl hP hS hc hs)) (fun z => by rw [if_neg z] at he; cases he; exact (kk LS H locs cells slots hl hP hS hc hs))
        | exact lv_if_ne hx hb hd ht (fun z => by rw [if_neg z] at he; cases he; exact (kk LS H locs cells slots hl hP hS hc hs)) (fun z => by rw [if_pos z] at he; cases he; exact (kk LS H locs cells slots hl hP hS hc hs))
        | exact lv_if_lt hx hb hd ht (fun z => by rw [if_pos z] at he; cases he; exact (kk LS H locs cells slots hl hP hS hc hs)) (fun z => by rw [if_neg z] at he; cases he; exact (kk LS H locs cells slots hl hP hS hc hs))
        | exact lv_if_ge hx hb hd ht (fun z => by rw [if_neg (Int32.not_lt.mpr z)] at he; cases he; exact (kk LS H locs cells slots hl hP hS hc hs)) (fun z => by rw [if_pos (Int32.not_le.mp z)] at he; cases he; exact (kk LS H locs cells slots hl hP hS hc hs))
        | exact lv_if_gt hx hb hd ht (fun z => by rw [if_neg (Int32.not_le.mpr z)] at he; cases he; exact (kk LS H locs cells slots hl hP hS hc hs)) (fun z => by rw [if_pos (Int32.not_lt.mp z)] at he; cases he; exact (kk LS H locs cells slots hl hP hS hc hs))
        | exact lv_if_le hx hb hd ht (fun z => by rw [if_pos z] at he; cases he; exact (kk LS H locs cells slots hl hP hS hc hs)) (fun z => by rw [if_neg z] at he; cases he; exact (kk LS H locs cells slots hl hP hS hc hs))
  case if_icmp cd f =>
    simp only [am_chk, Bool.and_eq_true, Bool.or_eq_true, decide_eq_true_eq, Nat.beq_eq] at hk
    obtain ⟨-, rfl, ht⟩ := hk
    cases st with
    | nil => cases cd <;> simp [am_step] at he
    | cons x0 st =>
      cases x0 <;> try (cases cd <;> simp [am_step] at he; done)
      rename_i x0
      cases st with
      | nil => cases cd <;> simp [am_step] at he
      | cons x1 st =>
        cases x1 <;> try (cases cd <;> simp [am_step] at he; done)
        rename_i x1
        cases cd <;> simp only [am_step] at he
        all_goals first
          | exact lv_icmp_eq hx hb hd ht (fun z => by rw [if_pos z] at he; cases he; exact (kk LS H locs cells slots hl hP hS hc hs)) (fun z => by rw [if_neg z] at he; cases he; exact (kk LS H locs cells slots hl hP hS hc hs))
          | exact lv_icmp_ne hx hb hd ht (fun z => by rw [if_neg z] at he; cases he; exact (kk LS H locs cells slots hl hP hS hc hs)) (fun z => by rw [if_pos z] at he; cases he; exact (kk LS H locs cells slots hl hP hS hc hs))
          | exact lv_icmp_lt hx hb hd ht (fun z => by rw [if_pos z] at he; cases he; exact (kk LS H locs cells slots hl hP hS hc hs)) (fun z => by rw [if_neg z] at he; cases he; exact (kk LS H locs cells slots hl hP hS hc hs))
          | exact lv_icmp_ge hx hb hd ht (fun z => by rw [if_neg (Int32.not_lt.mpr z)] at he; cases he; exact (kk LS H locs cells slots hl hP hS hc hs)) (fun z => by rw [if_pos (Int32.not_le.mp z)] at he; cases he; exact (kk LS H locs cells slots hl hP hS hc hs))
          | exact lv_icmp_gt hx hb hd ht (fun z => by rw [if_neg (Int32.not_le.mpr z)] at he; cases he; exact (kk LS H locs cells slots hl hP hS hc hs)) (fun z => by rw [if_pos (Int32.not_lt.mp z)] at he; cases he; exact (kk LS H locs cells slots hl hP hS hc hs))
          | exact lv_icmp_le hx hb hd ht (fun z => by rw [if_pos z] at he; cases he; exact (kk LS H locs cells slots hl hP hS hc hs)) (fun z => by rw [if_neg z] at he; cases he; exact (kk LS H locs cells slots hl hP hS hc hs))
  case ifnonnull f =>
    simp only [am_chk, Bool.and_eq_true, Bool.or_eq_true, decide_eq_true_eq, Nat.beq_eq] at hk
    obtain ⟨-, rfl, ht⟩ := hk
    cases st with
    | nil => simp [am_step] at he
    | cons x0 st =>
      cases x0 <;> try (simp [am_step] at he; done)
      simp only [am_step] at he
      cases he
      exact lv_ifnonnull hx hb hd ht (kk LS H locs cells slots hl hP hS hc hs)
  case tableswitch d lo hi fs =>
    simp only [am_chk, Bool.and_eq_true, Bool.or_eq_true, decide_eq_true_eq, Nat.beq_eq] at hk
    obtain ⟨-, hd0, hfs⟩ := hk
    cases st with
    | nil => simp [am_step] at he
    | cons x0 st =>
      cases x0 <;> try (simp [am_step] at he; done)
      rename_i x
      simp only [am_step] at he
      split at he
      · rename_i hz
        cases he
        exact lv_tableOut hx hb hd hz (by rw [Int.toNat_of_nonneg hd0]) (kk LS H locs cells slots hl hP hS hc hs)
      · rename_i hz
        split at he
        · rename_i f hf
          cases he
          have hf0 := of_decide_eq_true (List.all_eq_true.mp hfs f (by
            rw [Array.mem_toList_iff]
            exact Array.mem_of_getElem? hf))
          exact lv_tableIn hx hb hd (fun z => hz (Or.inl z)) (fun z => hz (Or.inr z)) hf (by rw [Int.toNat_of_nonneg hf0]) (kk LS H locs cells slots hl hP hS hc hs)
        · cases he
  case lookupswitch d ps =>
    simp only [am_chk, Bool.and_eq_true, Bool.or_eq_true, decide_eq_true_eq, Nat.beq_eq] at hk
    obtain ⟨-, ⟨hd0, hfs⟩, hps⟩ := hk
    cases st with
    | nil => simp [am_step] at he
    | cons x0 st =>
      cases x0 <;> try (simp [am_step] at he; done)
      rename_i x
      simp only [am_step] at he
      cases he
      exact lv_lookup hx hb hd hps rfl (by rw [Int.toNat_of_nonneg (am_lko hd0 hfs)]) (kk LS H locs cells slots hl hP hS hc hs)
  case getfield x =>
    simp only [am_chk, Bool.and_eq_true, Bool.or_eq_true, decide_eq_true_eq, Nat.beq_eq] at hk
    obtain ⟨-, rfl, hf0⟩ := hk
    have hf := List.elem_iff.mp hf0
    obtain ⟨r1, r2⟩ := am_fl_rng _ hf
    dsimp only at r1 r2
    simp only [am_step] at he
    split at he
    · rename_i st1 h1 ho1
      cases he
      cases st with
      | nil => simp [am_ho] at ho1
      | cons x0 st =>
        cases x0 <;> try (simp [am_ho] at ho1; done)
        rename_i x0
        simp only [am_ho] at ho1
        split at ho1 <;> try (cases ho1; done)
        rename_i c1 fs hca
        split at ho1 <;> try (cases ho1; done)
        rename_i hcp
        subst hcp
        split at ho1 <;> try (cases ho1; done)
        rename_i v1 hv1
        cases ho1
        exact va_get (D := D) (v := am_ev (am_ad base sp) v1) hx hb hts (am_cls_in _ r1) hown hK hP.2 x0 (am_eh_get hca) (am_cls_at _ r1) q r2 (hts _ (am_tt (am_fl_in _ hf) rfl)) (fun _ h9 => h9) (by rw [List.getElem?_map, hv1]; rfl) hd (kk LS H locs cells slots hl hP hS hc hs)
    · cases he
  case putfield x =>
    simp only [am_chk, Bool.and_eq_true, Bool.or_eq_true, decide_eq_true_eq, Nat.beq_eq] at hk
    obtain ⟨-, ⟨rfl, hf0⟩, hfi⟩ := hk
    have hf := List.elem_iff.mp hf0
    obtain ⟨r1, r2⟩ := am_fl_rng _ hf
    dsimp only at r1 r2
    simp only [am_step] at he
    split at he
    · rename_i st1 h1 ho1
      cases he
      cases st with
      | nil => simp [am_ho] at ho1
      | cons x0 st =>
        cases st with
        | nil => simp [am_ho] at ho1
        | cons x1 st =>
          cases x1 <;> try (simp [am_ho] at ho1; done)
          rename_i x1
          simp only [am_ho] at ho1
          split at ho1 <;> try (cases ho1; done)
          rename_i c1 fs hca
          split at ho1 <;> try (cases ho1; done)
          rename_i hcp
          obtain ⟨rfl, hq, hn1, hn2⟩ := hcp
          cases ho1
          have hnx : narrow (am_ty c1 q) (am_ev (am_ad base sp) x0) = am_ev (am_ad base sp) x0 := am_ev_nar hn1
          have hfx : fits (am_ty c1 q) (am_ev (am_ad base sp) x0) = true := by rw [am_ev_fit]; exact hn2
          have hgo : ∀ (H1 : Heap) (locs1 : List Loc), va_P D vwCl ((am_eh (am_ad base sp) tA h).set x1 (am_ad base sp x1, .inr (c1, (fs.map (am_ev (am_ad base sp))).set q (am_ev (am_ad base sp) x0)))) H1 → va_D (am_Ar base) ((am_eh (am_ad base sp) tA h).set x1 (am_ad base sp x1, .inr (c1, (fs.map (am_ev (am_ad base sp))).set q (am_ev (am_ad base sp) x0)))) → va_S (am_Ar base) s.heap H1 locs1 → W p l e R s m args below meth c H1 locs1 cells slots Q (F0 m (pc + 3) LS (st1.map (am_ev (am_ad base sp)))) := by
            intro H1 locs1 hP1 _ hS1
            refine kk LS H1 locs1 cells slots hl ⟨by rw [List.length_set]; exact hP.1, ?_⟩ hS1 (by rw [hc, List.length_set]) (by rw [hs, am_sl_set hca (by simp [am_csz])])
            rw [am_eh_set]
            simpa [am_ec, List.map_set] using hP1
          cases hfb : (am_T c1 q).2.2.2 with
          | false => exact va_put (D := D) (ty := am_ty c1 q) hx hb hts (am_cls_in _ r1) (am_ty c1) (am_ty_ok _ r1) (am_nm_ok _ r1) hown hK hP.2 hD hS x1 (am_eh_get hca) (am_cls_at _ r1) q r2 (hts _ (am_tt (am_fl_in _ hf) rfl)) (fun _ h9 => h9) hfb (am_ty_ok _ r1 q r2) hnx hfx (by rw [List.length_map]; exact hq) hd hgo
          | true =>
            rw [hfb] at hfi
            obtain ⟨hf1, hf2⟩ := hfi.resolve_left (by decide)
            exact va_putF (D := D) (ty := am_ty c1 q) hx hb hts (am_cls_in _ r1) (am_ty c1) (am_ty_ok _ r1) (am_nm_ok _ r1) hown hK hP.2 hD hS x1 (am_eh_get hca) (am_cls_at _ r1) q r2 (hts _ (am_tt (am_fl_in _ hf) rfl)) (fun _ h9 => h9) hfb (hfin hf1) hf2 (am_ty_ok _ r1 q r2) hnx hfx (by rw [List.length_map]; exact hq) hd hgo
    · cases he
  case iaload =>
    simp only [am_chk, Bool.and_eq_true, Bool.or_eq_true, decide_eq_true_eq, Nat.beq_eq] at hk
    obtain ⟨-, rfl⟩ := hk
    simp only [am_step] at he
    split at he
    · rename_i st1 h1 ho1
      cases he
      cases st with
      | nil => simp [am_ho] at ho1
      | cons x0 st =>
        cases x0 <;> try (simp [am_ho] at ho1; done)
        rename_i x0
        cases st with
        | nil => simp [am_ho] at ho1
        | cons x1 st =>
          cases x1 <;> try (simp [am_ho] at ho1; done)
          rename_i x1
          simp only [am_ho] at ho1
          split at ho1
          · rename_i ha
            subst ha
            split at ho1 <;> try (cases ho1; done)
            rename_i hi
            cases ho1
            exact va_sld hx hb hX (by omega) hbX hS (am_in_iff.mp hi) hd (kk LS H locs cells slots hl hP hS hc hs)
          · split at ho1 <;> try (cases ho1; done)
            rename_i n1 f1 hca
            split at ho1 <;> try (cases ho1; done)
            rename_i hi
            cases ho1
            exact va_iald (D := D) hx hb hK hP.2 x1 0 (am_eh_get hca) rfl (am_in_iff.mp hi) hd (kk LS H locs cells slots hl hP hS hc hs)
    · cases he
  case laload =>
    simp only [am_chk, Bool.and_eq_true, Bool.or_eq_true, decide_eq_true_eq, Nat.beq_eq] at hk
    obtain ⟨-, rfl⟩ := hk
    simp only [am_step] at he
    split at he
    · rename_i st1 h1 ho1
      cases he
      cases st with
      | nil => simp [am_ho] at ho1
      | cons x0 st =>
        cases x0 <;> try (simp [am_ho] at ho1; done)
        rename_i x0
        cases st with
        | nil => simp [am_ho] at ho1
        | cons x1 st =>
          cases x1 <;> try (simp [am_ho] at ho1; done)
          rename_i x1
          simp only [am_ho] at ho1
          split at ho1 <;> try (cases ho1; done)
          rename_i n1 f1 hca
          split at ho1 <;> try (cases ho1; done)
          rename_i hi
          cases ho1
          exact va_lald (D := D) hx hb hK hP.2 x1 1 (am_eh_get hca) rfl (am_in_iff.mp hi) hd (kk LS H locs cells slots hl hP hS hc hs)
    · cases he
  case baload =>
    simp only [am_chk, Bool.and_eq_true, Bool.or_eq_true, decide_eq_true_eq, Nat.beq_eq] at hk
    obtain ⟨-, rfl⟩ := hk
    simp only [am_step] at he
    split at he
    · rename_i st1 h1 ho1
      cases he
      cases st with
      | nil => simp [am_ho] at ho1
      | cons x0 st =>
        cases x0 <;> try (simp [am_ho] at ho1; done)
        rename_i x0
        cases st with
        | nil => simp [am_ho] at ho1
        | cons x1 st =>
          cases x1 <;> try (simp [am_ho] at ho1; done)
          rename_i x1
          simp only [am_ho] at ho1
          split at ho1 <;> try (cases ho1; done)
          rename_i n1 f1 hca
          split at ho1 <;> try (cases ho1; done)
          rename_i hi
          cases ho1
          exact va_bald (D := D) hx hb hK hP.2 x1 2 (am_eh_get hca) rfl (am_in_iff.mp hi) hd (kk LS H locs cells slots hl hP hS hc hs)
    · cases he
  case iastore =>
    simp only [am_chk, Bool.and_eq_true, Bool.or_eq_true, decide_eq_true_eq, Nat.beq_eq] at hk
    obtain ⟨-, rfl⟩ := hk
    simp only [am_step] at he
    split at he
    · rename_i st1 h1 ho1
      cases he
      cases st with
      | nil => simp [am_ho] at ho1
      | cons x0 st =>
        cases x0 <;> try (simp [am_ho] at ho1; done)
        rename_i x0
        cases st with
        | nil => simp [am_ho] at ho1
        | cons x1 st =>
          cases x1 <;> try (simp [am_ho] at ho1; done)
          rename_i x1
          cases st with
          | nil => simp [am_ho] at ho1
          | cons x2 st =>
            cases x2 <;> try (simp [am_ho] at ho1; done)
            rename_i x2
            simp only [am_ho] at ho1
            split at ho1 <;> try (cases ho1; done)
            rename_i n1 f1 hca
            split at ho1 <;> try (cases ho1; done)
            rename_i hi
            cases ho1
            refine va_iast (D := D) hx hb hK hP.2 hD hS x2 0 (am_eh_get hca) rfl (am_in_iff.mp hi) hd (fun H1 locs1 hP1 _ hS1 => ?_)
            refine kk LS H1 locs1 cells slots hl ⟨by rw [List.length_set]; exact hP.1, ?_⟩ hS1 (by rw [hc, List.length_set]) (by rw [hs, am_sl_set hca (by simp [am_csz])])
            rw [am_eh_set]
            exact hP1
    · cases he
  case lastore =>
    simp only [am_chk, Bool.and_eq_true, Bool.or_eq_true, decide_eq_true_eq, Nat.beq_eq] at hk
    obtain ⟨-, rfl⟩ := hk
    simp only [am_step] at he
    split at he
    · rename_i st1 h1 ho1
      cases he
      cases st with
      | nil => simp [am_ho] at ho1
      | cons x0 st =>
        cases x0 <;> try (simp [am_ho] at ho1; done)
        rename_i x0
        cases st with
        | nil => simp [am_ho] at ho1
        | cons x1 st =>
          cases x1 <;> try (simp [am_ho] at ho1; done)
          rename_i x1
          cases st with
          | nil => simp [am_ho] at ho1
          | cons x2 st =>
            cases x2 <;> try (simp [am_ho] at ho1; done)
            rename_i x2
            simp only [am_ho] at ho1
            split at ho1 <;> try (cases ho1; done)
            rename_i n1 f1 hca
            split at ho1 <;> try (cases ho1; done)
            rename_i hi
            cases ho1
            refine va_last (D := D) hx hb hK hP.2 hD hS x2 1 (am_eh_get hca) rfl (am_in_iff.mp hi) hd (fun H1 locs1 hP1 _ hS1 => ?_)
            refine kk LS H1 locs1 cells slots hl ⟨by rw [List.length_set]; exact hP.1, ?_⟩ hS1 (by rw [hc, List.length_set]) (by rw [hs, am_sl_set hca (by simp [am_csz])])
            rw [am_eh_set]
            exact hP1
    · cases he
  case bastore =>
    simp only [am_chk, Bool.and_eq_true, Bool.or_eq_true, decide_eq_true_eq, Nat.beq_eq] at hk
    obtain ⟨-, rfl⟩ := hk
    simp only [am_step] at he
    split at he
    · rename_i st1 h1 ho1
      cases he
      cases st with
      | nil => simp [am_ho] at ho1
      | cons x0 st =>
        cases x0 <;> try (simp [am_ho] at ho1; done)
        rename_i x0
        cases st with
        | nil => simp [am_ho] at ho1
        | cons x1 st =>
          cases x1 <;> try (simp [am_ho] at ho1; done)
          rename_i x1
          cases st with
          | nil => simp [am_ho] at ho1
          | cons x2 st =>
            cases x2 <;> try (simp [am_ho] at ho1; done)
            rename_i x2
            simp only [am_ho] at ho1
            split at ho1 <;> try (cases ho1; done)
            rename_i n1 f1 hca
            split at ho1 <;> try (cases ho1; done)
            rename_i hi
            cases ho1
            refine va_bast (D := D) hx hb hK hP.2 hD hS x2 2 (am_eh_get hca) rfl (am_in_iff.mp hi) hd (fun H1 locs1 hP1 _ hS1 => ?_)
            refine kk LS H1 locs1 cells slots hl ⟨by rw [List.length_set]; exact hP.1, ?_⟩ hS1 (by rw [hc, List.length_set]) (by rw [hs, am_sl_set hca (by simp [am_csz])])
            rw [am_eh_set]
            exact hP1
    · cases he
  case aaload =>
    simp only [am_chk, Bool.and_eq_true, Bool.or_eq_true, decide_eq_true_eq, Nat.beq_eq] at hk
    obtain ⟨-, rfl⟩ := hk
    simp only [am_step] at he
    split at he
    · rename_i st1 h1 ho1
      cases he
      cases st with
      | nil => simp [am_ho] at ho1
      | cons x0 st =>
        cases x0 <;> try (simp [am_ho] at ho1; done)
        rename_i x0
        cases st with
        | nil => simp [am_ho] at ho1
        | cons x1 st =>
          cases x1 <;> try (simp [am_ho] at ho1; done)
          rename_i x1
          simp only [am_ho] at ho1
          split at ho1 <;> try (cases ho1; done)
          rename_i t1 n1 f1 hca
          split at ho1 <;> try (cases ho1; done)
          rename_i hi
          cases ho1
          obtain ⟨ht, hi⟩ := hi
          have kk2 : W p l e R s m args below meth c H locs cells slots Q (F0 m (pc + 1) LS (va_rf ((fun j => (f1 j).map (am_ad base sp)) x0.toNatClampNeg) :: st.map (am_ev (am_ad base sp)))) := by
            have hz := kk LS H locs cells slots hl hP hS hc hs
            cases hf : f1 x0.toNatClampNeg with
            | none => rw [hf] at hz; simpa [va_rf, hf, am_ev] using hz
            | some y => rw [hf] at hz; simpa [va_rf, hf, am_ev] using hz
          rcases ht with rfl | rfl
          · exact va_aldq (D := D) hx hb hK hP.2 x1 3 (am_eh_get hca) rfl (am_in_iff.mp hi) hd kk2
          · exact va_aldq (D := D) hx hb hK hP.2 x1 4 (am_eh_get hca) rfl (am_in_iff.mp hi) hd kk2
    · cases he
  case aastore =>
    simp only [am_chk, Bool.and_eq_true, Bool.or_eq_true, decide_eq_true_eq, Nat.beq_eq] at hk
    obtain ⟨-, rfl⟩ := hk
    simp only [am_step] at he
    split at he
    · rename_i st1 h1 ho1
      cases he
      cases st with
      | nil => simp [am_ho] at ho1
      | cons x0 st =>
        cases x0 <;> try (simp [am_ho] at ho1; done)
        rename_i x0
        cases st with
        | nil => simp [am_ho] at ho1
        | cons x1 st =>
          cases x1 <;> try (simp [am_ho] at ho1; done)
          rename_i x1
          cases st with
          | nil => simp [am_ho] at ho1
          | cons x2 st =>
            cases x2 <;> try (simp [am_ho] at ho1; done)
            rename_i x2
            simp only [am_ho] at ho1
            split at ho1 <;> try (cases ho1; done)
            rename_i t1 n1 f1 c1 fs1 hca hcv
            split at ho1 <;> try (cases ho1; done)
            rename_i hi
            cases ho1
            obtain ⟨ht, rfl, hi⟩ := hi
            have kk2 : ∀ (H1 : Heap) (locs1 : List Loc), va_P D vwCl ((am_eh (am_ad base sp) tA h).set x2 (am_ad base sp x2, .inl (tA t1, n1, .inr (.inr (.inr (.inr (va_up (fun j => (f1 j).map (am_ad base sp)) x1.toNatClampNeg (some (am_ad base sp x0))))))))) H1 → va_D (am_Ar base) ((am_eh (am_ad base sp) tA h).set x2 (am_ad base sp x2, .inl (tA t1, n1, .inr (.inr (.inr (.inr (va_up (fun j => (f1 j).map (am_ad base sp)) x1.toNatClampNeg (some (am_ad base sp x0))))))))) → va_S (am_Ar base) s.heap H1 locs1 → W p l e R s m args below meth c H1 locs1 cells slots Q (F0 m (pc + 1) LS (st1.map (am_ev (am_ad base sp)))) := by
              intro H1 locs1 hP1 _ hS1
              refine kk LS H1 locs1 cells slots hl ⟨by rw [List.length_set]; exact hP.1, ?_⟩ hS1 (by rw [hc, List.length_set]) (by rw [hs, am_sl_set hca (by simp [am_csz])])
              rw [am_eh_set]
              have ef : (fun j => (va_up f1 x1.toNatClampNeg (some x0) j).map (am_ad base sp)) = va_up (fun j => (f1 j).map (am_ad base sp)) x1.toNatClampNeg (some (am_ad base sp x0)) := by
                funext j
                by_cases hj : j = x1.toNatClampNeg <;> simp [va_up, hj]
              show va_P D vwCl (List.set _ _ (_, .inl (tA t1, n1, .inr (.inr (.inr (.inr (fun j => (va_up f1 x1.toNatClampNeg (some x0) j).map (am_ad base sp)))))))) H1
              rw [ef]
              exact hP1
            rcases ht with rfl | rfl
            · exact va_astq (D := D) (r := (RX4, TX4, 18)) hx hb hK hP.2 hD hS x2 3 x0 (am_rc 3) (am_eh_get hca) rfl (am_eh_get hcv) rfl (am_in_iff.mp hi) hd kk2
            · exact va_astq (D := D) (r := (RX5, TX5, 7)) hx hb hK hP.2 hD hS x2 4 x0 (am_rc 4) (am_eh_get hca) rfl (am_eh_get hcv) rfl (am_in_iff.mp hi) hd kk2
    · cases he
  case arraylength =>
    simp only [am_chk, Bool.and_eq_true, Bool.or_eq_true, decide_eq_true_eq, Nat.beq_eq] at hk
    obtain ⟨-, rfl⟩ := hk
    simp only [am_step] at he
    split at he
    · rename_i st1 h1 ho1
      cases he
      cases st with
      | nil => simp [am_ho] at ho1
      | cons x0 st =>
        cases x0 <;> try (simp [am_ho] at ho1; done)
        rename_i x0
        simp only [am_ho] at ho1
        split at ho1 <;> try (cases ho1; done)
        rename_i ha
        subst ha
        cases ho1
        exact va_slen (b := sp 2000000) hx hb hX (by omega) hbX hS hd (kk LS H locs cells slots hl hP hS hc hs)
    · cases he
  case new x =>
    simp only [am_chk, Bool.and_eq_true, Bool.or_eq_true, decide_eq_true_eq, Nat.beq_eq] at hk
    obtain ⟨-, rfl, hf0⟩ := hk
    have hf := List.elem_iff.mp hf0
    simp only [am_step] at he
    split at he
    · rename_i st1 h1 ho1
      cases he
      simp only [am_ho] at ho1
      split at ho1 <;> try (cases ho1; done)
      rename_i hpl
      cases ho1
      obtain ⟨hp1, hlt⟩ := hpl
      have hcs : cells + 1 ≤ R.cells := by simp at hRc; omega
      have hss : slots + am_N p' ≤ R.slots := by rw [am_sl_app] at hRs; simp [am_csz, am_df] at hRs; omega
      refine va_new (D := D) hx hb hts (am_cls_in _ hp1) (am_ty p') (am_ty_ok _ hp1) hown (hts _ (am_tt (am_nl_in _ hf) rfl)) (hts _ (am_tt (am_inst_in _ (List.mem_range.mpr hp1)) rfl)) (hts _ (am_tt (am_ini_in _ (List.mem_range.mpr hp1)) rfl)) hK hP.2 hD hS (fun q hq => by unfold am_Ar; omega) (am_cls_at _ hp1) (fs := (am_df p').map (am_ev (am_ad base sp))) (am_df_ok p' (am_ad base sp)) hcs hss hd (fun q1 H1 hP1 hD1 hS1 => ?_)
      intro T hT X
      have hq := am_fresh hlt X hT hbs hc hP1 hD1
      subst hq
      exact kk LS H1 locs (cells + 1) (slots + am_N p') hl ⟨by rw [List.length_append]; simp; omega, by rw [am_eh_app]; exact hP1⟩ hS1 (by rw [List.length_append]; simp; omega) (by rw [am_sl_app]; simp [am_csz, am_df]; omega) T hT X
    · cases he
  case newarray t =>
    simp only [am_chk, Bool.and_eq_true, Bool.or_eq_true, decide_eq_true_eq, Nat.beq_eq] at hk
    obtain ⟨-, ⟨rfl, hty⟩, hp3⟩ := hk
    simp only [am_step] at he
    split at he
    · rename_i st1 h1 ho1
      cases he
      cases st with
      | nil => simp [am_ho] at ho1
      | cons x0 st =>
        cases x0 <;> try (simp [am_ho] at ho1; done)
        rename_i x0
        simp only [am_ho] at ho1
        split at ho1 <;> try (cases ho1; done)
        rename_i hneg
        have hng : ¬ x0 < 0 := fun z => hneg (Or.inl z)
        have h65 : x0.toNatClampNeg ≤ 65536 := by omega
        have hlt : h.length < 1000000 := by omega
        split at ho1
        · cases ho1
          have hcs : cells + 1 ≤ R.cells := by simp at hRc; omega
          have hss : slots + x0.toNatClampNeg ≤ R.slots := by rw [am_sl_app] at hRs; simp [am_csz] at hRs; omega
          refine va_newa (D := D) (atype := t) (ty := .int) (a0 := (x0.toNatClampNeg, .inl (fun _ => 0))) hx hb (by rw [hty]; exact hAC 0 (by decide)) (by rw [hty]; rfl) hK hP.2 hD hS (fun q hq => by unfold am_Ar; omega) (fun cA => rfl) hng rfl (by simp [componentBytes]; omega) hcs hss hd (fun q1 cA H1 hK1 hP1 hD1 hS1 => ?_)
          have hcA : cA = tA 0 := am_tA1 (ty := .int) hK hK1 0 rfl (fun C z => FieldType.noConfusion z)
          subst hcA
          intro T hT X
          have hq := am_fresh hlt X hT hbs hc hP1 hD1
          subst hq
          exact kk LS H1 locs (cells + 1) (slots + x0.toNatClampNeg) hl ⟨by rw [List.length_append]; simp; omega, by rw [am_eh_app]; exact hP1⟩ hS1 (by rw [List.length_append]; simp; omega) (by rw [am_sl_app]; simp [am_csz]; omega) T hT X
        · cases ho1
          have hcs : cells + 1 ≤ R.cells := by simp at hRc; omega
          have hss : slots + x0.toNatClampNeg ≤ R.slots := by rw [am_sl_app] at hRs; simp [am_csz] at hRs; omega
          refine va_newa (D := D) (atype := t) (ty := .long) (a0 := (x0.toNatClampNeg, .inr (.inl (fun _ => 0)))) hx hb (by rw [hty]; exact hAC 1 (by decide)) (by rw [hty]; rfl) hK hP.2 hD hS (fun q hq => by unfold am_Ar; omega) (fun cA => rfl) hng rfl (by simp [componentBytes]; omega) hcs hss hd (fun q1 cA H1 hK1 hP1 hD1 hS1 => ?_)
          have hcA : cA = tA 1 := am_tA1 (ty := .long) hK hK1 1 rfl (fun C z => FieldType.noConfusion z)
          subst hcA
          intro T hT X
          have hq := am_fresh hlt X hT hbs hc hP1 hD1
          subst hq
          exact kk LS H1 locs (cells + 1) (slots + x0.toNatClampNeg) hl ⟨by rw [List.length_append]; simp; omega, by rw [am_eh_app]; exact hP1⟩ hS1 (by rw [List.length_append]; simp; omega) (by rw [am_sl_app]; simp [am_csz]; omega) T hT X
        · cases ho1
          have hcs : cells + 1 ≤ R.cells := by simp at hRc; omega
          have hss : slots + x0.toNatClampNeg ≤ R.slots := by rw [am_sl_app] at hRs; simp [am_csz] at hRs; omega
          refine va_newa (D := D) (atype := t) (ty := .byte) (a0 := (x0.toNatClampNeg, .inl (fun _ => 0))) hx hb (by rw [hty]; exact hAC 2 (by decide)) (by rw [hty]; rfl) hK hP.2 hD hS (fun q hq => by unfold am_Ar; omega) (fun cA => rfl) hng rfl (by simp [componentBytes]; omega) hcs hss hd (fun q1 cA H1 hK1 hP1 hD1 hS1 => ?_)
          have hcA : cA = tA 2 := am_tA1 (ty := .byte) hK hK1 2 rfl (fun C z => FieldType.noConfusion z)
          subst hcA
          intro T hT X
          have hq := am_fresh hlt X hT hbs hc hP1 hD1
          subst hq
          exact kk LS H1 locs (cells + 1) (slots + x0.toNatClampNeg) hl ⟨by rw [List.length_append]; simp; omega, by rw [am_eh_app]; exact hP1⟩ hS1 (by rw [List.length_append]; simp; omega) (by rw [am_sl_app]; simp [am_csz]; omega) T hT X
        · cases ho1
    · cases he
  case anewarray x =>
    simp only [am_chk, Bool.and_eq_true, Bool.or_eq_true, decide_eq_true_eq, Nat.beq_eq] at hk
    obtain ⟨-, rfl, hf0⟩ := hk
    have hf := List.elem_iff.mp hf0
    simp only [am_step] at he
    split at he
    · rename_i st1 h1 ho1
      cases he
      cases st with
      | nil => simp [am_ho] at ho1
      | cons x0 st =>
        cases x0 <;> try (simp [am_ho] at ho1; done)
        rename_i x0
        simp only [am_ho] at ho1
        split at ho1 <;> try (cases ho1; done)
        rename_i hneg
        have hng : ¬ x0 < 0 := fun z => hneg (Or.inl z)
        have h65 : x0.toNatClampNeg ≤ 65536 := by omega
        have hlt : h.length < 1000000 := by omega
        split at ho1 <;> try (cases ho1; done)
        rename_i hp34
        cases ho1
        have hcs : cells + 1 ≤ R.cells := by simp at hRc; omega
        have hss : slots + x0.toNatClampNeg ≤ R.slots := by rw [am_sl_app] at hRs; simp [am_csz] at hRs; omega
        rcases hp34 with rfl | rfl
        · refine va_newq (D := D) hx hb hown (hts _ (am_tt (am_al_in _ hf) rfl)) hAO4 hK hP.2 hD hS (fun q hq => by unfold am_Ar; omega) hng rfl (by omega) hcs hss hd (fun q1 cA H1 hK1 hP1 hD1 hS1 => ?_)
          have hcA : cA = tA 3 := am_tA2 hK hK1 3 rfl
          subst hcA
          intro T hT X
          have hq := am_fresh hlt X hT hbs hc hP1 hD1
          subst hq
          exact kk LS H1 locs (cells + 1) (slots + x0.toNatClampNeg) hl ⟨by rw [List.length_append]; simp; omega, by rw [am_eh_app]; exact hP1⟩ hS1 (by rw [List.length_append]; simp; omega) (by rw [am_sl_app]; simp [am_csz]; omega) T hT X
        · refine va_newq (D := D) hx hb hown (hts _ (am_tt (am_al_in _ hf) rfl)) hAO5 hK hP.2 hD hS (fun q hq => by unfold am_Ar; omega) hng rfl (by omega) hcs hss hd (fun q1 cA H1 hK1 hP1 hD1 hS1 => ?_)
          have hcA : cA = tA 4 := am_tA2 hK hK1 4 rfl
          subst hcA
          intro T hT X
          have hq := am_fresh hlt X hT hbs hc hP1 hD1
          subst hq
          exact kk LS H1 locs (cells + 1) (slots + x0.toNatClampNeg) hl ⟨by rw [List.length_append]; simp; omega, by rw [am_eh_app]; exact hP1⟩ hS1 (by rw [List.length_append]; simp; omega) (by rw [am_sl_app]; simp [am_csz]; omega) T hT X
    · cases he
end AMW
