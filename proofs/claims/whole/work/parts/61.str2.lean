theorem sd_J0_length_8abf5_0 : decode cJ0_length_8abf5 0 = .ok (.aload_n 0, 1) := by decide +kernel
theorem sd_J0_length_8abf5_1 : decode cJ0_length_8abf5 1 = .ok (.getfield 9, 3) := by decide +kernel
theorem sd_J0_length_8abf5_4 : decode cJ0_length_8abf5 4 = .ok (.arraylength, 1) := by decide +kernel
theorem sd_J0_length_8abf5_5 : decode cJ0_length_8abf5 5 = .ok (.aload_n 0, 1) := by decide +kernel
theorem sd_J0_length_8abf5_6 : decode cJ0_length_8abf5 6 = .ok (.invokevirtual 335, 3) := by decide +kernel
theorem sd_J0_length_8abf5_9 : decode cJ0_length_8abf5 9 = .ok (.ishr, 1) := by decide +kernel
theorem sd_J0_length_8abf5_10 : decode cJ0_length_8abf5 10 = .ok (.ireturn, 1) := by decide +kernel
theorem sd_J0_isLatin1_aae02_0 : decode cJ0_isLatin1_aae02 0 = .ok (.getstatic 38, 3) := by decide +kernel
theorem sd_J0_isLatin1_aae02_3 : decode cJ0_isLatin1_aae02 3 = .ok (.ifCond .eq 14, 3) := by decide +kernel
theorem sd_J0_isLatin1_aae02_6 : decode cJ0_isLatin1_aae02 6 = .ok (.aload_n 0, 1) := by decide +kernel
theorem sd_J0_isLatin1_aae02_7 : decode cJ0_isLatin1_aae02 7 = .ok (.getfield 15, 3) := by decide +kernel
theorem sd_J0_isLatin1_aae02_10 : decode cJ0_isLatin1_aae02 10 = .ok (.ifCond .ne 7, 3) := by decide +kernel
theorem sd_J0_isLatin1_aae02_13 : decode cJ0_isLatin1_aae02 13 = .ok (.iconst 1, 1) := by decide +kernel
theorem sd_J0_isLatin1_aae02_14 : decode cJ0_isLatin1_aae02 14 = .ok (.goto 4, 3) := by decide +kernel
theorem sd_J0_isLatin1_aae02_18 : decode cJ0_isLatin1_aae02 18 = .ok (.ireturn, 1) := by decide +kernel
theorem sd_J3_checkIndex_8e157_0 : decode cJ3_checkIndex_8e157 0 = .ok (.iload_n 0, 1) := by decide +kernel
theorem sd_J3_checkIndex_8e157_1 : decode cJ3_checkIndex_8e157 1 = .ok (.ifCond .lt 8, 3) := by decide +kernel
theorem sd_J3_checkIndex_8e157_4 : decode cJ3_checkIndex_8e157 4 = .ok (.iload_n 0, 1) := by decide +kernel
theorem sd_J3_checkIndex_8e157_5 : decode cJ3_checkIndex_8e157 5 = .ok (.iload_n 1, 1) := by decide +kernel
theorem sd_J3_checkIndex_8e157_6 : decode cJ3_checkIndex_8e157 6 = .ok (.if_icmp .lt 10, 3) := by decide +kernel
theorem sd_J3_checkIndex_8e157_16 : decode cJ3_checkIndex_8e157 16 = .ok (.iload_n 0, 1) := by decide +kernel
theorem sd_J3_checkIndex_8e157_17 : decode cJ3_checkIndex_8e157 17 = .ok (.ireturn, 1) := by decide +kernel
theorem sd_J0_checkIndex_df160_0 : decode cJ0_checkIndex_df160 0 = .ok (.iload_n 0, 1) := by decide +kernel
theorem sd_J0_checkIndex_df160_1 : decode cJ0_checkIndex_df160 1 = .ok (.iload_n 1, 1) := by decide +kernel
theorem sd_J0_checkIndex_df160_2 : decode cJ0_checkIndex_df160 2 = .ok (.getstatic 1053, 3) := by decide +kernel
theorem sd_J0_checkIndex_df160_5 : decode cJ0_checkIndex_df160 5 = .ok (.invokestatic 1059, 3) := by decide +kernel
theorem sd_J0_checkIndex_df160_8 : decode cJ0_checkIndex_df160 8 = .ok (.pop, 1) := by decide +kernel
theorem sd_J0_checkIndex_df160_9 : decode cJ0_checkIndex_df160 9 = .ok (.return_, 1) := by decide +kernel
theorem sd_J1_charAt_3b067_0 : decode cJ1_charAt_3b067 0 = .ok (.iload_n 1, 1) := by decide +kernel
theorem sd_J1_charAt_3b067_1 : decode cJ1_charAt_3b067 1 = .ok (.aload_n 0, 1) := by decide +kernel
theorem sd_J1_charAt_3b067_2 : decode cJ1_charAt_3b067 2 = .ok (.arraylength, 1) := by decide +kernel
theorem sd_J1_charAt_3b067_3 : decode cJ1_charAt_3b067 3 = .ok (.invokestatic 9, 3) := by decide +kernel
theorem sd_J1_charAt_3b067_6 : decode cJ1_charAt_3b067 6 = .ok (.aload_n 0, 1) := by decide +kernel
theorem sd_J1_charAt_3b067_7 : decode cJ1_charAt_3b067 7 = .ok (.iload_n 1, 1) := by decide +kernel
theorem sd_J1_charAt_3b067_8 : decode cJ1_charAt_3b067 8 = .ok (.baload, 1) := by decide +kernel
theorem sd_J1_charAt_3b067_9 : decode cJ1_charAt_3b067 9 = .ok (.sipush 255, 3) := by decide +kernel
theorem sd_J1_charAt_3b067_12 : decode cJ1_charAt_3b067 12 = .ok (.iand, 1) := by decide +kernel
theorem sd_J1_charAt_3b067_13 : decode cJ1_charAt_3b067 13 = .ok (.i2c, 1) := by decide +kernel
theorem sd_J1_charAt_3b067_14 : decode cJ1_charAt_3b067 14 = .ok (.ireturn, 1) := by decide +kernel
theorem sd_J0_charAt_5068e_0 : decode cJ0_charAt_5068e 0 = .ok (.aload_n 0, 1) := by decide +kernel
theorem sd_J0_charAt_5068e_1 : decode cJ0_charAt_5068e 1 = .ok (.invokevirtual 492, 3) := by decide +kernel
theorem sd_J0_charAt_5068e_4 : decode cJ0_charAt_5068e 4 = .ok (.ifCond .eq 12, 3) := by decide +kernel
theorem sd_J0_charAt_5068e_7 : decode cJ0_charAt_5068e 7 = .ok (.aload_n 0, 1) := by decide +kernel
theorem sd_J0_charAt_5068e_8 : decode cJ0_charAt_5068e 8 = .ok (.getfield 9, 3) := by decide +kernel
theorem sd_J0_charAt_5068e_11 : decode cJ0_charAt_5068e 11 = .ok (.iload_n 1, 1) := by decide +kernel
theorem sd_J0_charAt_5068e_12 : decode cJ0_charAt_5068e 12 = .ok (.invokestatic 495, 3) := by decide +kernel
theorem sd_J0_charAt_5068e_15 : decode cJ0_charAt_5068e 15 = .ok (.ireturn, 1) := by decide +kernel
theorem sd_nlt {i : Int32} (h : am_in i 118 = true) : i.toNatClampNeg < 118 := Nat.not_le.mp fun z => am_in_iff.mp h (Or.inr z)
theorem sd_lt {i : Int32} (h : am_in i 118 = true) : i < 118 := by
  have h1 := sd_nlt h
  have h2 : i.toNatClampNeg = i.toInt.toNat := rfl
  have h3 : (118 : Int32).toInt = 118 := rfl
  rw [Int32.lt_iff_toInt_lt, h3]
  omega
theorem sd_w255 (k : Nat) (hk : k < 118) : ((am_words k &&& 255).toUInt32 % 65536).toInt32 = am_words k := by
  have h : ∀ k, k < 118 → ((am_words k &&& 255).toUInt32 % 65536).toInt32 = am_words k := by decide +kernel
  exact h k hk
theorem sd_wn (k : Nat) (hk : k < 118) : narrow .char (.int (am_words k)) = .int (am_words k) := by
  have h : ∀ k, k < 118 → narrow .char (.int (am_words k)) = .int (am_words k) := by decide +kernel
  exact h k hk
theorem sd_lnk2 : ∀ w ∈ ([.fieldLink RJ0 1053 "jdk/internal/util/Preconditions" "SIOOBE_FORMATTER" "Ljava/util/function/BiFunction;",
 .methodLink RJ0 335 yJ0_coder_7d493, .instanceMethod yJ0_coder_7d493, .selects RJ0 yJ0_coder_7d493 yJ0_coder_7d493, .initialized RJ0, .code yJ0_coder_7d493 cJ0_coder_7d493 1 (some .byte),
 .methodLink RJ0 492 yJ0_isLatin1_aae02, .instanceMethod yJ0_isLatin1_aae02, .selects RJ0 yJ0_isLatin1_aae02 yJ0_isLatin1_aae02, .code yJ0_isLatin1_aae02 cJ0_isLatin1_aae02 1 (some .boolean),
 .methodLink RJ0 1059 yJ3_checkIndex_8e157, .static yJ3_checkIndex_8e157, .initialized RJ3, .code yJ3_checkIndex_8e157 cJ3_checkIndex_8e157 3 (some .int),
 .methodLink RJ1 9 yJ0_checkIndex_df160, .static yJ0_checkIndex_df160, .code yJ0_checkIndex_df160 cJ0_checkIndex_df160 2 none,
 .methodLink RJ0 495 yJ1_charAt_3b067, .static yJ1_charAt_3b067, .initialized RJ1, .code yJ1_charAt_3b067 cJ1_charAt_3b067 2 (some .char),
 .methodLink RX8 47 yJ0_length_8abf5, .instanceMethod yJ0_length_8abf5, .selects RJ0 yJ0_length_8abf5 yJ0_length_8abf5, .code yJ0_length_8abf5 cJ0_length_8abf5 1 (some .int),
 .methodLink RX8 53 yJ0_charAt_5068e, .instanceMethod yJ0_charAt_5068e, .selects RJ0 yJ0_charAt_5068e yJ0_charAt_5068e, .code yJ0_charAt_5068e cJ0_charAt_5068e 2 (some .char)] : List Cond), w ∈ am_TT := by decide +kernel
theorem sd_l2 (i : Nat) {w : Cond} (h : ([.fieldLink RJ0 1053 "jdk/internal/util/Preconditions" "SIOOBE_FORMATTER" "Ljava/util/function/BiFunction;",
 .methodLink RJ0 335 yJ0_coder_7d493, .instanceMethod yJ0_coder_7d493, .selects RJ0 yJ0_coder_7d493 yJ0_coder_7d493, .initialized RJ0, .code yJ0_coder_7d493 cJ0_coder_7d493 1 (some .byte),
 .methodLink RJ0 492 yJ0_isLatin1_aae02, .instanceMethod yJ0_isLatin1_aae02, .selects RJ0 yJ0_isLatin1_aae02 yJ0_isLatin1_aae02, .code yJ0_isLatin1_aae02 cJ0_isLatin1_aae02 1 (some .boolean),
 .methodLink RJ0 1059 yJ3_checkIndex_8e157, .static yJ3_checkIndex_8e157, .initialized RJ3, .code yJ3_checkIndex_8e157 cJ3_checkIndex_8e157 3 (some .int),
 .methodLink RJ1 9 yJ0_checkIndex_df160, .static yJ0_checkIndex_df160, .code yJ0_checkIndex_df160 cJ0_checkIndex_df160 2 none,
 .methodLink RJ0 495 yJ1_charAt_3b067, .static yJ1_charAt_3b067, .initialized RJ1, .code yJ1_charAt_3b067 cJ1_charAt_3b067 2 (some .char),
 .methodLink RX8 47 yJ0_length_8abf5, .instanceMethod yJ0_length_8abf5, .selects RJ0 yJ0_length_8abf5 yJ0_length_8abf5, .code yJ0_length_8abf5 cJ0_length_8abf5 1 (some .int),
 .methodLink RX8 53 yJ0_charAt_5068e, .instanceMethod yJ0_charAt_5068e, .selects RJ0 yJ0_charAt_5068e yJ0_charAt_5068e, .code yJ0_charAt_5068e cJ0_charAt_5068e 2 (some .char)] : List Cond)[i]? = some w) : w ∈ am_TT := sd_lnk2 _ (List.mem_of_getElem? h)
theorem sd_blind {base : Nat} {sp : Nat → Nat} {as : List Value} : FrameBlind (va_Pc as (sd_S base sp)) := by
  intro a U g mk hp
  obtain ⟨h1, e1, e2, e3⟩ := hp
  exact ⟨h1, vk_S.moved (u := U) (U := U.calling g mk a) (Vm.Alike.refl U.vm) e1, va_Z.moved (u := U) (U := U.calling g mk a) (Vm.Alike.refl U.vm) e2, va_Zq.moved (u := U) (U := U.calling g mk a) (Vm.Alike.refl U.vm) e3⟩
theorem sd_call {base : Nat} {sp : Nat → Nat} {s U : State} {H : Heap} {locs : List Loc} (hE : sd_S base sp s) (hS : va_S (am_Ar base) s.heap H locs) (hU : U.heap = H) (hW : s.WarmedH U.vm) : sd_S base sp U := by
  obtain ⟨e1, e2, e3⟩ := hE
  have hq : ∀ a : Nat, a < s.heap.size → ¬ am_Ar base a → U.heap[a]? = s.heap[a]? := fun a h1 h2 => by rw [hU]; exact hS.2.1 a h1 h2
  exact ⟨(vk_S.moved hW.alike e1).kept hq, (va_Z.moved hW.alike e2).kept hq, (va_Zq.moved hW.alike e3).kept hq⟩
theorem sd_good {y : MethodName} {b : ByteArray} {n : Nat} {rt : Option FieldType} (hm : Cond.code y b n rt ∈ am_TT) {ws : List Cond} (hw : ∀ w ∈ ws, w ∈ am_TT) : GoodIn am_TT (ws ++ sd_w y b n rt) := by
  intro w h
  have h1 : w ∈ am_TT := by
    rcases List.mem_append.mp h with h | h
    · exact hw w h
    · rcases List.mem_cons.mp h with rfl | h
      · exact hm
      · exact h
  exact ⟨h1, good_of_word (am_tt_mem h1).2⟩
theorem sd_run {p : Program} {l : Launch} {e : Env} {R : Room} {s : State} {m : MethodId} {args : Array Value} {below : List Frame} {meth : Method} {c : Code} {Q : State → Prop} {H : Heap} {locs : List Loc} {cells slots pc : Nat} {LS : Array Slot} {st rest : List Value} {a : Array Value} {post : Int32 → Prop}
    (hr : va_Run p l e R s m args below meth c H locs cells slots 0 0 (F0 m pc LS st) rest (vp_Si post a) (fun _ => False))
    (kk : ∀ r, post r → W p l e R s m args below meth c H locs cells slots Q (F0 m (pc + 3) LS (.int r :: rest))) : W p l e R s m args below meth c H locs cells slots Q (F0 m pc LS st) := by
  refine am_run hr (fun v st₀ t H1 L1 h0 hq ht hL => ?_)
  obtain ⟨r, h1, h2, h3⟩ := hq
  cases h1
  have e1 : L1 = [] := by
    cases L1 with
    | nil => rfl
    | cons q _ => exact absurd (hL q (List.mem_cons_self ..)) id
  subst e1
  have e2 : H1 = H := by rw [← ht, h3, h0]
  subst e2
  rw [List.append_nil]
  exact kk r h2
/-- a void method that leaves the heap as it is -/
def sd_Sv : Array Value → State → Outcome → State → Prop := fun _ st o t => o = .returned none ∧ t.heap = st.heap
theorem sd_runv {p : Program} {l : Launch} {e : Env} {R : Room} {s : State} {m : MethodId} {args : Array Value} {below : List Frame} {meth : Method} {c : Code} {Q : State → Prop} {H : Heap} {locs : List Loc} {cells slots pc : Nat} {LS : Array Slot} {st rest : List Value} {a : Array Value}
    (hr : va_Run p l e R s m args below meth c H locs cells slots 0 0 (F0 m pc LS st) rest (sd_Sv a) (fun _ => False))
    (kk : W p l e R s m args below meth c H locs cells slots Q (F0 m (pc + 3) LS rest)) : W p l e R s m args below meth c H locs cells slots Q (F0 m pc LS st) := by
  refine am_run hr (fun v st₀ t H1 L1 h0 hq ht hL => ?_)
  obtain ⟨h1, h3⟩ := hq
  cases h1
  have e1 : L1 = [] := by
    cases L1 with
    | nil => rfl
    | cons q _ => exact absurd (hL q (List.mem_cons_self ..)) id
  subst e1
  have e2 : H1 = H := by rw [← ht, h3, h0]
  subst e2
  rw [List.append_nil]
  exact kk
set_option maxHeartbeats 4000000 in
theorem sd_length (l : Launch) (base : Nat) (sp : Nat → Nat) : Met l yJ0_length_8abf5 (sd_w yJ0_length_8abf5 cJ0_length_8abf5 1 (some .int)) { frames := 2, cells := 0, slots := 0, locals := 60 } (va_Pc [.ref (sp 1000000)] (sd_S base sp)) (vp_Si (fun r => r = 118)) 0 0 (fun _ => False) := by
  refine Met.ofW (cc := cJ0_length_8abf5) (maxL := 1) (ret := (some .int)) (by decide) rfl ?_
  intro p e s m args below meth c s₁ B hml hv
  obtain ⟨rfl, hE, hZ, hZq⟩ := hv
  have hx := B.exec
  have hb := B.bytes
  have hr := B.returns
  have hts0 := atoms_spec (ws := sd_w yJ0_length_8abf5 cJ0_length_8abf5 1 (some .int)) B.pre
  have hts : ∀ w ∈ am_TT, w.before (#[.ref (sp 1000000)] : Array Value) s = true := fun w hw => hts0 w (List.mem_cons_of_mem _ hw)
  have hown : s.vm.findClass RJ0 = some m.cls := findClass_of_methodNamed B.named
  have hlocks := B.notSynchronized
  have hS : va_S (am_Ar base) s.heap s.heap [] := va_S.rf
  have hl := lv_entry ([.ref (sp 1000000)]) (n := 1) (Nat.le_of_ble_eq_true rfl)
  rw [lg_entry_eq]
  generalize (lg_sl ([.ref (sp 1000000)]) ++ List.replicate (1 - (lg_sl ([.ref (sp 1000000)])).length) Slot.unset).toArray = ls at hl ⊢
  have hl : lv_has ls 1 [(0, .ref (sp 1000000))] := hl
  refine lv_aload_n hx hb sd_J0_length_8abf5_0 rfl (lv_at hl 0 rfl) ?_
  refine vk_getf hx hb ((hE.1 0 (by decide)).2.2.1) hS hown (hts _ (sd_lnk _ (by simp [RJ0]))) (fun _ h => h) sd_J0_length_8abf5_1 ?_
  refine va_tlen hx hb ((hE.1 0 (by decide)).2.2.2) hS (v := 118) (by decide) sd_J0_length_8abf5_4 ?_
  refine lv_aload_n hx hb sd_J0_length_8abf5_5 rfl (lv_at hl 0 rfl) ?_
  refine sd_run (va_runV (maxL := 1) (ret := (some .byte)) (bytes := cJ0_coder_7d493) (As := []) (rest := [.int 118]) ⟨hx, hb, hml, hown, hts⟩ (sd_coder l base sp) (cwV (ws' := am_TT) 0 hts (sd_good (sd_l2 5 rfl) (fun z hz => by
    rcases List.mem_cons.mp hz with rfl | hz
    · exact sd_l2 1 rfl
    rcases List.mem_cons.mp hz with rfl | hz
    · exact sd_l2 2 rfl
    rcases List.mem_cons.mp hz with rfl | hz
    · exact sd_l2 3 rfl
    rcases List.mem_cons.mp hz with rfl | hz
    · exact sd_l2 4 rfl
    cases hz)) rfl rfl rfl (by decide +kernel) ⟨Nat.le_of_ble_eq_true rfl, Nat.le_of_ble_eq_true rfl⟩) ⟨sd_blind, vk_recv hE (i := 0) (by decide) hS, fun U hU hW => ⟨rfl, sd_call ⟨hE, hZ, hZq⟩ hS hU hW⟩⟩ rfl rfl hl.1 rfl (lv_room (Nat.le_of_ble_eq_true rfl)) sd_J0_length_8abf5_6 ⟨Nat.zero_le _, Nat.zero_le _⟩) (fun r hr => ?_)
  subst hr
  refine lv_ishr hx hb sd_J0_length_8abf5_9 ?_
  exact W.zret (ty := .int) hx hb ‹_› rfl (fun t ht _ => ⟨_, rfl, by decide, ht⟩) (fun q hq => by cases hq) sd_J0_length_8abf5_10 hlocks
set_option maxHeartbeats 4000000 in
theorem sd_isLatin1 (l : Launch) (base : Nat) (sp : Nat → Nat) : Met l yJ0_isLatin1_aae02 (sd_w yJ0_isLatin1_aae02 cJ0_isLatin1_aae02 1 (some .boolean)) { frames := 1, cells := 0, slots := 0, locals := 20 } (va_Pc [.ref (sp 1000000)] (sd_S base sp)) (vp_Si (fun r => r = 1)) 0 0 (fun _ => False) := by
  refine Met.ofW (cc := cJ0_isLatin1_aae02) (maxL := 1) (ret := (some .boolean)) (by decide) rfl ?_
  intro p e s m args below meth c s₁ B hml hv
  obtain ⟨rfl, hE, hZ, hZq⟩ := hv
  have hx := B.exec
  have hb := B.bytes
  have hr := B.returns
  have hts0 := atoms_spec (ws := sd_w yJ0_isLatin1_aae02 cJ0_isLatin1_aae02 1 (some .boolean)) B.pre
  have hts : ∀ w ∈ am_TT, w.before (#[.ref (sp 1000000)] : Array Value) s = true := fun w hw => hts0 w (List.mem_cons_of_mem _ hw)
  have hown : s.vm.findClass RJ0 = some m.cls := findClass_of_methodNamed B.named
  have hlocks := B.notSynchronized
  have hS : va_S (am_Ar base) s.heap s.heap [] := va_S.rf
  have hl := lv_entry ([.ref (sp 1000000)]) (n := 1) (Nat.le_of_ble_eq_true rfl)
  rw [lg_entry_eq]
  generalize (lg_sl ([.ref (sp 1000000)]) ++ List.replicate (1 - (lg_sl ([.ref (sp 1000000)])).length) Slot.unset).toArray = ls at hl ⊢
  have hl : lv_has ls 1 [(0, .ref (sp 1000000))] := hl
  refine va_gets hx hb hZ hS hown (hts _ (sd_lnk _ (by simp [RJ0]))) (fun _ h => h) sd_J0_isLatin1_aae02_0 ?_
  refine lv_if_eq (tgt := 17) hx hb sd_J0_isLatin1_aae02_3 (by decide) (fun h => absurd h (by decide)) (fun _ => ?_)
  refine lv_aload_n hx hb sd_J0_isLatin1_aae02_6 rfl (lv_at hl 0 rfl) ?_
  refine vk_getf hx hb ((hE.1 0 (by decide)).2.1) hS hown (hts _ (sd_lnk _ (by simp [RJ0]))) (fun _ h => h) sd_J0_isLatin1_aae02_7 ?_
  refine lv_if_ne (tgt := 17) hx hb sd_J0_isLatin1_aae02_10 (by decide) (fun h => absurd rfl h) (fun _ => ?_)
  refine lv_iconst hx hb sd_J0_isLatin1_aae02_13 (v := 1) (by decide) ?_
  refine lv_goto (tgt := 18) hx hb sd_J0_isLatin1_aae02_14 (by decide) ?_
  exact W.zret (ty := .boolean) hx hb hr (by decide) (fun t ht _ => ⟨1, rfl, rfl, ht⟩) (fun q hq => by cases hq) sd_J0_isLatin1_aae02_18 hlocks
set_option maxHeartbeats 4000000 in
theorem sd_pre_n (l : Launch) (base : Nat) (sp : Nat → Nat) (i n : Int32) (hi : ¬ i < 0) (hn : i < n) : Met l yJ3_checkIndex_8e157 (sd_w yJ3_checkIndex_8e157 cJ3_checkIndex_8e157 3 (some .int)) { frames := 1, cells := 0, slots := 0, locals := 20 } (va_Pc [.int i, .int n, .null] (sd_S base sp)) (vp_Si (fun r => r = i)) 0 0 (fun _ => False) := by
  refine Met.ofW (cc := cJ3_checkIndex_8e157) (maxL := 3) (ret := (some .int)) (by decide) rfl ?_
  intro p e s m args below meth c s₁ B hml hv
  obtain ⟨rfl, hE, hZ, hZq⟩ := hv
  have hx := B.exec
  have hb := B.bytes
  have hr := B.returns
  have hts0 := atoms_spec (ws := sd_w yJ3_checkIndex_8e157 cJ3_checkIndex_8e157 3 (some .int)) B.pre
  have hts : ∀ w ∈ am_TT, w.before (#[.int i, .int n, .null] : Array Value) s = true := fun w hw => hts0 w (List.mem_cons_of_mem _ hw)
  have hown : s.vm.findClass RJ3 = some m.cls := findClass_of_methodNamed B.named
  have hlocks := B.notSynchronized
  have hS : va_S (am_Ar base) s.heap s.heap [] := va_S.rf
  have hl := lv_entry ([.int i, .int n, .null]) (n := 3) (Nat.le_of_ble_eq_true rfl)
  rw [lg_entry_eq]
  generalize (lg_sl ([.int i, .int n, .null]) ++ List.replicate (3 - (lg_sl ([.int i, .int n, .null])).length) Slot.unset).toArray = ls at hl ⊢
  have hl : lv_has ls 3 [(0, .int i), (1, .int n), (2, .null)] := hl
  refine lv_iload_n hx hb sd_J3_checkIndex_8e157_0 rfl (lv_at hl 0 rfl) ?_
  refine lv_if_lt (tgt := 9) hx hb sd_J3_checkIndex_8e157_1 (by decide) (fun h => absurd h hi) (fun _ => ?_)
  refine lv_iload_n hx hb sd_J3_checkIndex_8e157_4 rfl (lv_at hl 0 rfl) ?_
  refine lv_iload_n hx hb sd_J3_checkIndex_8e157_5 rfl (lv_at hl 1 rfl) ?_
  refine lv_icmp_lt (tgt := 16) hx hb sd_J3_checkIndex_8e157_6 (by decide) (fun _ => ?_) (fun h => absurd hn h)
  refine lv_iload_n hx hb sd_J3_checkIndex_8e157_16 rfl (lv_at hl 0 rfl) ?_
  exact W.zret (ty := .int) hx hb hr rfl (fun t ht _ => ⟨_, rfl, rfl, ht⟩) (fun q hq => by cases hq) sd_J3_checkIndex_8e157_17 hlocks
set_option maxHeartbeats 4000000 in
theorem sd_pre_r (l : Launch) (base : Nat) (sp : Nat → Nat) (i n : Int32) (t0 : Nat) (hi : ¬ i < 0) (hn : i < n) : Met l yJ3_checkIndex_8e157 (sd_w yJ3_checkIndex_8e157 cJ3_checkIndex_8e157 3 (some .int)) { frames := 1, cells := 0, slots := 0, locals := 20 } (va_Pc [.int i, .int n, .ref t0] (sd_S base sp)) (vp_Si (fun r => r = i)) 0 0 (fun _ => False) := by
  refine Met.ofW (cc := cJ3_checkIndex_8e157) (maxL := 3) (ret := (some .int)) (by decide) rfl ?_
  intro p e s m args below meth c s₁ B hml hv
  obtain ⟨rfl, hE, hZ, hZq⟩ := hv
  have hx := B.exec
  have hb := B.bytes
  have hr := B.returns
  have hts0 := atoms_spec (ws := sd_w yJ3_checkIndex_8e157 cJ3_checkIndex_8e157 3 (some .int)) B.pre
  have hts : ∀ w ∈ am_TT, w.before (#[.int i, .int n, .ref t0] : Array Value) s = true := fun w hw => hts0 w (List.mem_cons_of_mem _ hw)
  have hown : s.vm.findClass RJ3 = some m.cls := findClass_of_methodNamed B.named
  have hlocks := B.notSynchronized
  have hS : va_S (am_Ar base) s.heap s.heap [] := va_S.rf
  have hl := lv_entry ([.int i, .int n, .ref t0]) (n := 3) (Nat.le_of_ble_eq_true rfl)
  rw [lg_entry_eq]
  generalize (lg_sl ([.int i, .int n, .ref t0]) ++ List.replicate (3 - (lg_sl ([.int i, .int n, .ref t0])).length) Slot.unset).toArray = ls at hl ⊢
  have hl : lv_has ls 3 [(0, .int i), (1, .int n), (2, .ref t0)] := hl
  refine lv_iload_n hx hb sd_J3_checkIndex_8e157_0 rfl (lv_at hl 0 rfl) ?_
  refine lv_if_lt (tgt := 9) hx hb sd_J3_checkIndex_8e157_1 (by decide) (fun h => absurd h hi) (fun _ => ?_)
  refine lv_iload_n hx hb sd_J3_checkIndex_8e157_4 rfl (lv_at hl 0 rfl) ?_
  refine lv_iload_n hx hb sd_J3_checkIndex_8e157_5 rfl (lv_at hl 1 rfl) ?_
  refine lv_icmp_lt (tgt := 16) hx hb sd_J3_checkIndex_8e157_6 (by decide) (fun _ => ?_) (fun h => absurd hn h)
  refine lv_iload_n hx hb sd_J3_checkIndex_8e157_16 rfl (lv_at hl 0 rfl) ?_
  exact W.zret (ty := .int) hx hb hr rfl (fun t ht _ => ⟨_, rfl, rfl, ht⟩) (fun q hq => by cases hq) sd_J3_checkIndex_8e157_17 hlocks
set_option maxHeartbeats 4000000 in
theorem sd_check (l : Launch) (base : Nat) (sp : Nat → Nat) (i n : Int32) (hi : ¬ i < 0) (hn : i < n) : Met l yJ0_checkIndex_df160 (sd_w yJ0_checkIndex_df160 cJ0_checkIndex_df160 2 none) { frames := 2, cells := 0, slots := 0, locals := 60 } (va_Pc [.int i, .int n] (sd_S base sp)) (sd_Sv) 0 0 (fun _ => False) := by
  refine Met.ofW (cc := cJ0_checkIndex_df160) (maxL := 2) (ret := none) (by decide) rfl ?_
  intro p e s m args below meth c s₁ B hml hv
  obtain ⟨rfl, hE, hZ, hZq⟩ := hv
  have hx := B.exec
  have hb := B.bytes
  have hr := B.returns
  have hts0 := atoms_spec (ws := sd_w yJ0_checkIndex_df160 cJ0_checkIndex_df160 2 none) B.pre
  have hts : ∀ w ∈ am_TT, w.before (#[.int i, .int n] : Array Value) s = true := fun w hw => hts0 w (List.mem_cons_of_mem _ hw)
  have hown : s.vm.findClass RJ0 = some m.cls := findClass_of_methodNamed B.named
  have hlocks := B.notSynchronized
  have hS : va_S (am_Ar base) s.heap s.heap [] := va_S.rf
  have hl := lv_entry ([.int i, .int n]) (n := 2) (Nat.le_of_ble_eq_true rfl)
  rw [lg_entry_eq]
  generalize (lg_sl ([.int i, .int n]) ++ List.replicate (2 - (lg_sl ([.int i, .int n])).length) Slot.unset).toArray = ls at hl ⊢
  have hl : lv_has ls 2 [(0, .int i), (1, .int n)] := hl
  refine lv_iload_n hx hb sd_J0_checkIndex_df160_0 rfl (lv_at hl 0 rfl) ?_
  refine lv_iload_n hx hb sd_J0_checkIndex_df160_1 rfl (lv_at hl 1 rfl) ?_
  have hzq := id hZq
  rcases hzq with hz | ⟨t0, hz⟩
  · refine va_gets hx hb hz hS hown (hts _ (sd_l2 0 rfl)) (fun _ h => h) sd_J0_checkIndex_df160_2 ?_
    refine sd_run (va_runS (maxL := 3) (ret := (some .int)) (bytes := cJ3_checkIndex_8e157) (As := [.int i, .int n, .null]) (rest := []) ⟨hx, hb, hml, hown, hts⟩ (sd_pre_n l base sp i n hi hn) (va_cwS (ws' := am_TT) 3 hts (sd_good (sd_l2 13 rfl) (fun z hz => by
      rcases List.mem_cons.mp hz with rfl | hz
      · exact sd_l2 10 rfl
      rcases List.mem_cons.mp hz with rfl | hz
      · exact sd_l2 11 rfl
      rcases List.mem_cons.mp hz with rfl | hz
      · exact sd_l2 12 rfl
      cases hz)) rfl rfl rfl (by decide +kernel) ⟨Nat.le_of_ble_eq_true rfl, Nat.le_of_ble_eq_true rfl⟩) ⟨sd_blind, fun U hU hW => ⟨rfl, sd_call ⟨hE, hZ, hZq⟩ hS hU hW⟩⟩ rfl rfl hl.1 rfl (lv_room (Nat.le_of_ble_eq_true rfl)) sd_J0_checkIndex_df160_5 ⟨Nat.zero_le _, Nat.zero_le _⟩) (fun r hr => ?_)
    refine lv_pop hx hb sd_J0_checkIndex_df160_8 rfl ?_
    exact W.vret hx hb ‹meth.sig.returnType = none› (fun t ht _ => ⟨rfl, ht⟩) (fun q hq => by cases hq) sd_J0_checkIndex_df160_9 hlocks
  · refine va_gets hx hb hz hS hown (hts _ (sd_l2 0 rfl)) (fun _ h => h) sd_J0_checkIndex_df160_2 ?_
    refine sd_run (va_runS (maxL := 3) (ret := (some .int)) (bytes := cJ3_checkIndex_8e157) (As := [.int i, .int n, .ref t0]) (rest := []) ⟨hx, hb, hml, hown, hts⟩ (sd_pre_r l base sp i n t0 hi hn) (va_cwS (ws' := am_TT) 3 hts (sd_good (sd_l2 13 rfl) (fun z hz => by
      rcases List.mem_cons.mp hz with rfl | hz
      · exact sd_l2 10 rfl
      rcases List.mem_cons.mp hz with rfl | hz
      · exact sd_l2 11 rfl
      rcases List.mem_cons.mp hz with rfl | hz
      · exact sd_l2 12 rfl
      cases hz)) rfl rfl rfl (by decide +kernel) ⟨Nat.le_of_ble_eq_true rfl, Nat.le_of_ble_eq_true rfl⟩) ⟨sd_blind, fun U hU hW => ⟨rfl, sd_call ⟨hE, hZ, hZq⟩ hS hU hW⟩⟩ rfl rfl hl.1 rfl (lv_room (Nat.le_of_ble_eq_true rfl)) sd_J0_checkIndex_df160_5 ⟨Nat.zero_le _, Nat.zero_le _⟩) (fun r hr => ?_)
    refine lv_pop hx hb sd_J0_checkIndex_df160_8 rfl ?_
    exact W.vret hx hb ‹meth.sig.returnType = none› (fun t ht _ => ⟨rfl, ht⟩) (fun q hq => by cases hq) sd_J0_checkIndex_df160_9 hlocks
set_option maxHeartbeats 4000000 in
theorem sd_lat (l : Launch) (base : Nat) (sp : Nat → Nat) (i : Int32) (hi : am_in i 118 = true) : Met l yJ1_charAt_3b067 (sd_w yJ1_charAt_3b067 cJ1_charAt_3b067 2 (some .char)) { frames := 3, cells := 0, slots := 0, locals := 100 } (va_Pc [.ref (sp 1000001), .int i] (sd_S base sp)) (vp_Si (fun r => r = am_words i.toNatClampNeg)) 0 0 (fun _ => False) := by
  refine Met.ofW (cc := cJ1_charAt_3b067) (maxL := 2) (ret := (some .char)) (by decide) rfl ?_
  intro p e s m args below meth c s₁ B hml hv
  obtain ⟨rfl, hE, hZ, hZq⟩ := hv
  have hx := B.exec
  have hb := B.bytes
  have hr := B.returns
  have hts0 := atoms_spec (ws := sd_w yJ1_charAt_3b067 cJ1_charAt_3b067 2 (some .char)) B.pre
  have hts : ∀ w ∈ am_TT, w.before (#[.ref (sp 1000001), .int i] : Array Value) s = true := fun w hw => hts0 w (List.mem_cons_of_mem _ hw)
  have hown : s.vm.findClass RJ1 = some m.cls := findClass_of_methodNamed B.named
  have hlocks := B.notSynchronized
  have hS : va_S (am_Ar base) s.heap s.heap [] := va_S.rf
  have hl := lv_entry ([.ref (sp 1000001), .int i]) (n := 2) (Nat.le_of_ble_eq_true rfl)
  rw [lg_entry_eq]
  generalize (lg_sl ([.ref (sp 1000001), .int i]) ++ List.replicate (2 - (lg_sl ([.ref (sp 1000001), .int i])).length) Slot.unset).toArray = ls at hl ⊢
  have hl : lv_has ls 2 [(0, .ref (sp 1000001)), (1, .int i)] := hl
  have hin := am_in_iff.mp hi
  refine lv_iload_n hx hb sd_J1_charAt_3b067_0 rfl (lv_at hl 1 rfl) ?_
  refine lv_aload_n hx hb sd_J1_charAt_3b067_1 rfl (lv_at hl 0 rfl) ?_
  refine va_tlen hx hb ((hE.1 0 (by decide)).2.2.2) hS (v := 118) (by decide) sd_J1_charAt_3b067_2 ?_
  refine sd_runv (va_runS (maxL := 2) (ret := none) (bytes := cJ0_checkIndex_df160) (As := [.int i, .int 118]) (rest := []) ⟨hx, hb, hml, hown, hts⟩ (sd_check l base sp i 118 (fun h => hin (Or.inl h)) (sd_lt hi)) (va_cwS (ws' := am_TT) 2 hts (sd_good (sd_l2 16 rfl) (fun z hz => by
    rcases List.mem_cons.mp hz with rfl | hz
    · exact sd_l2 14 rfl
    rcases List.mem_cons.mp hz with rfl | hz
    · exact sd_l2 15 rfl
    rcases List.mem_cons.mp hz with rfl | hz
    · exact sd_l2 4 rfl
    cases hz)) rfl rfl rfl (by decide +kernel) ⟨Nat.le_of_ble_eq_true rfl, Nat.le_of_ble_eq_true rfl⟩) ⟨sd_blind, fun U hU hW => ⟨rfl, sd_call ⟨hE, hZ, hZq⟩ hS hU hW⟩⟩ rfl rfl hl.1 rfl (lv_room (Nat.le_of_ble_eq_true rfl)) sd_J1_charAt_3b067_3 ⟨Nat.zero_le _, Nat.zero_le _⟩) ?_
  refine lv_aload_n hx hb sd_J1_charAt_3b067_6 rfl (lv_at hl 0 rfl) ?_
  refine lv_iload_n hx hb sd_J1_charAt_3b067_7 rfl (lv_at hl 1 rfl) ?_
  refine va_tb hx hb ((hE.1 0 (by decide)).2.2.2) hS hin (v := .int (am_words i.toNatClampNeg)) rfl sd_J1_charAt_3b067_8 ?_
  refine lv_sipush hx hb sd_J1_charAt_3b067_9 (v := 255) (by decide) ?_
  refine lv_iand hx hb sd_J1_charAt_3b067_12 ?_
  refine lv_i2c hx hb sd_J1_charAt_3b067_13 (v := am_words i.toNatClampNeg) (sd_w255 _ (sd_nlt hi)) ?_
  exact W.zret (ty := .char) hx hb hr (sd_wn _ (sd_nlt hi)) (fun t ht _ => ⟨_, rfl, rfl, ht⟩) (fun q hq => by cases hq) sd_J1_charAt_3b067_14 hlocks
set_option maxHeartbeats 4000000 in
theorem sd_charAt (l : Launch) (base : Nat) (sp : Nat → Nat) (i : Int32) (hi : am_in i 118 = true) : Met l yJ0_charAt_5068e (sd_w yJ0_charAt_5068e cJ0_charAt_5068e 2 (some .char)) { frames := 4, cells := 0, slots := 0, locals := 160 } (va_Pc [.ref (sp 1000000), .int i] (sd_S base sp)) (vp_Si (fun r => r = am_words i.toNatClampNeg)) 0 0 (fun _ => False) := by
  refine Met.ofW (cc := cJ0_charAt_5068e) (maxL := 2) (ret := (some .char)) (by decide) rfl ?_
  intro p e s m args below meth c s₁ B hml hv
  obtain ⟨rfl, hE, hZ, hZq⟩ := hv
  have hx := B.exec
  have hb := B.bytes
  have hr := B.returns
  have hts0 := atoms_spec (ws := sd_w yJ0_charAt_5068e cJ0_charAt_5068e 2 (some .char)) B.pre
  have hts : ∀ w ∈ am_TT, w.before (#[.ref (sp 1000000), .int i] : Array Value) s = true := fun w hw => hts0 w (List.mem_cons_of_mem _ hw)
  have hown : s.vm.findClass RJ0 = some m.cls := findClass_of_methodNamed B.named
  have hlocks := B.notSynchronized
  have hS : va_S (am_Ar base) s.heap s.heap [] := va_S.rf
  have hl := lv_entry ([.ref (sp 1000000), .int i]) (n := 2) (Nat.le_of_ble_eq_true rfl)
  rw [lg_entry_eq]
  generalize (lg_sl ([.ref (sp 1000000), .int i]) ++ List.replicate (2 - (lg_sl ([.ref (sp 1000000), .int i])).length) Slot.unset).toArray = ls at hl ⊢
  have hl : lv_has ls 2 [(0, .ref (sp 1000000)), (1, .int i)] := hl
  refine lv_aload_n hx hb sd_J0_charAt_5068e_0 rfl (lv_at hl 0 rfl) ?_
  refine sd_run (va_runV (maxL := 1) (ret := (some .boolean)) (bytes := cJ0_isLatin1_aae02) (As := []) (rest := []) ⟨hx, hb, hml, hown, hts⟩ (sd_isLatin1 l base sp) (cwV (ws' := am_TT) 0 hts (sd_good (sd_l2 9 rfl) (fun z hz => by
    rcases List.mem_cons.mp hz with rfl | hz
    · exact sd_l2 6 rfl
    rcases List.mem_cons.mp hz with rfl | hz
    · exact sd_l2 7 rfl
    rcases List.mem_cons.mp hz with rfl | hz
    · exact sd_l2 8 rfl
    rcases List.mem_cons.mp hz with rfl | hz
    · exact sd_l2 4 rfl
    cases hz)) rfl rfl rfl (by decide +kernel) ⟨Nat.le_of_ble_eq_true rfl, Nat.le_of_ble_eq_true rfl⟩) ⟨sd_blind, vk_recv hE (i := 0) (by decide) hS, fun U hU hW => ⟨rfl, sd_call ⟨hE, hZ, hZq⟩ hS hU hW⟩⟩ rfl rfl hl.1 rfl (lv_room (Nat.le_of_ble_eq_true rfl)) sd_J0_charAt_5068e_1 ⟨Nat.zero_le _, Nat.zero_le _⟩) (fun r hr => ?_)
  subst hr
  refine lv_if_eq (tgt := 16) hx hb sd_J0_charAt_5068e_4 (by decide) (fun h => absurd h (by decide)) (fun _ => ?_)
  refine lv_aload_n hx hb sd_J0_charAt_5068e_7 rfl (lv_at hl 0 rfl) ?_
  refine vk_getf hx hb ((hE.1 0 (by decide)).2.2.1) hS hown (hts _ (sd_lnk _ (by simp [RJ0]))) (fun _ h => h) sd_J0_charAt_5068e_8 ?_
  refine lv_iload_n hx hb sd_J0_charAt_5068e_11 rfl (lv_at hl 1 rfl) ?_
  refine sd_run (va_runS (maxL := 2) (ret := (some .char)) (bytes := cJ1_charAt_3b067) (As := [.ref (sp 1000001), .int i]) (rest := []) ⟨hx, hb, hml, hown, hts⟩ (sd_lat l base sp i hi) (va_cwS (ws' := am_TT) 2 hts (sd_good (sd_l2 20 rfl) (fun z hz => by
    rcases List.mem_cons.mp hz with rfl | hz
    · exact sd_l2 17 rfl
    rcases List.mem_cons.mp hz with rfl | hz
    · exact sd_l2 18 rfl
    rcases List.mem_cons.mp hz with rfl | hz
    · exact sd_l2 19 rfl
    cases hz)) rfl rfl rfl (by decide +kernel) ⟨Nat.le_of_ble_eq_true rfl, Nat.le_of_ble_eq_true rfl⟩) ⟨sd_blind, fun U hU hW => ⟨rfl, sd_call ⟨hE, hZ, hZq⟩ hS hU hW⟩⟩ rfl rfl hl.1 rfl (lv_room (Nat.le_of_ble_eq_true rfl)) sd_J0_charAt_5068e_12 ⟨Nat.zero_le _, Nat.zero_le _⟩) (fun r hr => ?_)
  subst hr
  exact W.zret (ty := .char) hx hb ‹_› (sd_wn _ (sd_nlt hi)) (fun t ht _ => ⟨_, rfl, rfl, ht⟩) (fun q hq => by cases hq) sd_J0_charAt_5068e_15 hlocks
