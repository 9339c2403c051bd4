/-! String.length and String.charAt of the one text, by the kit's rows -/
theorem sd_cod_0 : decode cJ0_coder_7d493 0 = .ok (.getstatic 38, 3) := by decide +kernel
theorem sd_cod_3 : decode cJ0_coder_7d493 3 = .ok (.ifCond .eq 10, 3) := by decide +kernel
theorem sd_cod_6 : decode cJ0_coder_7d493 6 = .ok (.aload_n 0, 1) := by decide +kernel
theorem sd_cod_7 : decode cJ0_coder_7d493 7 = .ok (.getfield 15, 3) := by decide +kernel
theorem sd_cod_10 : decode cJ0_coder_7d493 10 = .ok (.goto 4, 3) := by decide +kernel
theorem sd_cod_14 : decode cJ0_coder_7d493 14 = .ok (.ireturn, 1) := by decide +kernel
theorem sd_lnk : ∀ w ∈ ([.fieldLink RJ0 38 "java/lang/String" "COMPACT_STRINGS" "Z", .fieldLink RJ0 15 "java/lang/String" "coder" "B", .fieldLink RJ0 9 "java/lang/String" "value" "[B"] : List Cond), w ∈ am_TT := by decide +kernel
/-- what is known of the text, at a frame's start -/
def sd_S (base : Nat) (sp : Nat → Nat) (U : State) : Prop := vk_S 1 [118] [am_wordsL] (fun _ => sp 1000000) (fun _ => sp 1000001) (am_Ar base) U U.heap ∧ va_Z RJ0 "COMPACT_STRINGS" "Z" (.int 1) (am_Ar base) U U.heap ∧ va_Zq RJ3 "SIOOBE_FORMATTER" "Ljava/util/function/BiFunction;" (am_Ar base) U U.heap
def sd_w (y : MethodName) (b : ByteArray) (n : Nat) (rt : Option FieldType) : List Cond := .code y b n rt :: am_TT
set_option maxHeartbeats 4000000 in
theorem sd_coder (l : Launch) (base : Nat) (sp : Nat → Nat) : Met l yJ0_coder_7d493 (sd_w yJ0_coder_7d493 cJ0_coder_7d493 1 (some .byte)) { frames := 1, cells := 0, slots := 0, locals := 20 } (va_Pc [.ref (sp 1000000)] (sd_S base sp)) (vp_Si (fun r => r = 0)) 0 0 (fun _ => False) := by
  refine Met.ofW (cc := cJ0_coder_7d493) (maxL := 1) (ret := some .byte) (by decide) rfl ?_
  intro p e s m args below meth c s₁ B hml hv
  obtain ⟨rfl, hE, hZ, hZq⟩ := hv
  have hx := B.exec
  have hb := B.bytes
  have hr := B.returns
  have hts0 := atoms_spec (ws := sd_w yJ0_coder_7d493 cJ0_coder_7d493 1 (some .byte)) B.pre
  have hts : ∀ w ∈ am_TT, w.before #[Value.ref (sp 1000000)] s = true := fun w hw => hts0 w (List.mem_cons_of_mem _ hw)
  have hown : s.vm.findClass RJ0 = some m.cls := findClass_of_methodNamed B.named
  have hlocks := B.notSynchronized
  have hS : va_S (am_Ar base) s.heap s.heap [] := va_S.rf
  have hl := lv_entry ([.ref (sp 1000000)]) (n := 1) (Nat.le_of_ble_eq_true rfl)
  rw [lg_entry_eq]
  generalize (lg_sl ([.ref (sp 1000000)]) ++ List.replicate (1 - (lg_sl ([.ref (sp 1000000)])).length) Slot.unset).toArray = ls at hl ⊢
  have hl : lv_has ls 1 [(0, .ref (sp 1000000))] := hl
  refine va_gets hx hb hZ hS hown (hts _ (sd_lnk _ (by simp [RJ0]))) (fun _ h => h) sd_cod_0 ?_
  refine lv_if_eq (tgt := 13) hx hb sd_cod_3 (by decide) (fun h => absurd h (by decide)) (fun _ => ?_)
  refine lv_aload_n hx hb sd_cod_6 rfl (lv_at hl 0 rfl) ?_
  refine vk_getf hx hb ((hE.1 0 (by decide)).2.1) hS hown (hts _ (sd_lnk _ (by simp [RJ0]))) (fun _ h => h) sd_cod_7 ?_
  refine lv_goto (tgt := 14) hx hb sd_cod_10 (by decide) ?_
  exact W.zret (ty := .byte) hx hb hr rfl (fun t ht _ => ⟨0, rfl, rfl, ht⟩) (fun q hq => by cases hq) sd_cod_14 hlocks
