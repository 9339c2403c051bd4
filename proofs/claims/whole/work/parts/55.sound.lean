def am_wordsL : List Int32 := [111, 100, 100, 115, 32, 97, 114, 109, 32, 107, 105, 110, 100, 32, 115, 116, 101, 112, 32, 115, 112, 111, 116, 32, 119, 101, 105, 103, 104, 116, 32, 112, 101, 114, 115, 111, 110, 32, 104, 111, 109, 101, 32, 114, 101, 97, 99, 104, 32, 116, 104, 105, 110, 103, 32, 119, 111, 114, 116, 104, 32, 108, 111, 115, 101, 32, 119, 97, 105, 116, 32, 115, 99, 114, 97, 116, 99, 104, 32, 97, 110, 121, 32, 119, 104, 101, 110, 32, 102, 111, 117, 110, 100, 32, 117, 112, 32, 109, 105, 110, 117, 116, 101, 32, 108, 111, 111, 112, 32, 101, 110, 100, 32, 115, 116, 111, 112, 32]
def am_words (i : Nat) : Int32 := am_wordsL.getD i 0
/-! the heap of the small machine: a list of cells, read and written by place -/
theorem am_in_iff {i : Int32} {n : Nat} : am_in i n = true ↔ vp_in i n := by simp [am_in, vp_in]
/-- of each class that objects have, its number among the owners -/
def am_oc : Nat → Nat
  | 0 => 0
  | 1 => 2
  | 2 => 3
  | 3 => 4
  | 4 => 5
  | 5 => 6
  | 6 => 7
  | 7 => 8
  | 8 => 10
  | 9 => 11
  | _ => 12
theorem am_oc_ok : ∀ c, c < 11 → am_own (am_oc c) = am_cl c := by decide +kernel
def am_ty (c k : Nat) : FieldType := match parseFieldDescriptor (am_T c k).2.2.1 with | some t => t | none => .int
def am_df (c : Nat) : List Value := (List.range (am_N c)).map fun k => defaultValue (am_ty c k)
def am_big (t : FieldType) : Nat := componentBytes t
/-- op: what is done (0 getfield, 1 putfield, 2.. arrays, 10 length, 12 new, 13 newarray, 14 anewarray, 16 the receiver's class, 1000.. what the kit knows) -/
def am_ho (L : Nat) (xs : Nat → Int32) (op p q : Nat) (st : List Value) (h : am_H) : Option (List Value × am_H) :=
  match op, st with
  | 0, .ref a :: r => (match h[a]? with | some (.inr (c, fs)) => (if c = p then (match fs[q]? with | some v => some (v :: r, h) | none => none) else none) | _ => none)
  | 1, v :: .ref a :: r => (match h[a]? with | some (.inr (c, fs)) => (if c = p ∧ q < fs.length ∧ narrow (am_ty p q) v = v ∧ fits (am_ty p q) v = true then some (r, h.set a (.inr (c, fs.set q v))) else none) | _ => none)
  | 2, .int i :: .ref a :: r => (if a = 2000000 then (if am_in i L = true then some (.int (xs i.toNatClampNeg) :: r, h) else none) else match h[a]? with | some (.inl (0, (n, .inl f))) => (if am_in i n = true then some (.int (f i.toNatClampNeg) :: r, h) else none) | _ => none)
  | 3, .int x :: .int i :: .ref a :: r => (match h[a]? with | some (.inl (0, (n, .inl f))) => (if am_in i n = true then some (r, h.set a (.inl (0, (n, .inl (upd f i.toNatClampNeg x))))) else none) | _ => none)
  | 4, .int i :: .ref a :: r => (match h[a]? with | some (.inl (1, (n, .inr (.inl f)))) => (if am_in i n = true then some (.long (f i.toNatClampNeg) :: r, h) else none) | _ => none)
  | 5, .long x :: .int i :: .ref a :: r => (match h[a]? with | some (.inl (1, (n, .inr (.inl f)))) => (if am_in i n = true then some (r, h.set a (.inl (1, (n, .inr (.inl (vp_updL f i.toNatClampNeg x)))))) else none) | _ => none)
  | 6, .int i :: .ref a :: r => (match h[a]? with | some (.inl (2, (n, .inl f))) => (if am_in i n = true then some (.int (f i.toNatClampNeg) :: r, h) else none) | _ => none)
  | 7, .int x :: .int i :: .ref a :: r => (match h[a]? with | some (.inl (2, (n, .inl f))) => (if am_in i n = true then some (r, h.set a (.inl (2, (n, .inl (upd f i.toNatClampNeg (vp_nar .byte x)))))) else none) | _ => none)
  | 8, .int i :: .ref a :: r => (match h[a]? with | some (.inl (t, (n, .inr (.inr (.inr (.inr f)))))) => (if (t = 3 ∨ t = 4) ∧ am_in i n = true then some (va_rf (f i.toNatClampNeg) :: r, h) else none) | _ => none)
  | 9, .ref v :: .int i :: .ref a :: r => (match h[a]?, h[v]? with | some (.inl (t, (n, .inr (.inr (.inr (.inr f)))))), some (.inr (c, _)) => (if (t = 3 ∨ t = 4) ∧ c = am_rc t ∧ am_in i n = true then some (r, h.set a (.inl (t, (n, .inr (.inr (.inr (.inr (va_up f i.toNatClampNeg (some v)))))))) ) else none) | _, _ => none)
  | 10, .ref a :: r => (if a = 2000000 then some (.int (Int32.ofNat L) :: r, h) else none)
  | 12, r => (if p < 11 ∧ h.length < 1000000 then some (.ref h.length :: r, h ++ [.inr (p, am_df p)]) else none)
  | 13, .int n :: r => (if n < 0 ∨ 65536 < n.toNatClampNeg ∨ 1000000 ≤ h.length then none else match p with
    | 0 => some (.ref h.length :: r, h ++ [.inl (0, (n.toNatClampNeg, .inl (fun _ => 0)))])
    | 1 => some (.ref h.length :: r, h ++ [.inl (1, (n.toNatClampNeg, .inr (.inl (fun _ => 0))))])
    | 2 => some (.ref h.length :: r, h ++ [.inl (2, (n.toNatClampNeg, .inl (fun _ => 0)))])
    | _ => none)
  | 14, .int n :: r => (if n < 0 ∨ 65536 < n.toNatClampNeg ∨ 1000000 ≤ h.length then none else if p = 3 ∨ p = 4 then some (.ref h.length :: r, h ++ [.inl (p, (n.toNatClampNeg, .inr (.inr (.inr (.inr (fun _ => none))))))]) else none)
  | 16, .ref a :: _ => (match am_m p, h[a]? with | some (_, _, _, _, o), some (.inr (c, _)) => (bif Nat.beq (am_oc c) o then some ([], h) else none) | _, _ => none)
  | 1000, .int y :: .int x :: r => some (.int (if x < y then y else x) :: r, h)
  | 1001, .int y :: .int x :: r => some (.int (if y < x then y else x) :: r, h)
  | 1002, .int x :: r => some (.int (if 0 ≤ x then x else 0 - x) :: r, h)
  | 1003, .long x :: r => some (.long (if 0 < x then x else -x) :: r, h)
  | 1004, .int n :: .int dp :: .ref a :: .int sp :: .ref a0 :: r => (match h[a0]?, h[a]? with
    | some (.inl (0, (n0, .inl f))), some (.inl (0, (n1, .inl g))) => (if ¬ sp < 0 ∧ ¬ dp < 0 ∧ ¬ n < 0 ∧ sp.toNatClampNeg + n.toNatClampNeg ≤ n0 ∧ dp.toNatClampNeg + n.toNatClampNeg ≤ n1 then some (r, h.set a (.inl (0, (n1, .inl (va_cpy f g sp.toNatClampNeg dp.toNatClampNeg n.toNatClampNeg))))) else none)
    | some (.inl (1, (n0, .inr (.inl f)))), some (.inl (1, (n1, .inr (.inl g)))) => (if ¬ sp < 0 ∧ ¬ dp < 0 ∧ ¬ n < 0 ∧ sp.toNatClampNeg + n.toNatClampNeg ≤ n0 ∧ dp.toNatClampNeg + n.toNatClampNeg ≤ n1 then some (r, h.set a (.inl (1, (n1, .inr (.inl (va_cpy f g sp.toNatClampNeg dp.toNatClampNeg n.toNatClampNeg)))))) else none)
    | _, _ => none)
  | 1005, .ref _ :: r => some (r, h)
  | 1006, .ref a :: r => (if a = 1000000 then some (.int 118 :: r, h) else none)
  | 1007, .int i :: .ref a :: r => (if a = 1000000 ∧ am_in i 118 = true then some (.int (am_words i.toNatClampNeg) :: r, h) else none)
  | _, _ => none
/-! how the small machine's values, cells and locals stand in the machine -/
def am_ev (ad : Nat → Nat) : Value → Value
  | .ref i => .ref (ad i)
  | v => v
def am_ea (ad : Nat → Nat) (a : vp_A) : vp_A := match a with
  | (n, .inr (.inr (.inr (.inr f)))) => (n, .inr (.inr (.inr (.inr (fun j => (f j).map ad)))))
  | x => x
def am_ec (ad : Nat → Nat) (tA : Nat → ClassId) (c : am_C) : va_E := match c with
  | .inl (t, a) => .inl (tA t, am_ea ad a)
  | .inr (c, fs) => .inr (c, fs.map (am_ev ad))
def am_eh (ad : Nat → Nat) (tA : Nat → ClassId) (h : am_H) : va_W := h.mapIdx fun i c => (ad i, am_ec ad tA c)
theorem am_eh_get {ad : Nat → Nat} {tA : Nat → ClassId} {h : am_H} {i : Nat} {c : am_C} (e : h[i]? = some c) : (am_eh ad tA h)[i]? = some (ad i, am_ec ad tA c) := by
  simp [am_eh, List.getElem?_mapIdx, e]
theorem am_eh_set {ad : Nat → Nat} {tA : Nat → ClassId} {h : am_H} {i : Nat} {c : am_C} : am_eh ad tA (h.set i c) = (am_eh ad tA h).set i (ad i, am_ec ad tA c) := by
  apply List.ext_getElem?
  intro j
  simp only [am_eh, List.getElem?_mapIdx, List.getElem?_set, List.length_mapIdx]
  by_cases hij : i = j
  · subst hij
    by_cases hl : i < h.length <;> simp [hl]
  · simp [hij]
theorem am_eh_app {ad : Nat → Nat} {tA : Nat → ClassId} {h : am_H} {c : am_C} : am_eh ad tA (h ++ [c]) = am_eh ad tA h ++ [(ad h.length, am_ec ad tA c)] := by
  simp [am_eh, List.mapIdx_append]
theorem am_eh_at {ad : Nat → Nat} {tA : Nat → ClassId} {h : am_H} {i : Nat} {q : Nat × va_E} (e : (am_eh ad tA h)[i]? = some q) : i < h.length ∧ q.1 = ad i := by
  simp only [am_eh, List.getElem?_mapIdx] at e
  cases hc : h[i]? with
  | none => rw [hc] at e; cases e
  | some c =>
    rw [hc] at e
    cases e
    exact ⟨(List.getElem?_eq_some_iff.mp hc).1, rfl⟩
def am_asc (ad : Nat → Nat) (ls : List Value) : List (Nat × Value) := (List.range ls.length).filterMap fun i => match (ls[i]? : Option Value) with
  | some (Value.retAddr _) => none
  | some v => some (i, am_ev ad v)
  | none => none
theorem am_asc_mem {ad : Nat → Nat} {ls : List Value} {q : Nat × Value} : q ∈ am_asc ad ls ↔ ∃ v, ls[q.1]? = some v ∧ (∀ k, v ≠ .retAddr k) ∧ q.2 = am_ev ad v := by
  obtain ⟨i, w⟩ := q
  simp only [am_asc, List.mem_filterMap, List.mem_range]
  constructor
  · rintro ⟨j, hj, e⟩
    cases hv : ls[j]? with
    | none => rw [hv] at e; cases e
    | some v =>
      rw [hv] at e
      cases v <;> first | (cases e; exact ⟨_, hv, fun k hk => Value.noConfusion hk, rfl⟩) | cases e
  · rintro ⟨v, hv, hn, rfl⟩
    refine ⟨i, (List.getElem?_eq_some_iff.mp hv).1, ?_⟩
    have hv : ls[i]? = some v := hv
    rw [hv]
    cases v <;> first | rfl | exact absurd rfl (hn _)
def am_Lc (ad : Nat → Nat) (LS : Array Slot) (nL : Nat) (ls : List Value) : Prop := ls.length = nL ∧ lv_has LS nL (am_asc ad ls)
theorem am_Lc.at {ad : Nat → Nat} {LS : Array Slot} {nL : Nat} {ls : List Value} (h : am_Lc ad LS nL ls) {i : Nat} {v : Value} (hv : ls[i]? = some v) (hn : ∀ k, v ≠ .retAddr k) : LS[i]? = some (.val (am_ev ad v)) :=
  h.2.2.2 (i, am_ev ad v) (am_asc_mem.mpr ⟨v, hv, hn, rfl⟩)
theorem am_ev_cat {ad : Nat → Nat} (v : Value) : (am_ev ad v).category = v.category := by cases v <;> rfl
theorem am_kill_at {ls : List Value} {i j : Nat} {u : Value} (h : (am_kill ls i)[j]? = some u) (hn : ∀ k, u ≠ .retAddr k) : ls[j]? = some u ∧ ¬ (j + 1 = i ∧ u.category = 2) := by
  cases i with
  | zero => exact ⟨h, fun z => by omega⟩
  | succ i =>
    simp only [am_kill] at h
    split at h
    · rename_i x hx
      rw [List.getElem?_set] at h
      split at h
      · split at h
        · cases h; exact absurd rfl (hn _)
        · cases h
      · rename_i hne
        exact ⟨h, fun z => hne (by omega)⟩
    · rename_i x hx
      rw [List.getElem?_set] at h
      split at h
      · split at h
        · cases h; exact absurd rfl (hn _)
        · cases h
      · rename_i hne
        exact ⟨h, fun z => hne (by omega)⟩
    · rename_i h1 h2
      refine ⟨h, fun z => ?_⟩
      obtain ⟨z1, z2⟩ := z
      have z3 : j = i := by omega
      subst z3
      cases u <;> first | (cases z2; done) | exact h1 _ h | exact h2 _ h
theorem am_kill_len (ls : List Value) (i : Nat) : (am_kill ls i).length = ls.length := by
  cases i with
  | zero => rfl
  | succ i => simp only [am_kill]; split <;> simp
theorem am_Lc.put1 {ad : Nat → Nat} {LS' : Array Slot} {nL i : Nat} {ls ls' : List Value} {v : Value} (hl : ls.length = nL) (e : am_put1 ls i v = some ls') (h : lv_has LS' nL ((i, am_ev ad v) :: (am_asc ad ls).filter (fun q => !(q.1 == i) && !(q.1 + 1 == i && q.2.category == 2)))) : am_Lc ad LS' nL ls' := by
  unfold am_put1 at e
  split at e
  · cases e
    refine ⟨by rw [List.length_set, am_kill_len]; exact hl, h.1, h.2.1, fun q hq => h.2.2 q ?_⟩
    obtain ⟨u, hu, hn, hw⟩ := am_asc_mem.mp hq
    rw [List.getElem?_set] at hu
    split at hu
    · rename_i hi
      split at hu
      · cases hu
        exact List.mem_cons.mpr (Or.inl (Prod.ext hi.symm hw))
      · cases hu
    · rename_i hi
      obtain ⟨a1, a2⟩ := am_kill_at hu hn
      refine List.mem_cons.mpr (Or.inr (List.mem_filter.mpr ⟨am_asc_mem.mpr ⟨u, a1, hn, hw⟩, ?_⟩))
      have c1 : (q.1 == i) = false := by simpa using fun z => hi z.symm
      have c2 : (q.1 + 1 == i && q.2.category == 2) = false := by
        rw [hw, am_ev_cat]
        simpa using fun z1 z2 => a2 ⟨z1, z2⟩
      rw [c1, c2]; rfl
  · cases e
theorem am_Lc.put2 {ad : Nat → Nat} {LS' : Array Slot} {nL i : Nat} {ls ls' : List Value} {v : Value} (hl : ls.length = nL) (e : am_put2 ls i v = some ls') (h : lv_has LS' nL ((i, am_ev ad v) :: (am_asc ad ls).filter (fun q => !(q.1 == i) && (!(q.1 == i + 1) && !(q.1 + 1 == i && q.2.category == 2))))) : am_Lc ad LS' nL ls' := by
  unfold am_put2 at e
  split at e
  · cases e
    refine ⟨by rw [List.length_set, List.length_set, am_kill_len]; exact hl, h.1, h.2.1, fun q hq => h.2.2 q ?_⟩
    obtain ⟨u, hu, hn, hw⟩ := am_asc_mem.mp hq
    rw [List.getElem?_set] at hu
    split at hu
    · split at hu
      · cases hu; exact absurd rfl (hn _)
      · cases hu
    · rename_i hj
      rw [List.getElem?_set] at hu
      split at hu
      · rename_i hi
        split at hu
        · cases hu
          exact List.mem_cons.mpr (Or.inl (Prod.ext hi.symm hw))
        · cases hu
      · rename_i hi
        obtain ⟨a1, a2⟩ := am_kill_at hu hn
        refine List.mem_cons.mpr (Or.inr (List.mem_filter.mpr ⟨am_asc_mem.mpr ⟨u, a1, hn, hw⟩, ?_⟩))
        have c1 : (q.1 == i) = false := by simpa using fun z => hi z.symm
        have c3 : (q.1 == i + 1) = false := by simpa using fun z => hj z.symm
        have c2 : (q.1 + 1 == i && q.2.category == 2) = false := by
          rw [hw, am_ev_cat]
          simpa using fun z1 z2 => a2 ⟨z1, z2⟩
        rw [c1, c2, c3]; rfl
  · cases e
def am_ad (base : Nat) (sp : Nat → Nat) (i : Nat) : Nat := if i < 1000000 then base + i else sp i
def am_tys (tA : Nat → ClassId) : List (ClassId × FieldType) := [(tA 0, .int), (tA 1, .long), (tA 2, .byte), (tA 3, .object RX4), (tA 4, .object RX5)]
def am_P (D : va_G) (tA : Nat → ClassId) (base : Nat) (sp : Nat → Nat) (h : am_H) (H : Heap) : Prop := h.length ≤ 1000000 ∧ va_P D vwCl (am_eh (am_ad base sp) tA h) H
def am_Ar (base : Nat) : Nat → Prop := fun q => base ≤ q
theorem am_P.D {D : va_G} {tA : Nat → ClassId} {base : Nat} {sp : Nat → Nat} {h : am_H} {H : Heap} (hP : am_P D tA base sp h H) : va_D (am_Ar base) (am_eh (am_ad base sp) tA h) := by
  obtain ⟨hl, -⟩ := hP
  refine ⟨fun i j p q hi hj hpq => ?_, fun k q hk => ?_⟩
  · obtain ⟨a1, a2⟩ := am_eh_at hi
    obtain ⟨b1, b2⟩ := am_eh_at hj
    rw [a2, b2, am_ad, am_ad, if_pos (by omega), if_pos (by omega)] at hpq
    omega
  · obtain ⟨a1, a2⟩ := am_eh_at hk
    rw [a2, am_ad, if_pos (by omega)]
    exact Nat.le_add_right _ _
def am_csz : am_C → Nat
  | .inl (_, (n, _)) => n
  | .inr (_, fs) => fs.length
def am_sl (h : am_H) : Nat := (h.map am_csz).sum
theorem am_sl_set {h : am_H} {a : Nat} {c c' : am_C} (e : h[a]? = some c) (hc : am_csz c' = am_csz c) : am_sl (h.set a c') = am_sl h := by
  induction h generalizing a with
  | nil => rfl
  | cons x t ih =>
    cases a with
    | zero => simp at e; subst e; simp [am_sl, hc]
    | succ a =>
      simp at e
      have := ih e
      simp [am_sl] at this ⊢
      omega
theorem am_sl_app {h : am_H} {c : am_C} : am_sl (h ++ [c]) = am_sl h + am_csz c := by simp [am_sl]
/-- heaps only grow -/
def am_gr (h h' : am_H) : Prop := h.length ≤ h'.length ∧ am_sl h ≤ am_sl h'
theorem am_gr.rf {h : am_H} : am_gr h h := ⟨Nat.le_refl _, Nat.le_refl _⟩
theorem am_gr.tr {a b c : am_H} (h : am_gr a b) (g : am_gr b c) : am_gr a c := ⟨Nat.le_trans h.1 g.1, Nat.le_trans h.2 g.2⟩
theorem am_gr.set {h : am_H} {a : Nat} {c c' : am_C} (e : h[a]? = some c) (hc : am_csz c' = am_csz c) : am_gr h (h.set a c') := ⟨by simp, by rw [am_sl_set e hc]; exact Nat.le_refl _⟩
theorem am_gr.app {h : am_H} {c : am_C} : am_gr h (h ++ [c]) := ⟨by simp, by rw [am_sl_app]; omega⟩
set_option maxHeartbeats 4000000 in
theorem am_ho_gr {L : Nat} {xs : Nat → Int32} {op p q : Nat} {st st' : List Value} {h h' : am_H} (e : am_ho L xs op p q st h = some (st', h')) : am_gr h h' := by
  unfold am_ho at e
  simp only [cond_eq_ite] at e
  repeat' split at e
  all_goals first
    | (cases e; done)
    | (cases e; exact am_gr.rf)
    | (cases e; exact am_gr.app)
    | (cases e; refine am_gr.set (by assumption) ?_; simp [am_csz])
set_option maxHeartbeats 4000000 in
theorem am_step_gr {L : Nat} {xs : Nat → Int32} {i : Instr} {n p q : Nat} {v : Value} {pc : Nat} {ls st : List Value} {h : am_H} {c : Nat × List Value × List Value × am_H} (e : am_step (am_ho L xs) i n p q v pc ls st h = some c) : am_gr h c.2.2.2 := by
  unfold am_step at e
  repeat' split at e
  all_goals first
    | (cases e; done)
    | (cases e; exact am_gr.rf)
    | (cases e; rename_i hh; exact am_ho_gr hh)
set_option maxHeartbeats 4000000 in
theorem am_one_gr {L : Nat} {xs : Nat → Int32} {C : Nat → List Value → am_H → Option (Option Value × am_H)} (hC : ∀ m as h v h', C m as h = some (v, h') → am_gr h h') {rt : Option FieldType} {code : List am_I} {pc : Nat} {ls st : List Value} {h : am_H} {r : (Option Value × am_H) ⊕ (Nat × List Value × List Value × am_H)} (e : am_one (am_ho L xs) C rt code pc ls st h = some r) : am_gr h (match r with | .inl a => a.2 | .inr c => c.2.2.2) := by
  unfold am_one at e
  split at e
  · cases e
  · simp only [cond_eq_ite] at e
    repeat' split at e
    all_goals first
      | (cases e; done)
      | (cases e; exact am_gr.rf)
      | (cases e; rename_i hh; exact am_ho_gr hh)
      | (cases e; rename_i hh; exact hC _ _ _ _ _ hh)
      | (cases e; rename_i hh; exact am_step_gr hh)
theorem am_ex_gr {L : Nat} {xs : Nat → Int32} {C : Nat → List Value → am_H → Option (Option Value × am_H)} (hC : ∀ m as h v h', C m as h = some (v, h') → am_gr h h') {rt : Option FieldType} {code : List am_I} : ∀ {n pc : Nat} {ls st : List Value} {h : am_H} {r : Option Value × am_H}, am_ex (am_ho L xs) C rt code n pc ls st h = some r → am_gr h r.2
  | 0, _, _, _, _, _, e => by simp [am_ex] at e
  | n + 1, pc, ls, st, h, r, e => by
    rw [am_ex] at e
    cases ho : am_one (am_ho L xs) C rt code pc ls st h with
    | none => rw [ho] at e; cases e
    | some x =>
      have g := am_one_gr hC ho
      rw [ho] at e
      cases x with
      | inl a => cases e; exact g
      | inr c => exact am_gr.tr g (am_ex_gr hC e)
theorem am_D_gr {L : Nat} {xs : Nat → Int32} {ms : Nat → Option am_M} : ∀ (d m : Nat) (as : List Value) (h : am_H) (v : Option Value) (h' : am_H), am_D (am_ho L xs) ms d m as h = some (v, h') → am_gr h h'
  | 0, _, _, _, _, _, e => by simp [am_D] at e
  | d + 1, m, as, h, v, h', e => by
    rw [am_D] at e
    split at e
    · rw [cond_eq_ite] at e
      split at e
      · obtain ⟨n, e⟩ := am_X_ex e
        exact am_ex_gr (am_D_gr d) e
      · cases e
    · cases e
