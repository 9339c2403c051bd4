/-! the constructors, run -/
def am_Dx {η : Type} (ho : Nat → Nat → Nat → List Value → η → Option (List Value × η)) (ms : Nat → Option am_M) : Nat → Nat → List Value → η → Option (Option Value × η)
  | 0, _, _, _ => none
  | d + 1, m, as, h => match ms m with
    | some (_, n, rt, code, _) => bif Nat.ble (am_lay as).length n then am_ex ho (am_Dx ho ms d) rt code 9000 0 (am_init as n) [] h else none
    | none => none
theorem sm_refl {η : Type} {ho : Nat → Nat → Nat → List Value → η → Option (List Value × η)} : sm_ho ho ho Eq := fun op p q st s h st' s' hR e => ⟨s', by rw [← hR]; exact e, rfl⟩
theorem am_Dx_D {η : Type} {ho : Nat → Nat → Nat → List Value → η → Option (List Value × η)} {ms : Nat → Option am_M} : ∀ d, sm_C (am_Dx ho ms d) (am_D ho ms d) Eq
  | 0 => fun m as s h v s' _ e => by simp [am_Dx] at e
  | d + 1 => fun m as s h v s' hR e => by
    subst hR
    rw [am_Dx] at e
    rw [am_D]
    cases hm : ms m with
    | none => rw [hm] at e; cases e
    | some r =>
      obtain ⟨y, n, rt, code, o⟩ := r
      rw [hm] at e
      dsimp only at e ⊢
      rw [cond_eq_ite] at e ⊢
      split at e
      · rename_i hle
        rw [if_pos hle]
        obtain ⟨h', h1, h2⟩ := sm_ex sm_refl (am_Dx_D d) rfl e
        exact ⟨h', am_X_of h1, h2⟩
      · cases e
theorem am_D_more {η : Type} {ho : Nat → Nat → Nat → List Value → η → Option (List Value × η)} {ms : Nat → Option am_M} : ∀ d, sm_C (am_D ho ms d) (am_D ho ms (d + 1)) Eq
  | 0 => fun m as s h v s' _ e => by simp [am_D] at e
  | d + 1 => fun m as s h v s' hR e => by
    subst hR
    rw [am_D] at e ⊢
    cases hm : ms m with
    | none => rw [hm] at e; cases e
    | some r =>
      obtain ⟨y, n, rt, code, o⟩ := r
      rw [hm] at e
      dsimp only at e ⊢
      rw [cond_eq_ite] at e ⊢
      split at e
      · rename_i hle
        rw [if_pos hle]
        obtain ⟨k, e⟩ := am_X_ex e
        obtain ⟨h', h1, h2⟩ := sm_ex sm_refl (am_D_more d) rfl e
        exact ⟨h', am_X_of h1, h2⟩
      · cases e
theorem am_D_le {η : Type} {ho : Nat → Nat → Nat → List Value → η → Option (List Value × η)} {ms : Nat → Option am_M} {d e : Nat} (hde : d ≤ e) {m : Nat} {as : List Value} {s : η} {r : Option Value × η} (h : am_D ho ms d m as s = some r) : am_D ho ms e m as s = some r := by
  induction hde with
  | refl => exact h
  | step _ ih =>
    obtain ⟨v, s'⟩ := r
    obtain ⟨h', h1, rfl⟩ := am_D_more _ _ _ _ _ _ _ rfl ih
    exact h1
/-- the operations that touch no script -/
def am_hoN (op p q : Nat) (st : List Value) (h : am_H) : Option (List Value × am_H) := bif Nat.beq op 2 || Nat.beq op 10 then none else am_ho 0 (fun _ => 0) op p q st h
theorem am_hoN_sim {L : Nat} {xs : Nat → Int32} : sm_ho am_hoN (am_ho L xs) Eq := by
  intro op p q st s h st' s' hR e
  subst hR
  refine ⟨s', ?_, rfl⟩
  unfold am_hoN at e
  rw [cond_eq_ite] at e
  split at e
  · cases e
  · rename_i hne
    simp only [Bool.or_eq_true, Nat.beq_eq, not_or] at hne
    unfold am_ho at e
    split at e
    all_goals first
      | (cases e; done)
      | exact absurd rfl hne.1
      | exact absurd rfl hne.2
      | (simp only [am_ho]; exact e)
section INI
variable {α : Type} {C : Nat → List Value → am_H → Option (Option Value × am_H)} {rt : Option FieldType} {code : List am_I} {pc n p q : Nat} {ls st : List Value} {h : am_H} {v : Value} {a : Nat}
theorem in_new {t : ArrayType} {k : Int32} {c : am_C} (hat : am_at code pc = some (.newarray t, n, p, q, v)) (hh : am_hoN 13 p q (.int k :: st) h = some (.ref h.length :: st, h ++ [c])) : am_X am_hoN C rt code pc ls (.int k :: st) h = am_X am_hoN C rt code (pc + n) ls (.ref h.length :: st) (h ++ [c]) := am_X_step hat (c' := (pc + n, ls, .ref h.length :: st, h ++ [c])) (by simp only [am_step, hh])
theorem in_put {x0 c : Nat} {fs : List Value} {w : Value} (hat : am_at code pc = some (.putfield x0, n, p, q, v)) (hc : h[a]? = some (.inr (c, fs))) (hk : c = p ∧ q < fs.length ∧ narrow (am_ty p q) w = w ∧ fits (am_ty p q) w = true) : am_X am_hoN C rt code pc ls (w :: .ref a :: st) h = am_X am_hoN C rt code (pc + n) ls st (h.set a (.inr (c, fs.set q w))) := am_X_step hat (c' := (pc + n, ls, st, h.set a (.inr (c, fs.set q w)))) (by
    have e : am_hoN 1 p q (w :: .ref a :: st) h = some (st, h.set a (.inr (c, fs.set q w))) := by
      simp only [am_hoN, am_ho, hc]
      rw [if_pos hk]; rfl
    simp only [am_step, e])
theorem in_get {x0 c : Nat} {fs : List Value} {w : Value} (hat : am_at code pc = some (.getfield x0, n, p, q, v)) (hc : h[a]? = some (.inr (c, fs))) (hk : c = p) (hw : fs[q]? = some w) : am_X am_hoN C rt code pc ls (.ref a :: st) h = am_X am_hoN C rt code (pc + n) ls (w :: st) h := am_X_step hat (c' := (pc + n, ls, w :: st, h)) (by
    have e : am_hoN 0 p q (.ref a :: st) h = some (w :: st, h) := by
      simp only [am_hoN, am_ho, hc, hw]
      rw [if_pos hk]; rfl
    simp only [am_step, e])
theorem in_sti {i x : Int32} {N : Nat} {F : Nat → Int32} (hat : am_at code pc = some (.iastore, n, p, q, v)) (hc : h[a]? = some (.inl (0, (N, .inl F)))) (hi : am_in i N = true) : am_X am_hoN C rt code pc ls (.int x :: .int i :: .ref a :: st) h = am_X am_hoN C rt code (pc + n) ls st (h.set a (.inl (0, (N, .inl (upd F i.toNatClampNeg x))))) := am_X_step hat (c' := (pc + n, ls, st, h.set a (.inl (0, (N, .inl (upd F i.toNatClampNeg x)))))) (by
    have e : am_hoN 3 p q (.int x :: .int i :: .ref a :: st) h = some (st, h.set a (.inl (0, (N, .inl (upd F i.toNatClampNeg x))))) := by
      simp only [am_hoN, am_ho, hc]
      rw [if_pos hi]; rfl
    simp only [am_step, e])
theorem in_ldl {i : Int32} {N : Nat} {F : Nat → Int64} (hat : am_at code pc = some (.laload, n, p, q, v)) (hc : h[a]? = some (.inl (1, (N, .inr (.inl F))))) (hi : am_in i N = true) : am_X am_hoN C rt code pc ls (.int i :: .ref a :: st) h = am_X am_hoN C rt code (pc + n) ls (.long (F i.toNatClampNeg) :: st) h := am_X_step hat (c' := (pc + n, ls, .long (F i.toNatClampNeg) :: st, h)) (by
    have e : am_hoN 4 p q (.int i :: .ref a :: st) h = some (.long (F i.toNatClampNeg) :: st, h) := by
      simp only [am_hoN, am_ho, hc]
      rw [if_pos hi]; rfl
    simp only [am_step, e])
theorem in_stl {i : Int32} {x : Int64} {N : Nat} {F : Nat → Int64} (hat : am_at code pc = some (.lastore, n, p, q, v)) (hc : h[a]? = some (.inl (1, (N, .inr (.inl F))))) (hi : am_in i N = true) : am_X am_hoN C rt code pc ls (.long x :: .int i :: .ref a :: st) h = am_X am_hoN C rt code (pc + n) ls st (h.set a (.inl (1, (N, .inr (.inl (vp_updL F i.toNatClampNeg x)))))) := am_X_step hat (c' := (pc + n, ls, st, h.set a (.inl (1, (N, .inr (.inl (vp_updL F i.toNatClampNeg x))))))) (by
    have e : am_hoN 5 p q (.long x :: .int i :: .ref a :: st) h = some (st, h.set a (.inl (1, (N, .inr (.inl (vp_updL F i.toNatClampNeg x)))))) := by
      simp only [am_hoN, am_ho, hc]
      rw [if_pos hi]; rfl
    simp only [am_step, e])
theorem in_pV {x0 : Nat} {st' : List Value} {h' : am_H} (hat : am_at code pc = some (.invokevirtual x0, n, p, q, v)) (hp : Nat.ble 1000 p = true) (hr : Nat.ble (am_sz st) 8 = true) (hh : am_hoN p 0 0 st h = some (st', h')) : am_X am_hoN C rt code pc ls st h = am_X am_hoN C rt code (pc + n) ls st' h' := by
  rw [am_X_eq]
  have h1 : am_one am_hoN C rt code pc ls st h = some (.inr (pc + n, ls, st', h')) := by
    simp only [am_one, hat, hp, cond_true, if_pos (Nat.le_of_ble_eq_true hr), hh]
  rw [h1]
theorem in_pI {x0 : Nat} {st' : List Value} {h' : am_H} (hat : am_at code pc = some (.invokespecial x0, n, p, q, v)) (hp : Nat.ble 1000 p = true) (hr : Nat.ble (am_sz st) 16 = true) (hh : am_hoN p 0 0 st h = some (st', h')) : am_X am_hoN C rt code pc ls st h = am_X am_hoN C rt code (pc + n) ls st' h' := by
  rw [am_X_eq]
  have h1 : am_one am_hoN C rt code pc ls st h = some (.inr (pc + n, ls, st', h')) := by
    simp only [am_one, hat, hp, cond_true, if_pos (Nat.le_of_ble_eq_true hr), hh]
  rw [h1]
theorem in_sg (k : Nat) {pc' : Nat} {ls' st' : List Value} (e : am_go am_hoN code k (pc, ls, st, h) = some (pc', ls', st', h)) : am_X am_hoN C rt code pc ls st h = am_X am_hoN C rt code pc' ls' st' h := am_go_X e
end INI
theorem in_ofNat {i N : Nat} (h : i < N) (hN : N < 2147483648) : am_in (Int32.ofNat i) N = true ∧ (Int32.ofNat i).toNatClampNeg = i := by
  have h1 : (Int32.ofNat i).toNatClampNeg = i := Int32.toNatClampNeg_ofNat_of_lt (by omega)
  refine ⟨am_in_iff.mpr (fun z => ?_), h1⟩
  rcases z with z | z
  · rw [Int32.lt_iff_toInt_lt, Int32.toInt_ofNat_of_lt (by omega)] at z
    have : (0 : Int32).toInt = 0 := rfl
    omega
  · rw [h1] at z; omega
theorem in_succ (i : Nat) : Int32.ofNat i + 1 = Int32.ofNat (i + 1) := by rw [Int32.ofNat_add]; rfl
theorem in_lt {i N : Nat} (h : i < 2147483648) (hN : N < 2147483648) : (Int32.ofNat i < Int32.ofNat N) ↔ i < N := Int32.ofNat_lt_iff_lt (by omega) (by omega)
/-! the reference's empty district -/
def em_F (F : Nat → Int32) : Nat → Nat → Int32
  | 0 => F
  | k + 1 => upd (em_F F k) k 0
theorem em_loop (F : Nat → Int32) {p : Nat} {fs : List Value} (hf : fs[20]? = some (.ref p)) (h : am_H) (h0 : h[117]? = some (.inr (10, fs))) (hp : p ≠ 117) {C : Nat → List Value → am_H → Option (Option Value × am_H)} (hpl : p < h.length) : ∀ m k : Nat, k + m = 355 → am_X am_hoN C none k_X12_empties 2 [.ref 117, .int 0, .int (Int32.ofNat k)] [] (h.set p (.inl (0, (1775, .inl (em_F F k))))) = am_X am_hoN C none k_X12_empties 28 [.ref 117, .int 0, .int (Int32.ofNat 355)] [] (h.set p (.inl (0, (1775, .inl (em_F F 355)))))
  | 0, k, e => by
    obtain rfl : k = 355 := by omega
    refine (in_sg 2 (pc' := 6) (ls' := [.ref 117, .int 0, .int (Int32.ofNat 355)]) (st' := [.int 355, .int (Int32.ofNat 355)]) rfl).trans ?_
    exact am_X_step (i := .if_icmp .ge 22) rfl (c' := (28, _, _, _)) rfl
  | m + 1, k, e => by
    have hk : k < 355 := by omega
    have e0 : (h.set p (.inl (0, (1775, .inl (em_F F k)))))[117]? = some (.inr (10, fs)) := by rw [List.getElem?_set_ne hp]; exact h0
    refine (in_sg 2 (pc' := 6) (ls' := [.ref 117, .int 0, .int (Int32.ofNat k)]) (st' := [.int 355, .int (Int32.ofNat k)]) rfl).trans ?_
    have hlt : Int32.ofNat k < (355 : Int32) := (in_lt (N := 355) (by omega) (by omega)).mpr hk
    refine (am_X_step (i := .if_icmp .ge 22) rfl (c' := (9, [.ref 117, .int 0, .int (Int32.ofNat k)], [], h.set p (.inl (0, (1775, .inl (em_F F k)))))) (by simp only [am_step, if_pos hlt])).trans ?_
    refine (in_sg 1 (pc' := 10) (ls' := [.ref 117, .int 0, .int (Int32.ofNat k)]) (st' := [.ref 117]) rfl).trans ?_
    refine (in_get rfl e0 rfl hf).trans ?_
    refine (in_sg 6 (pc' := 21) (ls' := [.ref 117, .int 0, .int (Int32.ofNat k)]) (st' := [.int 0, .int (355 * 0 + Int32.ofNat k), .ref p]) rfl).trans ?_
    have hz : (355 * 0 + Int32.ofNat k : Int32) = Int32.ofNat k := by rw [show (355 * 0 : Int32) = 0 from rfl, Int32.zero_add]
    rw [hz]
    obtain ⟨i1, i2⟩ := in_ofNat (i := k) (N := 1775) (by omega) (by omega)
    refine (in_sti rfl (List.getElem?_set_self hpl) i1).trans ?_
    rw [List.set_set, i2]
    refine (in_sg 2 (pc' := 2) (ls' := [.ref 117, .int 0, .int (Int32.ofNat k + 1)]) (st' := []) rfl).trans ?_
    rw [in_succ]
    exact em_loop F hf h h0 hp hpl m (k + 1) (by omega)
theorem em_run {d p : Nat} {F : Nat → Int32} {fs : List Value} {h : am_H} (h0 : h[117]? = some (.inr (10, fs))) (hf : fs[20]? = some (.ref p)) (hp : h[p]? = some (.inl (0, (1775, .inl F)))) : am_D am_hoN am_m (d + 1) 287 [.ref 117, .int 0] h = some (none, h.set p (.inl (0, (1775, .inl (upd (upd (em_F F 355) 3 4) 4 5))))) := by
  have hpl : p < h.length := (List.getElem?_eq_some_iff.mp hp).1
  have hne : p ≠ 117 := fun z => by rw [z, h0] at hp; cases hp
  have hG : ∀ G, (h.set p (.inl (0, (1775, .inl G))))[117]? = some (.inr (10, fs)) := fun G => by rw [List.getElem?_set_ne hne]; exact h0
  have hid : h.set p (.inl (0, (1775, .inl F))) = h := by
    obtain ⟨h1, h2⟩ := List.getElem?_eq_some_iff.mp hp
    rw [← h2]; exact List.set_getElem_self h1
  have e0 : am_D am_hoN am_m (d + 1) 287 [.ref 117, .int 0] h = am_X am_hoN (am_D am_hoN am_m d) none k_X12_empties 0 [.ref 117, .int 0, am_U] [] h := by
    rw [am_D, am_at_X12_empties]; rfl
  rw [e0]
  refine (in_sg 2 (pc' := 2) (ls' := [.ref 117, .int 0, .int 0]) (st' := []) rfl).trans ?_
  have e1 := em_loop F hf h h0 hne (C := am_D am_hoN am_m d) hpl 355 0 rfl
  rw [show em_F F 0 = F from rfl, hid] at e1
  refine e1.trans ?_
  refine (in_sg 1 (pc' := 29) (ls' := [.ref 117, .int 0, .int (Int32.ofNat 355)]) (st' := [.ref 117]) rfl).trans ?_
  refine (in_get rfl (hG _) rfl hf).trans ?_
  refine (in_sg 6 (pc' := 40) (ls' := [.ref 117, .int 0, .int (Int32.ofNat 355)]) (st' := [.int 4, .int (355 * 0 + 3), .ref p]) rfl).trans ?_
  refine (in_sti rfl (List.getElem?_set_self hpl) (by decide)).trans ?_
  rw [List.set_set]
  refine (in_sg 1 (pc' := 42) (ls' := [.ref 117, .int 0, .int (Int32.ofNat 355)]) (st' := [.ref 117]) rfl).trans ?_
  refine (in_get rfl (hG _) rfl hf).trans ?_
  refine (in_sg 6 (pc' := 53) (ls' := [.ref 117, .int 0, .int (Int32.ofNat 355)]) (st' := [.int 5, .int (355 * 0 + 4), .ref p]) rfl).trans ?_
  refine (in_sti rfl (List.getElem?_set_self hpl) (by decide)).trans ?_
  rw [List.set_set, am_X_eq]
  rfl
/-! the tape's words -/
def tp_w (F : Nat → Int64) (w : Nat) (c : Int32) : Nat → Int64 := vp_updL F w (F w * 32 + Int32.toInt64 (c - 97 + 1))
def tp : Nat → Nat × (Nat → Int64)
  | 0 => (0, fun _ => 0)
  | k + 1 => if am_words k = 32 then ((tp k).1 + 1, (tp k).2) else ((tp k).1, tp_w (tp k).2 (tp k).1 (am_words k))
theorem tp_lt : ∀ k, k < 118 → (tp k).1 < 22 := by decide +kernel
def tp_H (h : am_H) (a : Nat) (fs : List Value) (arr : List am_C) : am_H := h.set a (.inr (7, fs)) ++ arr
theorem tp_at {h : am_H} {a : Nat} {fs : List Value} {arr : List am_C} (ha : a < h.length) : (tp_H h a fs arr)[a]? = some (.inr (7, fs)) := by
  unfold tp_H
  rw [List.getElem?_append_left (by rw [List.length_set]; exact ha), List.getElem?_set_self ha]
theorem tp_arr {h : am_H} {a j : Nat} {fs : List Value} {arr : List am_C} : (tp_H h a fs arr)[h.length + j]? = arr[j]? := by
  unfold tp_H
  rw [List.getElem?_append_right (by rw [List.length_set]; omega), List.length_set, Nat.add_sub_cancel_left]
theorem tp_len {h : am_H} {a : Nat} {fs : List Value} {arr : List am_C} : (tp_H h a fs arr).length = h.length + arr.length := by
  unfold tp_H
  rw [List.length_append, List.length_set]
theorem tp_set {h : am_H} {a : Nat} {fs fs' : List Value} {arr : List am_C} (ha : a < h.length) : (tp_H h a fs arr).set a (.inr (7, fs')) = tp_H h a fs' arr := by
  unfold tp_H
  rw [List.set_append_left _ _ (by rw [List.length_set]; exact ha), List.set_set]
theorem tp_app {h : am_H} {a : Nat} {fs : List Value} {arr : List am_C} {c : am_C} : tp_H h a fs arr ++ [c] = tp_H h a fs (arr ++ [c]) := by
  unfold tp_H
  rw [List.append_assoc]
theorem tp_seta {h : am_H} {a j : Nat} {fs : List Value} {arr : List am_C} {c : am_C} : (tp_H h a fs arr).set (h.length + j) c = tp_H h a fs (arr.set j c) := by
  unfold tp_H
  rw [List.set_append_right _ _ (by rw [List.length_set]; omega), List.length_set, Nat.add_sub_cancel_left]
theorem tp_let {d : Nat} {x : Int64} {c : Int32} {h : am_H} : am_D am_hoN am_m (d + 1) 153 [.long x, .int c] h = some (some (.long (x * 32 + Int32.toInt64 (c - 97 + 1))), h) := by
  have e0 : am_D am_hoN am_m (d + 1) 153 [.long x, .int c] h = am_X am_hoN (am_D am_hoN am_m d) (some .long) k_X8_withLetter 0 [.long x, am_U, .int c] [] h := by
    rw [am_D, am_at_X8_withLetter]; rfl
  rw [e0]
  refine (in_sg 10 (pc' := 13) (ls' := [.long x, am_U, .int c]) (st' := [.long (x * 32 + Int32.toInt64 (c - 97 + 1))]) rfl).trans ?_
  rw [am_X_eq]
  rfl
def tp_ar (F : Nat → Int64) : List am_C := [.inl (1, (22, .inr (.inl F))), .inl (2, (900, .inl fun _ => 0)), .inl (0, (901, .inl fun _ => 0)), .inl (0, (901, .inl fun _ => 0)), .inl (1, (901, .inr (.inl fun _ => 0)))]
def tp_fs (n : Nat) : List Value := [.ref n, .ref (n + 1), .int 0, .ref (n + 2), .ref (n + 3), .ref (n + 4), .int 0, .int 0, .int (-1), .int (-1)]
theorem tp_ch {k : Nat} {st : List Value} {h : am_H} (hk : k < 118) : am_hoN 1007 0 0 (.int (Int32.ofNat k) :: .ref 1000000 :: st) h = some (.int (am_words k) :: st, h) := by
  obtain ⟨i1, i2⟩ := in_ofNat hk (by omega)
  simp only [am_hoN, am_ho]
  rw [if_pos ⟨trivial, i1⟩, i2]; rfl
theorem tp_loop {h : am_H} {a : Nat} (ha : a < h.length) {d : Nat} : ∀ m k : Nat, k + m = 118 → am_X am_hoN (am_D am_hoN am_m (d + 1)) none k_X8_init 77 [.ref a, .int (Int32.ofNat (tp k).1), .int (Int32.ofNat k)] [] (tp_H h a (tp_fs h.length) (tp_ar (tp k).2)) = some (none, tp_H h a (tp_fs h.length) (tp_ar (tp 118).2))
  | 0, k, e => by
    obtain rfl : k = 118 := by omega
    refine (in_sg 2 (pc' := 80) (ls' := [.ref a, .int (Int32.ofNat (tp 118).1), .int (Int32.ofNat 118)]) (st' := [.ref 1000000, .int (Int32.ofNat 118)]) rfl).trans ?_
    refine (in_pV rfl rfl rfl (st' := [.int 118, .int (Int32.ofNat 118)]) (h' := tp_H h a (tp_fs h.length) (tp_ar (tp 118).2)) rfl).trans ?_
    refine (am_X_step (i := .if_icmp .ge 53) rfl (c' := (136, [.ref a, .int (Int32.ofNat (tp 118).1), .int (Int32.ofNat 118)], [], tp_H h a (tp_fs h.length) (tp_ar (tp 118).2))) rfl).trans ?_
    rw [am_X_eq]
    rfl
  | m + 1, k, e => by
    have hk : k < 118 := by omega
    have hw := tp_lt k hk
    have hg : (tp_H h a (tp_fs h.length) (tp_ar (tp k).2))[h.length]? = some (.inl (1, (22, .inr (.inl (tp k).2)))) := tp_arr (j := 0)
    refine (in_sg 2 (pc' := 80) (ls' := [.ref a, .int (Int32.ofNat (tp k).1), .int (Int32.ofNat k)]) (st' := [.ref 1000000, .int (Int32.ofNat k)]) rfl).trans ?_
    refine (in_pV rfl rfl rfl (st' := [.int 118, .int (Int32.ofNat k)]) (h' := tp_H h a (tp_fs h.length) (tp_ar (tp k).2)) rfl).trans ?_
    have hlt : Int32.ofNat k < (118 : Int32) := (in_lt (N := 118) (by omega) (by omega)).mpr hk
    refine (am_X_step (i := .if_icmp .ge 53) rfl (c' := (86, [.ref a, .int (Int32.ofNat (tp k).1), .int (Int32.ofNat k)], [], tp_H h a (tp_fs h.length) (tp_ar (tp k).2))) (by simp only [am_step, if_pos hlt])).trans ?_
    refine (in_sg 2 (pc' := 89) (ls' := [.ref a, .int (Int32.ofNat (tp k).1), .int (Int32.ofNat k)]) (st' := [.int 22, .int (Int32.ofNat (tp k).1)]) rfl).trans ?_
    have hlw : Int32.ofNat (tp k).1 < (22 : Int32) := (in_lt (N := 22) (by omega) (by omega)).mpr hw
    refine (am_X_step (i := .if_icmp .ge 47) rfl (c' := (92, [.ref a, .int (Int32.ofNat (tp k).1), .int (Int32.ofNat k)], [], tp_H h a (tp_fs h.length) (tp_ar (tp k).2))) (by simp only [am_step, if_pos hlw])).trans ?_
    refine (in_sg 2 (pc' := 95) (ls' := [.ref a, .int (Int32.ofNat (tp k).1), .int (Int32.ofNat k)]) (st' := [.int (Int32.ofNat k), .ref 1000000]) rfl).trans ?_
    refine (in_pV rfl rfl rfl (tp_ch hk)).trans ?_
    refine (in_sg 1 (pc' := 100) (ls' := [.ref a, .int (Int32.ofNat (tp k).1), .int (Int32.ofNat k)]) (st' := [.int 32, .int (am_words k)]) rfl).trans ?_
    by_cases hb : am_words k = 32
    · refine (am_X_step (i := .if_icmp .ne 9) rfl (c' := (103, [.ref a, .int (Int32.ofNat (tp k).1), .int (Int32.ofNat k)], [], tp_H h a (tp_fs h.length) (tp_ar (tp k).2))) (by simp only [am_step, if_pos hb])).trans ?_
      refine (in_sg 4 (pc' := 77) (ls' := [.ref a, .int (Int32.ofNat (tp k).1 + 1), .int (Int32.ofNat k + 1)]) (st' := []) rfl).trans ?_
      have hn : tp (k + 1) = ((tp k).1 + 1, (tp k).2) := by rw [tp, if_pos hb]
      have ih := tp_loop ha (d := d) m (k + 1) (by omega)
      rw [hn] at ih
      rw [in_succ, in_succ]
      exact ih
    · refine (am_X_step (i := .if_icmp .ne 9) rfl (c' := (109, [.ref a, .int (Int32.ofNat (tp k).1), .int (Int32.ofNat k)], [], tp_H h a (tp_fs h.length) (tp_ar (tp k).2))) (by simp only [am_step, if_neg hb])).trans ?_
      refine (in_sg 1 (pc' := 110) (ls' := [.ref a, .int (Int32.ofNat (tp k).1), .int (Int32.ofNat k)]) (st' := [.ref a]) rfl).trans ?_
      refine (in_get (w := .ref h.length) rfl (tp_at ha) rfl rfl).trans ?_
      refine (in_sg 2 (pc' := 115) (ls' := [.ref a, .int (Int32.ofNat (tp k).1), .int (Int32.ofNat k)]) (st' := [.ref a, .int (Int32.ofNat (tp k).1), .ref h.length]) rfl).trans ?_
      refine (in_get (w := .ref h.length) rfl (tp_at ha) rfl rfl).trans ?_
      refine (in_sg 1 (pc' := 119) (ls' := [.ref a, .int (Int32.ofNat (tp k).1), .int (Int32.ofNat k)]) (st' := [.int (Int32.ofNat (tp k).1), .ref h.length, .int (Int32.ofNat (tp k).1), .ref h.length]) rfl).trans ?_
      obtain ⟨i1, i2⟩ := in_ofNat (N := 22) hw (by omega)
      refine (in_ldl rfl hg i1).trans ?_
      rw [i2]
      refine (in_sg 2 (pc' := 123) (ls' := [.ref a, .int (Int32.ofNat (tp k).1), .int (Int32.ofNat k)]) (st' := [.int (Int32.ofNat k), .ref 1000000, .long ((tp k).2 (tp k).1), .int (Int32.ofNat (tp k).1), .ref h.length]) rfl).trans ?_
      refine (in_pV rfl rfl rfl (tp_ch hk)).trans ?_
      refine (fu_cS rfl rfl rfl rfl rfl rfl tp_let).trans ?_
      refine (in_stl rfl hg i1).trans ?_
      rw [i2]
      have hset := tp_seta (h := h) (a := a) (j := 0) (fs := tp_fs h.length) (arr := tp_ar (tp k).2) (c := .inl (1, (22, .inr (.inl (tp_w (tp k).2 (tp k).1 (am_words k))))))
      rw [Nat.add_zero] at hset
      refine (congrArg (am_X am_hoN (am_D am_hoN am_m (d + 1)) none k_X8_init _ _ _) hset).trans ?_
      refine (in_sg 2 (pc' := 77) (ls' := [.ref a, .int (Int32.ofNat (tp k).1), .int (Int32.ofNat k + 1)]) (st' := []) rfl).trans ?_
      have hn : tp (k + 1) = ((tp k).1, tp_w (tp k).2 (tp k).1 (am_words k)) := by rw [tp, if_neg hb]
      have ih := tp_loop ha (d := d) m (k + 1) (by omega)
      rw [hn] at ih
      rw [in_succ]
      exact ih
def in_cell (p N : Nat) : Option am_C := match p with
  | 0 => some (.inl (0, (N, .inl fun _ => 0)))
  | 1 => some (.inl (1, (N, .inr (.inl fun _ => 0))))
  | 2 => some (.inl (2, (N, .inl fun _ => 0)))
  | _ => none
theorem in_newk {C : Nat → List Value → am_H → Option (Option Value × am_H)} {rt : Option FieldType} {code : List am_I} {pc n p q N : Nat} {ls st : List Value} {h : am_H} {v : Value} {t : ArrayType} {k : Int32} {c : am_C} (hat : am_at code pc = some (.newarray t, n, p, q, v)) (hl : h.length < 1000000) (hk : ¬ k < 0 ∧ k.toNatClampNeg = N ∧ N ≤ 65536) (hc : in_cell p N = some c) : am_X am_hoN C rt code pc ls (.int k :: st) h = am_X am_hoN C rt code (pc + n) ls (.ref h.length :: st) (h ++ [c]) := by
  obtain ⟨k1, rfl, k3⟩ := hk
  refine in_new hat ?_
  simp only [am_hoN, am_ho]
  rw [if_neg (by rintro (z | z | z) <;> first | exact k1 z | omega)]
  clear hat
  unfold in_cell at hc
  split at hc <;> cases hc <;> rfl
theorem tp_pre {h : am_H} {a : Nat} (h0 : h[a]? = some (.inr (7, am_df 7))) (hl : h.length < 900000) {C : Nat → List Value → am_H → Option (Option Value × am_H)} : am_X am_hoN C none k_X8_init 0 [.ref a, am_U, am_U] [] h = am_X am_hoN C none k_X8_init 77 [.ref a, .int 0, .int 0] [] (tp_H h a (tp_fs h.length) (tp_ar fun _ => 0)) := by
  have ha : a < h.length := (List.getElem?_eq_some_iff.mp h0).1
  have hid : tp_H h a (am_df 7) [] = h := by
    obtain ⟨h1, h2⟩ := List.getElem?_eq_some_iff.mp h0
    unfold tp_H
    rw [List.append_nil, ← h2]; exact List.set_getElem_self h1
  have hdf : am_df 7 = [.null, .null, .int 0, .null, .null, .null, .int 0, .int 0, .int 0, .int 0] := by decide +kernel
  rw [hdf] at hid
  refine (congrArg (am_X am_hoN C none k_X8_init 0 [.ref a, am_U, am_U] []) hid.symm).trans ?_
  refine (in_sg 1 (pc' := 1) (ls' := [.ref a, am_U, am_U]) (st' := [.ref a]) rfl).trans ?_
  refine (in_pI rfl rfl rfl (st' := []) (h' := (tp_H h a [.null, .null, .int 0, .null, .null, .null, .int 0, .int 0, .int 0, .int 0] [])) rfl).trans ?_
  refine (in_sg 2 (pc' := 7) (ls' := [.ref a, am_U, am_U]) (st' := [.int 22, .ref a]) rfl).trans ?_
  refine (in_newk (N := 22) (c := .inl (1, (22, .inr (.inl fun _ => 0)))) rfl (by rw [tp_len]; show h.length + 0 < 1000000; omega) (by decide) rfl).trans ?_
  rw [tp_app, tp_len]
  show am_X am_hoN C none k_X8_init 9 [.ref a, am_U, am_U] [.ref (h.length + 0), .ref a] (tp_H h a [.null, .null, .int 0, .null, .null, .null, .int 0, .int 0, .int 0, .int 0] [.inl (1, (22, .inr (.inl fun _ => 0)))]) = _
  refine (in_put rfl (tp_at ha) ⟨rfl, Nat.le_of_ble_eq_true rfl, rfl, rfl⟩).trans ?_
  rw [tp_set ha]
  refine (in_sg 2 (pc' := 16) (ls' := [.ref a, am_U, am_U]) (st' := [.int 900, .ref a]) rfl).trans ?_
  refine (in_newk (N := 900) (c := .inl (2, (900, .inl fun _ => 0))) rfl (by rw [tp_len]; show h.length + 1 < 1000000; omega) (by decide) rfl).trans ?_
  rw [tp_app, tp_len]
  show am_X am_hoN C none k_X8_init 18 [.ref a, am_U, am_U] [.ref (h.length + 1), .ref a] (tp_H h a [.ref (h.length + 0), .null, .int 0, .null, .null, .null, .int 0, .int 0, .int 0, .int 0] [.inl (1, (22, .inr (.inl fun _ => 0))), .inl (2, (900, .inl fun _ => 0))]) = _
  refine (in_put rfl (tp_at ha) ⟨rfl, Nat.le_of_ble_eq_true rfl, rfl, rfl⟩).trans ?_
  rw [tp_set ha]
  refine (in_sg 2 (pc' := 23) (ls' := [.ref a, am_U, am_U]) (st' := [.int 0, .ref a]) rfl).trans ?_
  refine (in_put rfl (tp_at ha) ⟨rfl, Nat.le_of_ble_eq_true rfl, by decide +kernel, by decide +kernel⟩).trans ?_
  rw [tp_set ha]
  refine (in_sg 2 (pc' := 30) (ls' := [.ref a, am_U, am_U]) (st' := [.int 901, .ref a]) rfl).trans ?_
  refine (in_newk (N := 901) (c := .inl (0, (901, .inl fun _ => 0))) rfl (by rw [tp_len]; show h.length + 2 < 1000000; omega) (by decide) rfl).trans ?_
  rw [tp_app, tp_len]
  show am_X am_hoN C none k_X8_init 32 [.ref a, am_U, am_U] [.ref (h.length + 2), .ref a] (tp_H h a [.ref (h.length + 0), .ref (h.length + 1), .int 0, .null, .null, .null, .int 0, .int 0, .int 0, .int 0] [.inl (1, (22, .inr (.inl fun _ => 0))), .inl (2, (900, .inl fun _ => 0)), .inl (0, (901, .inl fun _ => 0))]) = _
  refine (in_put rfl (tp_at ha) ⟨rfl, Nat.le_of_ble_eq_true rfl, rfl, rfl⟩).trans ?_
  rw [tp_set ha]
  refine (in_sg 2 (pc' := 39) (ls' := [.ref a, am_U, am_U]) (st' := [.int 901, .ref a]) rfl).trans ?_
  refine (in_newk (N := 901) (c := .inl (0, (901, .inl fun _ => 0))) rfl (by rw [tp_len]; show h.length + 3 < 1000000; omega) (by decide) rfl).trans ?_
  rw [tp_app, tp_len]
  show am_X am_hoN C none k_X8_init 41 [.ref a, am_U, am_U] [.ref (h.length + 3), .ref a] (tp_H h a [.ref (h.length + 0), .ref (h.length + 1), .int 0, .ref (h.length + 2), .null, .null, .int 0, .int 0, .int 0, .int 0] [.inl (1, (22, .inr (.inl fun _ => 0))), .inl (2, (900, .inl fun _ => 0)), .inl (0, (901, .inl fun _ => 0)), .inl (0, (901, .inl fun _ => 0))]) = _
  refine (in_put rfl (tp_at ha) ⟨rfl, Nat.le_of_ble_eq_true rfl, rfl, rfl⟩).trans ?_
  rw [tp_set ha]
  refine (in_sg 2 (pc' := 48) (ls' := [.ref a, am_U, am_U]) (st' := [.int 901, .ref a]) rfl).trans ?_
  refine (in_newk (N := 901) (c := .inl (1, (901, .inr (.inl fun _ => 0)))) rfl (by rw [tp_len]; show h.length + 4 < 1000000; omega) (by decide) rfl).trans ?_
  rw [tp_app, tp_len]
  show am_X am_hoN C none k_X8_init 50 [.ref a, am_U, am_U] [.ref (h.length + 4), .ref a] (tp_H h a [.ref (h.length + 0), .ref (h.length + 1), .int 0, .ref (h.length + 2), .ref (h.length + 3), .null, .int 0, .int 0, .int 0, .int 0] [.inl (1, (22, .inr (.inl fun _ => 0))), .inl (2, (900, .inl fun _ => 0)), .inl (0, (901, .inl fun _ => 0)), .inl (0, (901, .inl fun _ => 0)), .inl (1, (901, .inr (.inl fun _ => 0)))]) = _
  refine (in_put rfl (tp_at ha) ⟨rfl, Nat.le_of_ble_eq_true rfl, rfl, rfl⟩).trans ?_
  rw [tp_set ha]
  refine (in_sg 2 (pc' := 55) (ls' := [.ref a, am_U, am_U]) (st' := [.int 0, .ref a]) rfl).trans ?_
  refine (in_put rfl (tp_at ha) ⟨rfl, Nat.le_of_ble_eq_true rfl, by decide +kernel, by decide +kernel⟩).trans ?_
  rw [tp_set ha]
  refine (in_sg 2 (pc' := 60) (ls' := [.ref a, am_U, am_U]) (st' := [.int 0, .ref a]) rfl).trans ?_
  refine (in_put rfl (tp_at ha) ⟨rfl, Nat.le_of_ble_eq_true rfl, by decide +kernel, by decide +kernel⟩).trans ?_
  rw [tp_set ha]
  refine (in_sg 2 (pc' := 65) (ls' := [.ref a, am_U, am_U]) (st' := [.int (-1), .ref a]) rfl).trans ?_
  refine (in_put rfl (tp_at ha) ⟨rfl, Nat.le_of_ble_eq_true rfl, by decide +kernel, by decide +kernel⟩).trans ?_
  rw [tp_set ha]
  refine (in_sg 2 (pc' := 70) (ls' := [.ref a, am_U, am_U]) (st' := [.int (-1), .ref a]) rfl).trans ?_
  refine (in_put rfl (tp_at ha) ⟨rfl, Nat.le_of_ble_eq_true rfl, by decide +kernel, by decide +kernel⟩).trans ?_
  rw [tp_set ha]
  refine (in_sg 4 (pc' := 77) (ls' := [.ref a, .int 0, .int 0]) (st' := []) rfl).trans ?_
  rfl
theorem tp_run {d : Nat} {h : am_H} {a : Nat} (h0 : h[a]? = some (.inr (7, am_df 7))) (hl : h.length < 900000) : am_D am_hoN am_m (d + 2) 138 [.ref a] h = some (none, tp_H h a (tp_fs h.length) (tp_ar (tp 118).2)) := by
  have e0 : am_D am_hoN am_m (d + 2) 138 [.ref a] h = am_X am_hoN (am_D am_hoN am_m (d + 1)) none k_X8_init 0 [.ref a, am_U, am_U] [] h := by
    rw [am_D, am_at_X8_init]; rfl
  rw [e0, tp_pre h0 hl]
  exact tp_loop (List.getElem?_eq_some_iff.mp h0).1 118 0 rfl
/-! what is told of two methods, and the rest run -/
def in_O (m : Nat) (as : List Value) (h : am_H) : Option (Option (Option Value × am_H)) :=
  bif Nat.beq m 138 then (match as with
    | [.ref a] => (match (h[a]? : Option am_C) with
      | some (.inr (c, fs)) => (if c = 7 ∧ fs = am_df 7 ∧ h.length < 900000 then some (some (none, tp_H h a (tp_fs h.length) (tp_ar (tp 118).2))) else some none)
      | _ => some none)
    | _ => some none)
  else bif Nat.beq m 287 then (match as with
    | [.ref b, .int x] => (if b = 117 ∧ x = 0 then (match (h[117]? : Option am_C) with
      | some (.inr (c, fs)) => (match (fs[20]? : Option Value) with
        | some (.ref p) => (match (h[p]? : Option am_C) with
          | some (.inl (t, (N, .inl F))) => (if c = 10 ∧ t = 0 ∧ N = 1775 then some (some (none, h.set p (.inl (0, (1775, .inl (upd (upd (em_F F 355) 3 4) 4 5)))))) else some none)
          | _ => some none)
        | _ => some none)
      | _ => some none) else some none)
    | _ => some none)
  else none
theorem in_O_ok {m : Nat} {as : List Value} {h : am_H} {r : Option Value × am_H} (e : in_O m as h = some (some r)) : am_D am_hoN am_m 2 m as h = some r := by
  unfold in_O at e
  rw [cond_eq_ite] at e
  split at e
  · rename_i hm
    obtain rfl := Nat.eq_of_beq_eq_true hm
    split at e
    · rename_i a
      split at e
      · rename_i c fs hc
        split at e
        · rename_i hh
          obtain ⟨rfl, rfl, h3⟩ := hh
          cases e
          exact tp_run hc h3
        · cases e
      · cases e
    · cases e
  · rw [cond_eq_ite] at e
    split at e
    · rename_i hm
      obtain rfl := Nat.eq_of_beq_eq_true hm
      split at e
      · rename_i b x
        split at e
        · rename_i hb
          obtain ⟨rfl, rfl⟩ := hb
          split at e
          · rename_i c fs hc
            split at e
            · rename_i p hf
              split at e
              · rename_i t N F hp
                split at e
                · rename_i hh
                  obtain ⟨rfl, rfl, rfl⟩ := hh
                  cases e
                  exact em_run hc hf hp
                · cases e
              · cases e
            · cases e
          · cases e
        · cases e
      · cases e
    · cases e
def am_Dy {η : Type} (ho : Nat → Nat → Nat → List Value → η → Option (List Value × η)) (O : Nat → List Value → η → Option (Option (Option Value × η))) (ms : Nat → Option am_M) : Nat → Nat → List Value → η → Option (Option Value × η)
  | 0, _, _, _ => none
  | d + 1, m, as, h => match O m as h with
    | some r => r
    | none => (match ms m with
      | some (_, n, rt, code, _) => bif Nat.ble (am_lay as).length n then am_ex ho (am_Dy ho O ms d) rt code 400 0 (am_init as n) [] h else none
      | none => none)
theorem am_Dy_D {η : Type} {ho : Nat → Nat → Nat → List Value → η → Option (List Value × η)} {O : Nat → List Value → η → Option (Option (Option Value × η))} {ms : Nat → Option am_M} (hO : ∀ m as h r, O m as h = some (some r) → am_D ho ms 2 m as h = some r) : ∀ d, sm_C (am_Dy ho O ms d) (am_D ho ms (d + 2)) Eq
  | 0 => fun m as s h v s' _ e => by simp [am_Dy] at e
  | d + 1 => fun m as s h v s' hR e => by
    subst hR
    rw [am_Dy] at e
    cases hq : O m as s with
    | some r =>
      rw [hq] at e
      dsimp only at e
      subst e
      exact ⟨s', am_D_le (by omega) (hO _ _ _ _ hq), rfl⟩
    | none =>
      rw [hq] at e
      dsimp only at e
      rw [show d + 1 + 2 = (d + 2) + 1 from rfl, am_D]
      cases hm : ms m with
      | none => rw [hm] at e; cases e
      | some r =>
        obtain ⟨y, n, rt, code, o⟩ := r
        rw [hm] at e
        dsimp only at e ⊢
        rw [cond_eq_ite] at e ⊢
        split at e
        · rename_i hle
          rw [if_pos hle]
          obtain ⟨h', h1, h2⟩ := sm_ex sm_refl (am_Dy_D hO d) rfl e
          exact ⟨h', am_X_of h1, h2⟩
        · cases e
/-- the numbers that a list of cells holds -/
def ini_s (h : am_H) : fu_S := (fun a q => match (h[a]? : Option am_C) with
  | some (.inl (_, (_, .inl F))) => F q
  | some (.inr (_, fs)) => (match (fs[q]? : Option Value) with | some (.int x) => x | _ => 0)
  | _ => 0, fun a q => match (h[a]? : Option am_C) with
  | some (.inl (_, (_, .inr (.inl F)))) => F q
  | some (.inr (_, fs)) => (match (fs[q]? : Option Value) with | some (.long x) => x | _ => 0)
  | _ => 0)
def fu_chk (k : fu_K) (f : Nat → Int32) (g : Nat → Int64) (c : am_C) : Bool := match k, c with
  | .inl (cl, rf), .inr (cl', fs) => Nat.beq cl cl' && Nat.beq fs.length (am_N cl) && (List.range (am_N cl)).all fun q => decide (fs[q]? = some (fu_fv cl rf f g q))
  | .inr (0, n, _), .inl (0, (n', .inl _)) => Nat.beq n n'
  | .inr (1, n, _), .inl (1, (n', .inr (.inl _))) => Nat.beq n n'
  | .inr (2, n, _), .inl (2, (n', .inl _)) => Nat.beq n n'
  | .inr (3, n, r), .inl (3, (n', .inr (.inr (.inr (.inr F))))) => Nat.beq n n' && (List.range n).all fun i => decide (F i = some (r i))
  | .inr (4, n, r), .inl (4, (n', .inr (.inr (.inr (.inr F))))) => Nat.beq n n' && (List.range n).all fun i => decide (F i = some (r i))
  | _, _ => false
theorem fu_chk_ok {k : fu_K} {h : am_H} {a : Nat} {c : am_C} (hc : h[a]? = some c) (e : fu_chk k ((ini_s h).1 a) ((ini_s h).2 a) c = true) : fu_ok k ((ini_s h).1 a) ((ini_s h).2 a) c := by
  unfold fu_chk at e
  split at e
  · rename_i cl rf cl' fs
    simp only [Bool.and_eq_true, Nat.beq_eq, List.all_eq_true, List.mem_range, decide_eq_true_eq] at e
    obtain ⟨⟨rfl, h2⟩, h3⟩ := e
    exact ⟨fs, rfl, h2, h3⟩
  · obtain rfl := Nat.eq_of_beq_eq_true e
    exact ⟨_, rfl, fun i _ => by simp only [ini_s, hc]⟩
  · obtain rfl := Nat.eq_of_beq_eq_true e
    exact ⟨_, rfl, fun i _ => by simp only [ini_s, hc]⟩
  · obtain rfl := Nat.eq_of_beq_eq_true e
    exact ⟨_, rfl, fun i _ => by simp only [ini_s, hc]⟩
  · simp only [Bool.and_eq_true, Nat.beq_eq, List.all_eq_true, List.mem_range, decide_eq_true_eq] at e
    obtain ⟨rfl, h2⟩ := e
    exact ⟨_, rfl, h2⟩
  · simp only [Bool.and_eq_true, Nat.beq_eq, List.all_eq_true, List.mem_range, decide_eq_true_eq] at e
    obtain ⟨rfl, h2⟩ := e
    exact ⟨_, rfl, h2⟩
  · cases e
def ini_ok (h : am_H) : Bool := Nat.beq h.length 128 && ((List.range 128).all fun a => match (match fc_sh a with | some k => some k | none => fr_sh a), h[a]? with
  | some k, some c => fu_chk k ((ini_s h).1 a) ((ini_s h).2 a) c
  | _, _ => false) && (ini_li.all fun x => decide ((ini_s h).1 x.1 x.2.1 = x.2.2)) && ini_ll.all fun x => decide ((ini_s h).2 x.1 x.2.1 = x.2.2)
def ini_run : Bool := match am_Dy am_hoN in_O am_m 4 178 [.ref 0] [.inr (9, am_df 9)] with
  | some (none, h1) => Nat.beq h1.length 117 && (match am_Dy am_hoN in_O am_m 4 233 [.ref 117] (h1 ++ [.inr (10, am_df 10)]) with
    | some (none, h2) => ini_ok h2
    | _ => false)
  | _ => false
set_option maxRecDepth 1000000 in
theorem ini_run_ok : ini_run = true := by decide +kernel
