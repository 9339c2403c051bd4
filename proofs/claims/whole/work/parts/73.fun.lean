/-! the small machine, read as functions -/
/-- what stands at a place: an object (its number, where its fields refer to), or a row (its type's number, its length, where its elements refer to) -/
abbrev fu_K : Type := (Nat × (Nat → Option Nat)) ⊕ (Nat × Nat × (Nat → Nat))
/-- of each object's fields: 0 int, 1 boolean, 2 long, 3 a reference -/
def fu_tyL : List (List Nat) := [[3, 3], [3, 3, 0], [3, 0, 0, 0, 0, 0, 0, 0, 1], [0, 0, 0, 0, 0, 0, 3, 3, 3, 3, 3, 3, 3, 3, 3, 3, 3, 3], [3, 3, 3, 3, 0, 0, 1], [3, 3, 3, 3, 0], [3, 3, 3], [3, 3, 0, 3, 3, 3, 0, 0, 0, 0], [3, 3, 3], [3, 3, 3, 3, 3, 3, 3, 3, 3, 3, 3, 3, 3, 3, 0, 0, 2, 2], [0, 0, 2, 2, 3, 3, 3, 3, 0, 0, 0, 0, 0, 0, 0, 0, 0, 0, 0, 2, 3, 3, 3, 0, 0, 0, 3, 0, 3, 0, 3, 1, 1, 0, 0, 0, 0, 0, 0, 0]]
def fu_ty (p q : Nat) : Nat := ((fu_tyL[p]?.getD [])[q]?).getD 9
def fu_ho (sh : Nat → Option fu_K) (op p q : Nat) (st : List Value) (s : fu_S) : Option (List Value × fu_S) :=
  match op, st with
  | 0, .ref a :: r => (match sh a with
    | some (.inl (c, rf)) => (if c = p then (match rf q with
      | some b => (if fu_ty p q = 3 then some (.ref b :: r, s) else none)
      | none => (match fu_ty p q with
        | 0 => some (.int (s.1 a q) :: r, s)
        | 1 => some (.int (fu_b (fu_tb (s.1 a q))) :: r, s)
        | 2 => some (.long (s.2 a q) :: r, s)
        | _ => none)) else none)
    | _ => none)
  | 1, .int x :: .ref a :: r => (match sh a with
    | some (.inl (c, rf)) => (if c = p ∧ rf q = none then (match fu_ty p q with
      | 0 => some (r, fu_pi s a q x)
      | 1 => (if x = 0 ∨ x = 1 then some (r, fu_pi s a q x) else none)
      | _ => none) else none)
    | _ => none)
  | 1, .long x :: .ref a :: r => (match sh a with
    | some (.inl (c, rf)) => (if c = p ∧ rf q = none then (match fu_ty p q with
      | 2 => some (r, fu_pl s a q x)
      | _ => none) else none)
    | _ => none)
  | 2, .int i :: .ref a :: r => (match sh a with
    | some (.inr (0, n, _)) => (if am_in i n = true then some (.int (s.1 a i.toNatClampNeg) :: r, s) else none)
    | _ => none)
  | 3, .int x :: .int i :: .ref a :: r => (match sh a with
    | some (.inr (0, n, _)) => (if am_in i n = true then some (r, fu_pi s a i.toNatClampNeg x) else none)
    | _ => none)
  | 4, .int i :: .ref a :: r => (match sh a with
    | some (.inr (1, n, _)) => (if am_in i n = true then some (.long (s.2 a i.toNatClampNeg) :: r, s) else none)
    | _ => none)
  | 5, .long x :: .int i :: .ref a :: r => (match sh a with
    | some (.inr (1, n, _)) => (if am_in i n = true then some (r, fu_pl s a i.toNatClampNeg x) else none)
    | _ => none)
  | 6, .int i :: .ref a :: r => (match sh a with
    | some (.inr (2, n, _)) => (if am_in i n = true then some (.int (s.1 a i.toNatClampNeg) :: r, s) else none)
    | _ => none)
  | 7, .int x :: .int i :: .ref a :: r => (match sh a with
    | some (.inr (2, n, _)) => (if am_in i n = true then some (r, fu_pi s a i.toNatClampNeg (fu_by x)) else none)
    | _ => none)
  | 8, .int i :: .ref a :: r => (match sh a with
    | some (.inr (t, n, f)) => (if (t = 3 ∨ t = 4) ∧ am_in i n = true then some (.ref (f i.toNatClampNeg) :: r, s) else none)
    | _ => none)
  | 16, .ref a :: _ => (match am_m p, sh a with | some (_, _, _, _, o), some (.inl (c, _)) => (bif Nat.beq (am_oc c) o then some ([], s) else none) | _, _ => none)
  | 1000, .int y :: .int x :: r => some (.int (if x < y then y else x) :: r, s)
  | 1001, .int y :: .int x :: r => some (.int (if y < x then y else x) :: r, s)
  | 1002, .int x :: r => some (.int (if 0 ≤ x then x else 0 - x) :: r, s)
  | 1003, .long x :: r => some (.long (if 0 < x then x else -x) :: r, s)
  | 1004, .int n :: .int dp :: .ref a :: .int sp :: .ref a0 :: r => (match sh a0, sh a with
    | some (.inr (0, n0, _)), some (.inr (0, n1, _)) => (if ¬ sp < 0 ∧ ¬ dp < 0 ∧ ¬ n < 0 ∧ sp.toNatClampNeg + n.toNatClampNeg ≤ n0 ∧ dp.toNatClampNeg + n.toNatClampNeg ≤ n1 then some (r, fu_ci s a0 sp.toNatClampNeg a dp.toNatClampNeg n.toNatClampNeg) else none)
    | some (.inr (1, n0, _)), some (.inr (1, n1, _)) => (if ¬ sp < 0 ∧ ¬ dp < 0 ∧ ¬ n < 0 ∧ sp.toNatClampNeg + n.toNatClampNeg ≤ n0 ∧ dp.toNatClampNeg + n.toNatClampNeg ≤ n1 then some (r, fu_cl s a0 sp.toNatClampNeg a dp.toNatClampNeg n.toNatClampNeg) else none)
    | _, _ => none)
  | _, _ => none
/-! locals that are known less -/
def am_lle : List Value → List Value → Prop
  | [], [] => True
  | a :: x, b :: y => (a = am_U ∨ a = b) ∧ am_lle x y
  | _, _ => False
theorem am_lle_rf : ∀ l, am_lle l l
  | [] => trivial
  | _ :: t => ⟨.inr rfl, am_lle_rf t⟩
theorem am_lle_len : ∀ {l l' : List Value}, am_lle l l' → l.length = l'.length
  | [], [], _ => rfl
  | _ :: x, _ :: y, h => by simp [am_lle_len h.2]
  | [], _ :: _, h => h.elim
  | _ :: _, [], h => h.elim
theorem am_lle_at : ∀ {l l' : List Value} {i : Nat} {v : Value}, am_lle l l' → l[i]? = some v → v = am_U ∨ l'[i]? = some v
  | [], _, i, v, _, e => by simp at e
  | _ :: _, [], _, _, h, _ => h.elim
  | a :: x, b :: y, 0, v, h, e => by
    simp at e
    subst e
    rcases h.1 with h1 | h1
    · exact .inl h1
    · exact .inr (by simp [h1])
  | a :: x, b :: y, i + 1, v, h, e => by
    simp at e ⊢
    exact am_lle_at h.2 e
theorem am_lle_set : ∀ {l l' : List Value} (i : Nat) (v : Value), am_lle l l' → am_lle (l.set i v) (l'.set i v)
  | [], [], _, _, _ => trivial
  | _ :: _, [], _, _, h => h.elim
  | [], _ :: _, _, _, h => h.elim
  | a :: x, b :: y, 0, v, h => ⟨.inr rfl, h.2⟩
  | a :: x, b :: y, i + 1, v, h => ⟨h.1, am_lle_set i v h.2⟩
theorem am_lle_setR : ∀ {l l' : List Value} (i : Nat) (v : Value), am_lle l l' → l[i]? = some am_U → am_lle l (l'.set i v)
  | [], [], _, _, _, _ => trivial
  | _ :: _, [], _, _, h, _ => h.elim
  | [], _ :: _, _, _, h, _ => h.elim
  | a :: x, b :: y, 0, v, h, e => by
    simp at e
    exact ⟨.inl e, h.2⟩
  | a :: x, b :: y, i + 1, v, h, e => by
    simp at e
    exact ⟨h.1, am_lle_setR i v h.2 e⟩
theorem am_lle_kill {l l' : List Value} (i : Nat) (h : am_lle l l') : am_lle (am_kill l i) (am_kill l' i) := by
  cases i with
  | zero => exact h
  | succ j =>
    cases e : l[j]? with
    | none =>
      have e' : l'[j]? = none := by
        rw [List.getElem?_eq_none_iff] at e ⊢
        rw [← am_lle_len h]; exact e
      simp only [am_kill, e, e']
      exact h
    | some v =>
      rcases am_lle_at h e with h1 | h1
      · subst h1
        simp only [am_kill, e]
        split
        · exact am_lle_setR _ _ h e
        · exact am_lle_setR _ _ h e
        · exact h
      · simp only [am_kill, e, h1]
        split
        · exact am_lle_set _ _ h
        · exact am_lle_set _ _ h
        · exact h
theorem am_lle_put1 {l l' r : List Value} {i : Nat} {v : Value} (h : am_lle l l') (e : am_put1 l i v = some r) : ∃ r', am_put1 l' i v = some r' ∧ am_lle r r' := by
  unfold am_put1 at e ⊢
  rw [← am_lle_len h]
  split at e
  · rename_i hl
    cases e
    exact ⟨_, if_pos hl, am_lle_set _ _ (am_lle_kill _ h)⟩
  · cases e
theorem am_lle_put2 {l l' r : List Value} {i : Nat} {v : Value} (h : am_lle l l') (e : am_put2 l i v = some r) : ∃ r', am_put2 l' i v = some r' ∧ am_lle r r' := by
  unfold am_put2 at e ⊢
  rw [← am_lle_len h]
  split at e
  · rename_i hl
    cases e
    exact ⟨_, if_pos hl, am_lle_set _ _ (am_lle_set _ _ (am_lle_kill _ h))⟩
  · cases e
section LLE
variable {η : Type} {ho : Nat → Nat → Nat → List Value → η → Option (List Value × η)} {C : Nat → List Value → η → Option (Option Value × η)} {rt : Option FieldType} {code : List am_I}
set_option maxHeartbeats 4000000 in
theorem am_step_le {i : Instr} {n p q : Nat} {v : Value} {pc : Nat} {ls ls' st : List Value} {h : η} {c : Nat × List Value × List Value × η} (hle : am_lle ls ls') (e : am_step ho i n p q v pc ls st h = some c) :
    ∃ l', am_step ho i n p q v pc ls' st h = some (c.1, l', c.2.2.1, c.2.2.2) ∧ am_lle c.2.1 l' := by
  unfold am_step at e
  split at e
  all_goals first
    | (cases e; done)
    | (cases e; exact ⟨ls', rfl, hle⟩)
    | (split at e
       · rename_i x hx
         cases e
         exact (am_lle_at hle hx).elim (fun z => by cases z) fun h1 => ⟨ls', by simp only [am_step, h1], hle⟩
       · cases e
       done)
    | (split at e
       · rename_i l hl
         cases e
         first
           | exact (am_lle_put1 hle hl).elim fun r' hr => ⟨r', by simp only [am_step, hr.1], hr.2⟩
           | exact (am_lle_put2 hle hl).elim fun r' hr => ⟨r', by simp only [am_step, hr.1], hr.2⟩
       · cases e
       done)
    | (split at e
       · rename_i x k hx
         split at e
         · rename_i l hl
           cases e
           exact (am_lle_put1 hle hl).elim fun r' hr => (am_lle_at hle hx).elim (fun z => by cases z) fun h3 => ⟨r', by simp only [am_step, hr.1, h3], hr.2⟩
         · cases e
       · cases e
       done)
    | (split at e
       · cases e
       · rename_i hc
         cases e
         exact ⟨ls', by simp only [am_step, if_neg hc], hle⟩
       done)
    | (split at e
       · rename_i hc
         cases e
         exact ⟨ls', by simp only [am_step, if_pos hc], hle⟩
       · rename_i hc
         cases e
         exact ⟨ls', by simp only [am_step, if_neg hc], hle⟩
       done)
    | (split at e
       · rename_i hc
         cases e
         exact ⟨ls', by simp only [am_step, hc], hle⟩
       · cases e
       done)
    | (split at e
       · rename_i hc
         cases e
         exact ⟨ls', by simp only [am_step, if_pos hc], hle⟩
       · rename_i hc
         split at e
         · rename_i o ho
           cases e
           exact ⟨ls', by simp only [am_step, if_neg hc, ho], hle⟩
         · cases e
       done)
theorem am_X_step {i : Instr} {n p q : Nat} {v : Value} {pc : Nat} {ls st : List Value} {h : η} {c' : Nat × List Value × List Value × η} (hat : am_at code pc = some (i, n, p, q, v)) (e : am_step ho i n p q v pc ls st h = some c') :
    am_X ho C rt code pc ls st h = am_X ho C rt code c'.1 c'.2.1 c'.2.2.1 c'.2.2.2 := by
  rw [am_X_eq]
  have h1 : am_one ho C rt code pc ls st h = some (.inr c') := by
    unfold am_one
    rw [hat]
    dsimp only
    split
    all_goals first
      | (exfalso; revert e; simp [am_step]; done)
      | (rw [e])
  rw [h1]
theorem am_one_le {pc : Nat} {ls ls' st : List Value} {h : η} {r : (Option Value × η) ⊕ (Nat × List Value × List Value × η)} (hle : am_lle ls ls') (e : am_one ho C rt code pc ls st h = some r) :
    (∃ x, r = .inl x ∧ am_one ho C rt code pc ls' st h = some (.inl x)) ∨ (∃ c l', r = .inr c ∧ am_one ho C rt code pc ls' st h = some (.inr (c.1, l', c.2.2.1, c.2.2.2)) ∧ am_lle c.2.1 l') := by
  unfold am_one at e ⊢
  cases hat : am_at code pc with
  | none => rw [hat] at e; cases e
  | some t =>
    obtain ⟨i, n, p, q, v⟩ := t
    rw [hat] at e
    dsimp only at e ⊢
    split at e
    · split at e
      · cases e; exact .inl ⟨_, rfl, rfl⟩
      · cases e
    · split at e
      · split at e
        · rename_i hc
          cases e; exact .inl ⟨_, rfl, if_pos hc⟩
        · cases e
      · cases e
    · split at e
      · cases e; exact .inl ⟨_, rfl, rfl⟩
      · cases e
    · right
      rw [cond_eq_ite] at e ⊢
      split at e
      · rename_i hp
        split at e
        · rename_i h16
          split at e
          · rename_i st' h' hh
            cases e
            exact ⟨_, ls', rfl, by rw [if_pos hp, if_pos h16]; try simp only [hh], hle⟩
          · cases e
        · cases e
      · rename_i hp
        split at e
        · rename_i a r hst
          split at e
          · rename_i h8
            split at e
            · rename_i y hy
              split at e
              · rename_i w h' hC
                cases e
                exact ⟨_, ls', rfl, by rw [if_neg hp]; simp only [hst, if_pos h8, hy, hC], hle⟩
              · cases e
            · cases e
          · cases e
        · cases e
    · right
      rw [cond_eq_ite] at e ⊢
      split at e
      · rename_i hp
        split at e
        · rename_i h16
          split at e
          · rename_i st' h' hh
            cases e
            exact ⟨_, ls', rfl, by rw [if_pos hp, if_pos h16]; try simp only [hh], hle⟩
          · cases e
        · cases e
      · rename_i hp
        split at e
        · rename_i h8
          split at e
          · rename_i w h' hC
            cases e
            exact ⟨_, ls', rfl, by rw [if_neg hp, if_pos h8]; try simp only [hC], hle⟩
          · cases e
        · cases e
    · right
      rw [cond_eq_ite] at e ⊢
      split at e
      · rename_i hp
        split at e
        · rename_i h16
          split at e
          · rename_i st' h' hh
            cases e
            exact ⟨_, ls', rfl, by rw [if_pos hp, if_pos h16]; try simp only [hh], hle⟩
          · cases e
        · cases e
      · rename_i hp
        split at e
        · rename_i a r hst
          split at e
          · rename_i h8
            split at e
            · rename_i w h' hC
              cases e
              exact ⟨_, ls', rfl, by rw [if_neg hp]; simp only [hst, if_pos h8, hC], hle⟩
            · cases e
          · cases e
        · cases e
    · right
      split at e
      · rename_i c hc
        cases e
        exact (am_step_le hle hc).elim fun l' h1 => ⟨c, l', rfl, by simp only [h1.1], h1.2⟩
      · cases e
theorem am_ex_le2 : ∀ {n pc : Nat} {ls ls' st : List Value} {h : η} {r : Option Value × η}, am_lle ls ls' → am_ex ho C rt code n pc ls st h = some r → am_ex ho C rt code n pc ls' st h = some r
  | 0, _, _, _, _, _, _, _, e => by simp [am_ex] at e
  | n + 1, pc, ls, ls', st, h, r, hle, e => by
    rw [am_ex] at e ⊢
    cases h1 : am_one ho C rt code pc ls st h with
    | none => rw [h1] at e; cases e
    | some x =>
      rw [h1] at e
      rcases am_one_le hle h1 with ⟨y, rfl, h2⟩ | ⟨c, l', rfl, h2, h3⟩
      · rw [h2]; exact e
      · rw [h2]; exact am_ex_le2 h3 e
theorem am_X_le {pc : Nat} {ls ls' st : List Value} {h : η} {r : Option Value × η} (hle : am_lle ls ls') (e : am_X ho C rt code pc ls st h = some r) : am_X ho C rt code pc ls' st h = some r := by
  obtain ⟨n, e⟩ := am_X_ex e
  exact am_X_of (am_ex_le2 hle e)
def am_go (ho : Nat → Nat → Nat → List Value → η → Option (List Value × η)) (code : List am_I) : Nat → Nat × List Value × List Value × η → Option (Nat × List Value × List Value × η)
  | 0, c => some c
  | k + 1, c => match am_at code c.1 with
    | some (i, n, p, q, v) => (match am_step ho i n p q v c.1 c.2.1 c.2.2.1 c.2.2.2 with | some c' => am_go ho code k c' | none => none)
    | none => none
theorem am_go_X : ∀ {k : Nat} {c c' : Nat × List Value × List Value × η}, am_go ho code k c = some c' → am_X ho C rt code c.1 c.2.1 c.2.2.1 c.2.2.2 = am_X ho C rt code c'.1 c'.2.1 c'.2.2.1 c'.2.2.2
  | 0, c, c', e => by cases e; rfl
  | k + 1, c, c', e => by
    rw [am_go] at e
    split at e
    · rename_i i n p q v hat
      split at e
      · rename_i c1 h1
        rw [am_X_step hat h1]
        exact am_go_X e
      · cases e
    · cases e
end LLE
/-! what a function answers, the machine comes to -/
def fu_J {α η : Type} (x : Option α) (W : α → Option (Option Value × η)) (Z : Option (Option Value × η)) : Prop := ∀ r, x = some r → ∀ y, W r = some y → Z = some y
section FUJ
variable {α β η : Type} {x y : Option α} {W : α → Option (Option Value × η)} {Z Z' : Option (Option Value × η)}
theorem fu_none : fu_J (none : Option α) W Z := fun _ h => by cases h
theorem fu_ret {a : α} (h : W a = Z) : fu_J (some a) W Z := fun r e y hy => by cases e; rw [← h]; exact hy
theorem fu_step (e : Z = Z') (h : fu_J x W Z') : fu_J x W Z := by rw [e]; exact h
theorem fu_ite {c : Prop} [Decidable c] (h1 : c → fu_J x W Z) (h2 : ¬ c → fu_J y W Z) : fu_J (if c then x else y) W Z := by
  split
  · exact h1 ‹_›
  · exact h2 ‹_›
theorem fu_iteS {c : Prop} [Decidable c] {a b : α} (h1 : c → fu_J (some a) W Z) (h2 : ¬ c → fu_J (some b) W Z) : fu_J (some (if c then a else b)) W Z := by
  split
  · exact h1 ‹_›
  · exact h2 ‹_›
theorem fu_guard {c : Prop} [Decidable c] (h1 : c → fu_J x W Z) : fu_J (if c then x else none) W Z := fu_ite h1 (fun _ => fu_none)
theorem fu_bind {z : Option β} {k : β → Option α} {V : β → Option (Option Value × η)} (h1 : fu_J z V Z) (h2 : ∀ r, fu_J (k r) W (V r)) : fu_J (z.bind k) W Z := by
  intro r e y hy
  cases hz : z with
  | none => rw [hz] at e; cases e
  | some b =>
    rw [hz] at e
    exact h1 b hz y (h2 b r e y hy)
theorem fu_let {b : β} {k : β → Option α} {V : β → Option (Option Value × η)} (h1 : fu_J (some b) V Z) (h2 : ∀ r, fu_J (k r) W (V r)) : fu_J (fu_lt b k) W Z := fu_bind (z := some b) h1 h2
theorem fu_letS {b : β} {k : β → α} {V : β → Option (Option Value × η)} (h1 : fu_J (some b) V Z) (h2 : ∀ r, fu_J (some (k r)) W (V r)) : fu_J (some (fu_lt b k)) W Z := fu_bind (z := some b) (k := fun b => some (k b)) h1 h2
/-- an answer that is at hand -/
theorem fu_eq {a : α} {w : Option Value × η} (h : fu_J (some a) W Z) (e : W a = some w) : Z = some w := h a rfl w e
theorem fu_sum {β γ : Type} {u : β ⊕ γ} {f : β → Option α} {g : γ → Option α} {V : β ⊕ γ → Option (Option Value × η)} (h1 : ∀ b, fu_J (f b) W (V (.inl b))) (h2 : ∀ c, fu_J (g c) W (V (.inr c))) : fu_J (Sum.elim f g u) W (V u) := by
  cases u with
  | inl b => exact h1 b
  | inr c => exact h2 c
end FUJ
section FUX
variable {α η : Type} {x y : Option α} {ho : Nat → Nat → Nat → List Value → η → Option (List Value × η)} {C : Nat → List Value → η → Option (Option Value × η)} {rt : Option FieldType} {code : List am_I} {pc pc' : Nat} {ls ls' st st' : List Value} {s s' : η} {W : α → Option (Option Value × η)}
theorem fu_go (k : Nat) (e : am_go ho code k (pc, ls, st, s) = some (pc', ls', st', s')) (h : fu_J x W (am_X ho C rt code pc' ls' st' s')) : fu_J x W (am_X ho C rt code pc ls st s) := fu_step (am_go_X (C := C) (rt := rt) e) h
/-- the end of a piece: the locals that its end doesn't know are let go -/
theorem fu_leaf {a : α} (e : W a = am_X ho C rt code pc ls' st s) (h : am_lle ls' ls) : fu_J (some a) W (am_X ho C rt code pc ls st s) := fun r e1 y hy => by
  cases e1
  rw [e] at hy
  exact am_X_le h hy
theorem fu_drop (h : am_lle ls' ls) (hj : fu_J x W (am_X ho C rt code pc ls' st s)) : fu_J x W (am_X ho C rt code pc ls st s) := fun r e y hy => am_X_le h (hj r e y hy)
theorem fu_iret {a : α} {v : Int32} {n p q : Nat} {u : Value} (hat : am_at code pc = some (.ireturn, n, p, q, u)) (hW : W a = some (some (.int v), s)) : fu_J (some a) W (am_X ho C (some .int) code pc ls [.int v] s) := fu_ret (by rw [am_X_eq, hW]; simp [am_one, hat, narrow])
theorem fu_bret {a : α} {b : Bool} {n p q : Nat} {u : Value} (hat : am_at code pc = some (.ireturn, n, p, q, u)) (hW : W a = some (some (.int (fu_b b)), s)) : fu_J (some a) W (am_X ho C (some .boolean) code pc ls [.int (fu_b b)] s) := fu_ret (by rw [am_X_eq, hW]; cases b <;> simp [am_one, hat, narrow, fu_b])
theorem fu_lret {a : α} {v : Int64} {n p q : Nat} {u : Value} (hat : am_at code pc = some (.lreturn, n, p, q, u)) (hW : W a = some (some (.long v), s)) : fu_J (some a) W (am_X ho C (some .long) code pc ls [.long v] s) := fu_ret (by rw [am_X_eq, hW]; simp [am_one, hat])
theorem fu_vret {a : α} {n p q : Nat} {u : Value} (hat : am_at code pc = some (.return_, n, p, q, u)) (hW : W a = some (none, s)) : fu_J (some a) W (am_X ho C none code pc ls [] s) := fu_ret (by rw [am_X_eq, hW]; simp [am_one, hat])
theorem fu_enter {ms : Nat → Option am_M} {d m : Nat} {as : List Value} {n o : Nat} {y : MethodName} (hm : ms m = some (y, n, rt, code, o)) (hl : Nat.ble (am_lay as).length n = true) (hi : am_init as n = ls) (h : fu_J x W (am_X ho (am_D ho ms d) rt code 0 ls [] s)) : fu_J x W (am_D ho ms (d + 1) m as s) := by
  have e : am_D ho ms (d + 1) m as s = am_X ho (am_D ho ms d) rt code 0 ls [] s := by
    rw [am_D, hm]
    dsimp only
    rw [hl, hi]
    rfl
  rw [e]; exact h
end FUX
