/-! two small machines over heaps that stand in a relation -/
section SIM
variable {η θ : Type} {ho : Nat → Nat → Nat → List Value → η → Option (List Value × η)} {go : Nat → Nat → Nat → List Value → θ → Option (List Value × θ)} {C : Nat → List Value → η → Option (Option Value × η)} {E : Nat → List Value → θ → Option (Option Value × θ)} {R : η → θ → Prop} {rt : Option FieldType} {code : List am_I}
def sm_ho (ho : Nat → Nat → Nat → List Value → η → Option (List Value × η)) (go : Nat → Nat → Nat → List Value → θ → Option (List Value × θ)) (R : η → θ → Prop) : Prop := ∀ op p q st s h st' s', R s h → ho op p q st s = some (st', s') → ∃ h', go op p q st h = some (st', h') ∧ R s' h'
def sm_C (C : Nat → List Value → η → Option (Option Value × η)) (E : Nat → List Value → θ → Option (Option Value × θ)) (R : η → θ → Prop) : Prop := ∀ m as s h v s', R s h → C m as s = some (v, s') → ∃ h', E m as h = some (v, h') ∧ R s' h'
set_option maxHeartbeats 4000000 in
theorem sm_step (hs : sm_ho ho go R) {i : Instr} {n p q : Nat} {v : Value} {pc : Nat} {ls st : List Value} {s : η} {h : θ} {c : Nat × List Value × List Value × η} (hR : R s h) (e : am_step ho i n p q v pc ls st s = some c) :
    ∃ h', am_step go i n p q v pc ls st h = some (c.1, c.2.1, c.2.2.1, h') ∧ R c.2.2.2 h' := by
  unfold am_step at e
  split at e
  all_goals first
    | (cases e; done)
    | (cases e; exact ⟨h, rfl, hR⟩)
    | (split at e
       · rename_i st1 s1 hh
         cases e
         exact (hs _ _ _ _ _ _ _ _ hR hh).elim fun h' z => ⟨h', by simp only [am_step, z.1], z.2⟩
       · cases e
       done)
    | (split at e
       · rename_i x hx
         cases e
         exact ⟨h, by simp only [am_step, hx], hR⟩
       · cases e
       done)
    | (split at e
       · rename_i x k hx
         split at e
         · rename_i l hl
           cases e
           exact ⟨h, by simp only [am_step, hl, hx], hR⟩
         · cases e
       · cases e
       done)
    | (split at e
       · cases e
       · rename_i hc
         cases e
         exact ⟨h, by simp only [am_step, if_neg hc], hR⟩
       done)
    | (split at e
       · rename_i hc
         cases e
         exact ⟨h, by simp only [am_step, if_pos hc], hR⟩
       · rename_i hc
         cases e
         exact ⟨h, by simp only [am_step, if_neg hc], hR⟩
       done)
    | (split at e
       · rename_i hc
         cases e
         exact ⟨h, by simp only [am_step, if_pos hc], hR⟩
       · rename_i hc
         split at e
         · rename_i o ho
           cases e
           exact ⟨h, by simp only [am_step, if_neg hc, ho], hR⟩
         · cases e
       done)
theorem sm_one (hs : sm_ho ho go R) (hC : sm_C C E R) {pc : Nat} {ls st : List Value} {s : η} {h : θ} {r : (Option Value × η) ⊕ (Nat × List Value × List Value × η)} (hR : R s h) (e : am_one ho C rt code pc ls st s = some r) :
    (∃ v s' h', r = .inl (v, s') ∧ am_one go E rt code pc ls st h = some (.inl (v, h')) ∧ R s' h') ∨ (∃ c h', r = .inr c ∧ am_one go E rt code pc ls st h = some (.inr (c.1, c.2.1, c.2.2.1, h')) ∧ R c.2.2.2 h') := by
  unfold am_one at e ⊢
  cases hat : am_at code pc with
  | none => rw [hat] at e; cases e
  | some t =>
    obtain ⟨i, n, p, q, v⟩ := t
    rw [hat] at e
    dsimp only at e ⊢
    split at e
    · split at e
      · cases e; exact .inl ⟨_, _, h, rfl, rfl, hR⟩
      · cases e
    · split at e
      · split at e
        · rename_i hc
          cases e; exact .inl ⟨_, _, h, rfl, if_pos hc, hR⟩
        · cases e
      · cases e
    · split at e
      · cases e; exact .inl ⟨_, _, h, rfl, rfl, hR⟩
      · cases e
    · right
      rw [cond_eq_ite] at e ⊢
      split at e
      · rename_i hp
        split at e
        · rename_i h16
          split at e
          · rename_i st' s' hh
            cases e
            exact (hs _ _ _ _ _ _ _ _ hR hh).elim fun h' z => ⟨_, h', rfl, by rw [if_pos hp, if_pos h16]; simp only [z.1], z.2⟩
          · cases e
        · cases e
      · rename_i hp
        split at e
        · rename_i a r hst
          split at e
          · rename_i h8
            split at e
            · rename_i y hy
              split at e
              · rename_i w s' hc
                cases e
                obtain ⟨y1, y2⟩ := y
                exact (hs _ _ _ _ _ _ _ _ hR hy).elim fun h1 z1 => (hC _ _ _ _ _ _ hR hc).elim fun h' z => ⟨_, h', rfl, by rw [if_neg hp]; simp only [hst, if_pos h8, z1.1, z.1], z.2⟩
              · cases e
            · cases e
          · cases e
        · cases e
    · right
      rw [cond_eq_ite] at e ⊢
      split at e
      · rename_i hp
        split at e
        · rename_i h16
          split at e
          · rename_i st' s' hh
            cases e
            exact (hs _ _ _ _ _ _ _ _ hR hh).elim fun h' z => ⟨_, h', rfl, by rw [if_pos hp, if_pos h16]; simp only [z.1], z.2⟩
          · cases e
        · cases e
      · rename_i hp
        split at e
        · rename_i h8
          split at e
          · rename_i w s' hc
            cases e
            exact (hC _ _ _ _ _ _ hR hc).elim fun h' z => ⟨_, h', rfl, by rw [if_neg hp, if_pos h8]; simp only [z.1], z.2⟩
          · cases e
        · cases e
    · right
      rw [cond_eq_ite] at e ⊢
      split at e
      · rename_i hp
        split at e
        · rename_i h16
          split at e
          · rename_i st' s' hh
            cases e
            exact (hs _ _ _ _ _ _ _ _ hR hh).elim fun h' z => ⟨_, h', rfl, by rw [if_pos hp, if_pos h16]; simp only [z.1], z.2⟩
          · cases e
        · cases e
      · rename_i hp
        split at e
        · rename_i a r hst
          split at e
          · rename_i h8
            split at e
            · rename_i w s' hc
              cases e
              exact (hC _ _ _ _ _ _ hR hc).elim fun h' z => ⟨_, h', rfl, by rw [if_neg hp]; simp only [hst, if_pos h8, z.1], z.2⟩
            · cases e
          · cases e
        · cases e
    · right
      split at e
      · rename_i c hc
        cases e
        exact (sm_step hs hR hc).elim fun h' z => ⟨c, h', rfl, by simp only [z.1], z.2⟩
      · cases e
theorem sm_ex (hs : sm_ho ho go R) (hC : sm_C C E R) : ∀ {n pc : Nat} {ls st : List Value} {s : η} {h : θ} {v : Option Value} {s' : η}, R s h → am_ex ho C rt code n pc ls st s = some (v, s') → ∃ h', am_ex go E rt code n pc ls st h = some (v, h') ∧ R s' h'
  | 0, _, _, _, _, _, _, _, _, e => by simp [am_ex] at e
  | n + 1, pc, ls, st, s, h, v, s', hR, e => by
    rw [am_ex] at e ⊢
    cases h1 : am_one ho C rt code pc ls st s with
    | none => rw [h1] at e; cases e
    | some x =>
      rw [h1] at e
      rcases sm_one hs hC hR h1 with ⟨v1, s1, h', rfl, h2, h3⟩ | ⟨c, h', rfl, h2, h3⟩
      · cases e
        rw [h2]; exact ⟨h', rfl, h3⟩
      · rw [h2]; exact sm_ex hs hC h3 e
theorem sm_D {ms : Nat → Option am_M} (hs : sm_ho ho go R) : ∀ d, sm_C (am_D ho ms d) (am_D go ms d) R
  | 0 => fun m as s h v s' _ e => by simp [am_D] at e
  | d + 1 => fun m as s h v s' hR e => by
    rw [am_D] at e ⊢
    cases hm : ms m with
    | none => rw [hm] at e; cases e
    | some r =>
      obtain ⟨y, n, rt, code, o⟩ := r
      rw [hm] at e
      dsimp only at e ⊢
      rw [cond_eq_ite] at e ⊢
      split at e
      · rename_i hle
        rw [if_pos hle]
        obtain ⟨k, e⟩ := am_X_ex e
        obtain ⟨h', h1, h2⟩ := sm_ex hs (sm_D hs d) hR e
        exact ⟨h', am_X_of h1, h2⟩
      · cases e
end SIM
/-! a heap of numbers, and the list of cells that it stands for -/
def fu_fv (c : Nat) (rf : Nat → Option Nat) (f : Nat → Int32) (g : Nat → Int64) (q : Nat) : Value := match rf q with
  | some b => .ref b
  | none => (match fu_ty c q with
    | 2 => .long (g q)
    | 1 => .int (fu_b (fu_tb (f q)))
    | _ => .int (f q))
def fu_ok (k : fu_K) (f : Nat → Int32) (g : Nat → Int64) (c : am_C) : Prop := match k with
  | .inl (cl, rf) => ∃ fs, c = .inr (cl, fs) ∧ fs.length = am_N cl ∧ ∀ q, q < am_N cl → fs[q]? = some (fu_fv cl rf f g q)
  | .inr (0, n, _) => ∃ F, c = .inl (0, (n, .inl F)) ∧ ∀ i, i < n → F i = f i
  | .inr (1, n, _) => ∃ F, c = .inl (1, (n, .inr (.inl F))) ∧ ∀ i, i < n → F i = g i
  | .inr (2, n, _) => ∃ F, c = .inl (2, (n, .inl F)) ∧ ∀ i, i < n → F i = f i
  | .inr (t, n, r) => ∃ F, c = .inl (t, (n, .inr (.inr (.inr (.inr F))))) ∧ ∀ i, i < n → F i = some (r i)
/-- h has at each place of sh what the numbers s say, and elsewhere what H has -/
def fu_R (sh : Nat → Option fu_K) (H : am_H) (s : fu_S) (h : am_H) : Prop := (∀ a, sh a = none → h[a]? = H[a]?) ∧ ∀ a k, sh a = some k → ∃ c, h[a]? = some c ∧ fu_ok k (s.1 a) (s.2 a) c
theorem fu_R_set {sh : Nat → Option fu_K} {H : am_H} {s s' : fu_S} {h : am_H} {a : Nat} {k : fu_K} {c : am_C} (hR : fu_R sh H s h) (ha : sh a = some k) (hc : fu_ok k (s'.1 a) (s'.2 a) c) (h1 : ∀ b, b ≠ a → s'.1 b = s.1 b) (h2 : ∀ b, b ≠ a → s'.2 b = s.2 b) : fu_R sh H s' (h.set a c) := by
  obtain ⟨r1, r2⟩ := hR
  obtain ⟨c0, hc0, -⟩ := r2 a k ha
  have hl : a < h.length := (List.getElem?_eq_some_iff.mp hc0).1
  refine ⟨fun b hb => ?_, fun b kb hb => ?_⟩
  · have hne : a ≠ b := fun z => by subst z; rw [ha] at hb; cases hb
    rw [List.getElem?_set_ne hne]
    exact r1 b hb
  · by_cases hab : a = b
    · subst hab
      rw [ha] at hb; cases hb
      exact ⟨c, List.getElem?_set_self hl, hc⟩
    · rw [List.getElem?_set_ne hab]
      obtain ⟨c1, e1, e2⟩ := r2 b kb hb
      exact ⟨c1, e1, by rw [h1 b (fun z => hab z.symm), h2 b (fun z => hab z.symm)]; exact e2⟩
theorem fu_ty_lt {p q : Nat} (h : fu_ty p q ≠ 9) : p < 11 ∧ q < am_N p := by
  have hl : ∀ p, p < 11 → (fu_tyL[p]?.getD []).length = am_N p := by decide +kernel
  unfold fu_ty at h
  by_cases hp : p < 11
  · refine ⟨hp, ?_⟩
    rw [← hl p hp]
    refine Nat.not_le.mp fun z => h ?_
    rw [List.getElem?_eq_none z]; rfl
  · exfalso
    apply h
    rw [List.getElem?_eq_none (show fu_tyL.length ≤ p by show 11 ≤ p; omega)]
    rfl
theorem fu_ty_ok : ∀ p, p < 11 → ∀ q, q < am_N p → (fu_ty p q = 0 → am_ty p q = .int) ∧ (fu_ty p q = 1 → am_ty p q = .boolean) ∧ (fu_ty p q = 2 → am_ty p q = .long) := by decide +kernel
