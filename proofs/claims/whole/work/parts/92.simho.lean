section SMH
variable {sh : Nat → Option fu_K} {H : am_H} {L : Nat} {xs : Nat → Int32} {s : fu_S} {h : am_H} {a : Nat}
theorem fu_R_obj {c : Nat} {rf : Nat → Option Nat} (hR : fu_R sh H s h) (hs : sh a = some (.inl (c, rf))) : ∃ fs, h[a]? = some (.inr (c, fs)) ∧ fs.length = am_N c ∧ ∀ q, q < am_N c → fs[q]? = some (fu_fv c rf (s.1 a) (s.2 a) q) := by
  obtain ⟨c1, e1, fs, rfl, e2, e3⟩ := hR.2 a _ hs
  exact ⟨fs, e1, e2, e3⟩
theorem fu_R_ai {n : Nat} {r : Nat → Nat} (hR : fu_R sh H s h) (hs : sh a = some (.inr (0, n, r))) : ∃ F, h[a]? = some (.inl (0, (n, .inl F))) ∧ ∀ i, i < n → F i = s.1 a i := by
  obtain ⟨c1, e1, fs, rfl, e2⟩ := hR.2 a _ hs
  exact ⟨fs, e1, e2⟩
theorem fu_R_al {n : Nat} {r : Nat → Nat} (hR : fu_R sh H s h) (hs : sh a = some (.inr (1, n, r))) : ∃ F, h[a]? = some (.inl (1, (n, .inr (.inl F)))) ∧ ∀ i, i < n → F i = s.2 a i := by
  obtain ⟨c1, e1, fs, rfl, e2⟩ := hR.2 a _ hs
  exact ⟨fs, e1, e2⟩
theorem fu_R_ab {n : Nat} {r : Nat → Nat} (hR : fu_R sh H s h) (hs : sh a = some (.inr (2, n, r))) : ∃ F, h[a]? = some (.inl (2, (n, .inl F))) ∧ ∀ i, i < n → F i = s.1 a i := by
  obtain ⟨c1, e1, fs, rfl, e2⟩ := hR.2 a _ hs
  exact ⟨fs, e1, e2⟩
theorem fu_R_ar {n t : Nat} {r : Nat → Nat} (ht : t = 3 ∨ t = 4) (hR : fu_R sh H s h) (hs : sh a = some (.inr (t, n, r))) : ∃ F, h[a]? = some (.inl (t, (n, .inr (.inr (.inr (.inr F)))))) ∧ ∀ i, i < n → F i = some (r i) := by
  rcases ht with rfl | rfl
  · obtain ⟨c1, e1, fs, rfl, e2⟩ := hR.2 a _ hs
    exact ⟨fs, e1, e2⟩
  · obtain ⟨c1, e1, fs, rfl, e2⟩ := hR.2 a _ hs
    exact ⟨fs, e1, e2⟩
theorem fu_in_lt {i : Int32} {n : Nat} (hi : am_in i n = true) : i.toNatClampNeg < n := Nat.not_le.mp fun z => am_in_iff.mp hi (Or.inr z)
theorem fu_narB (x : Int32) (h : x = 0 ∨ x = 1) : narrow .boolean (.int x) = .int x ∧ fits .boolean (.int x) = true ∧ fu_b (fu_tb x) = x := by
  rcases h with rfl | rfl <;> decide
set_option maxHeartbeats 4000000 in
theorem fu_ho_sim (hsh : sh 2000000 = none) : sm_ho (fu_ho sh) (am_ho L xs) (fu_R sh H) := by
  intro op p q st s h st' s' hR e
  unfold fu_ho at e
  split at e
  · -- getfield
    rename_i a r
    split at e
    · rename_i c rf hs
      split at e
      · rename_i hcp
        subst hcp
        obtain ⟨fs, e1, e2, e3⟩ := fu_R_obj hR hs
        split at e
        · rename_i b hb
          split at e
          · rename_i ht
            cases e
            have hq := (fu_ty_lt (p := c) (q := q) (by rw [ht]; decide)).2
            have hv : fs[q]? = some (.ref b) := by rw [e3 q hq]; simp only [fu_fv, hb]
            exact ⟨h, by simp only [am_ho, e1, hv, if_true], hR⟩
          · cases e
        · rename_i hb
          split at e
          · rename_i ht
            cases e
            have hq := (fu_ty_lt (p := c) (q := q) (by rw [ht]; decide)).2
            have hv : fs[q]? = some (.int (s.1 a q)) := by rw [e3 q hq]; simp only [fu_fv, hb, ht]
            exact ⟨h, by simp only [am_ho, e1, hv, if_true], hR⟩
          · rename_i ht
            cases e
            have hq := (fu_ty_lt (p := c) (q := q) (by rw [ht]; decide)).2
            have hv : fs[q]? = some (.int (fu_b (fu_tb (s.1 a q)))) := by rw [e3 q hq]; simp only [fu_fv, hb, ht]
            exact ⟨h, by simp only [am_ho, e1, hv, if_true], hR⟩
          · rename_i ht
            cases e
            have hq := (fu_ty_lt (p := c) (q := q) (by rw [ht]; decide)).2
            have hv : fs[q]? = some (.long (s.2 a q)) := by rw [e3 q hq]; simp only [fu_fv, hb, ht]
            exact ⟨h, by simp only [am_ho, e1, hv, if_true], hR⟩
          · cases e
      · cases e
    · cases e
  · -- putfield, int
    rename_i x a r
    split at e
    · rename_i c rf hs
      split at e
      · rename_i hcp
        obtain ⟨rfl, hb⟩ := hcp
        obtain ⟨fs, e1, e2, e3⟩ := fu_R_obj hR hs
        split at e
        · rename_i ht
          cases e
          obtain ⟨hp, hq⟩ := fu_ty_lt (p := c) (q := q) (by rw [ht]; decide)
          have hty := (fu_ty_ok c hp q hq).1 ht
          refine ⟨h.set a (.inr (c, fs.set q (.int x))), ?_, fu_R_set hR hs ⟨_, rfl, by rw [List.length_set]; exact e2, fun q' hq' => ?_⟩ (fun b hb' => ?_) (fun b _ => rfl)⟩
          · simp only [am_ho, e1]
            rw [if_pos ⟨trivial, by rw [e2]; exact hq, by rw [hty]; rfl, by rw [hty]; rfl⟩]
          · by_cases hqq : q = q'
            · subst hqq
              rw [List.getElem?_set_self (by rw [e2]; exact hq)]
              simp [fu_fv, hb, ht, fu_pi]
            · rw [List.getElem?_set_ne hqq, e3 q' hq']
              have hne : ¬ q' = q := fun z => hqq z.symm
              simp [fu_fv, fu_pi, hne]
          · funext z; simp [fu_pi, hb']
        · rename_i ht
          split at e
          · rename_i h01
            cases e
            obtain ⟨hp, hq⟩ := fu_ty_lt (p := c) (q := q) (by rw [ht]; decide)
            have hty := (fu_ty_ok c hp q hq).2.1 ht
            have h3 := fu_narB x h01
            refine ⟨h.set a (.inr (c, fs.set q (.int x))), ?_, fu_R_set hR hs ⟨_, rfl, by rw [List.length_set]; exact e2, fun q' hq' => ?_⟩ (fun b hb' => ?_) (fun b _ => rfl)⟩
            · simp only [am_ho, e1]
              rw [if_pos ⟨trivial, by rw [e2]; exact hq, by rw [hty]; exact h3.1, by rw [hty]; exact h3.2.1⟩]
            · by_cases hqq : q = q'
              · subst hqq
                rw [List.getElem?_set_self (by rw [e2]; exact hq)]
                simp [fu_fv, hb, ht, fu_pi, h3.2.2]
              · rw [List.getElem?_set_ne hqq, e3 q' hq']
                have hne : ¬ q' = q := fun z => hqq z.symm
                simp [fu_fv, fu_pi, hne]
            · funext z; simp [fu_pi, hb']
          · cases e
        · cases e
      · cases e
    · cases e
  · -- putfield, long
    rename_i x a r
    split at e
    · rename_i c rf hs
      split at e
      · rename_i hcp
        obtain ⟨rfl, hb⟩ := hcp
        obtain ⟨fs, e1, e2, e3⟩ := fu_R_obj hR hs
        split at e
        · rename_i ht
          cases e
          obtain ⟨hp, hq⟩ := fu_ty_lt (p := c) (q := q) (by rw [ht]; decide)
          have hty := (fu_ty_ok c hp q hq).2.2 ht
          refine ⟨h.set a (.inr (c, fs.set q (.long x))), ?_, fu_R_set hR hs ⟨_, rfl, by rw [List.length_set]; exact e2, fun q' hq' => ?_⟩ (fun b _ => rfl) (fun b hb' => ?_)⟩
          · simp only [am_ho, e1]
            rw [if_pos ⟨trivial, by rw [e2]; exact hq, by rw [hty]; rfl, by rw [hty]; rfl⟩]
          · by_cases hqq : q = q'
            · subst hqq
              rw [List.getElem?_set_self (by rw [e2]; exact hq)]
              simp [fu_fv, hb, ht, fu_pl]
            · rw [List.getElem?_set_ne hqq, e3 q' hq']
              have hne : ¬ q' = q := fun z => hqq z.symm
              simp [fu_fv, fu_pl, hne]
          · funext z; simp [fu_pl, hb']
        · cases e
      · cases e
    · cases e
  · -- iaload
    rename_i i a r
    split at e
    · rename_i n f hs
      split at e
      · rename_i hin
        cases e
        obtain ⟨F, e1, e2⟩ := fu_R_ai hR hs
        have hne : ¬ a = 2000000 := fun z => by rw [z, hsh] at hs; cases hs
        exact ⟨h, by simp only [am_ho, if_neg hne, e1, if_pos hin, e2 _ (fu_in_lt hin)], hR⟩
      · cases e
    · cases e
  · -- iastore
    rename_i x i a r
    split at e
    · rename_i n f hs
      split at e
      · rename_i hin
        cases e
        obtain ⟨F, e1, e2⟩ := fu_R_ai hR hs
        refine ⟨h.set a (.inl (0, (n, .inl (upd F i.toNatClampNeg x)))), by simp only [am_ho, e1, if_pos hin], fu_R_set hR hs ⟨_, rfl, fun j hj => ?_⟩ (fun b hb' => ?_) (fun b _ => rfl)⟩
        · simp only [upd, fu_pi, true_and]
          split
          · rfl
          · exact e2 j hj
        · funext z; simp [fu_pi, hb']
      · cases e
    · cases e
  · -- laload
    rename_i i a r
    split at e
    · rename_i n f hs
      split at e
      · rename_i hin
        cases e
        obtain ⟨F, e1, e2⟩ := fu_R_al hR hs
        exact ⟨h, by simp only [am_ho, e1, if_pos hin, e2 _ (fu_in_lt hin)], hR⟩
      · cases e
    · cases e
  · -- lastore
    rename_i x i a r
    split at e
    · rename_i n f hs
      split at e
      · rename_i hin
        cases e
        obtain ⟨F, e1, e2⟩ := fu_R_al hR hs
        refine ⟨h.set a (.inl (1, (n, .inr (.inl (vp_updL F i.toNatClampNeg x))))), by simp only [am_ho, e1, if_pos hin], fu_R_set hR hs ⟨_, rfl, fun j hj => ?_⟩ (fun b _ => rfl) (fun b hb' => ?_)⟩
        · simp only [vp_updL, fu_pl, true_and]
          split
          · rfl
          · exact e2 j hj
        · funext z; simp [fu_pl, hb']
      · cases e
    · cases e
  · -- baload
    rename_i i a r
    split at e
    · rename_i n f hs
      split at e
      · rename_i hin
        cases e
        obtain ⟨F, e1, e2⟩ := fu_R_ab hR hs
        exact ⟨h, by simp only [am_ho, e1, if_pos hin, e2 _ (fu_in_lt hin)], hR⟩
      · cases e
    · cases e
  · -- bastore
    rename_i x i a r
    split at e
    · rename_i n f hs
      split at e
      · rename_i hin
        cases e
        obtain ⟨F, e1, e2⟩ := fu_R_ab hR hs
        refine ⟨h.set a (.inl (2, (n, .inl (upd F i.toNatClampNeg (vp_nar .byte x))))), by simp only [am_ho, e1, if_pos hin], fu_R_set hR hs ⟨_, rfl, fun j hj => ?_⟩ (fun b hb' => ?_) (fun b _ => rfl)⟩
        · simp only [upd, fu_pi, true_and]
          split
          · rfl
          · exact e2 j hj
        · funext z; simp [fu_pi, hb']
      · cases e
    · cases e
  · -- aaload
    rename_i i a r
    split at e
    · rename_i t n f hs
      split at e
      · rename_i hc
        cases e
        obtain ⟨F, e1, e2⟩ := fu_R_ar hc.1 hR hs
        exact ⟨h, by simp only [am_ho, e1, if_pos hc, e2 _ (fu_in_lt hc.2), va_rf], hR⟩
      · cases e
    · cases e
  · -- the receiver
    rename_i a r
    split at e
    · rename_i y nL rt code o c rf hm hs
      rw [cond_eq_ite] at e
      split at e
      · rename_i hc
        cases e
        obtain ⟨fs, e1, -, -⟩ := fu_R_obj hR hs
        exact ⟨h, by simp only [am_ho, hm, e1, hc, cond_true], hR⟩
      · cases e
    · cases e
  · cases e; exact ⟨h, rfl, hR⟩
  · cases e; exact ⟨h, rfl, hR⟩
  · cases e; exact ⟨h, rfl, hR⟩
  · cases e; exact ⟨h, rfl, hR⟩
  · -- arraycopy
    rename_i n dp a sp a0 r
    split at e
    · rename_i n0 f0 n1 f1 hs0 hs1
      split at e
      · rename_i hc
        cases e
        obtain ⟨F, e1, e2⟩ := fu_R_ai hR hs0
        obtain ⟨G, g1, g2⟩ := fu_R_ai hR hs1
        refine ⟨h.set a (.inl (0, (n1, .inl (va_cpy F G sp.toNatClampNeg dp.toNatClampNeg n.toNatClampNeg)))), by simp only [am_ho, e1, g1]; rw [if_pos hc], fu_R_set hR hs1 ⟨_, rfl, fun j hj => ?_⟩ (fun b hb' => ?_) (fun b _ => rfl)⟩
        · simp only [va_cpy, fu_ci, if_true]
          split
          · rename_i hj2
            exact e2 _ (by omega)
          · exact g2 j hj
        · simp [fu_ci, hb']
      · cases e
    · rename_i n0 f0 n1 f1 hs0 hs1
      split at e
      · rename_i hc
        cases e
        obtain ⟨F, e1, e2⟩ := fu_R_al hR hs0
        obtain ⟨G, g1, g2⟩ := fu_R_al hR hs1
        refine ⟨h.set a (.inl (1, (n1, .inr (.inl (va_cpy F G sp.toNatClampNeg dp.toNatClampNeg n.toNatClampNeg))))), by simp only [am_ho, e1, g1]; rw [if_pos hc], fu_R_set hR hs1 ⟨_, rfl, fun j hj => ?_⟩ (fun b _ => rfl) (fun b hb' => ?_)⟩
        · simp only [va_cpy, fu_cl, if_true]
          split
          · rename_i hj2
            exact e2 _ (by omega)
          · exact g2 j hj
        · simp [fu_cl, hb']
      · cases e
    · cases e
  · cases e
end SMH
