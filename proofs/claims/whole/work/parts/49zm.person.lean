/-! district: a person -/
/-- a person more, with a name and a reach -/
def dper (D : dD) (V w R : Nat) : dD := fun a b => if a = 0 ∧ b = 4 then D 0 4 + 1 else if a = 4 ∧ b = D 0 4 then V else if a = 5 ∧ b = D 0 4 then w else if a = 6 ∧ b = D 0 4 then R else D a b
section PSN
variable {s t r s1 s2 t1 t2 : fu_S} {u : Nat → Nat} {n T p q e f k i g v j m lo w P V W R a b : Nat} {x y : Int32} {z : Int64} {D : dD}
theorem dper_0 (h : q ≠ 4) : dper D V w R 0 q = D 0 q := by simp [dper, h]
theorem dper_04 : dper D V w R 0 4 = D 0 4 + 1 := by simp [dper]
theorem dper_l (h : f ≠ 0 ∧ f ≠ 4 ∧ f ≠ 5 ∧ f ≠ 6) : dper D V w R f q = D f q := by simp [dper, h]
theorem dper_o (h : f ≠ 0) (hb : q ≠ D 0 4) : dper D V w R f q = D f q := by simp [dper, h, hb]
theorem dper_4 : dper D V w R 4 (D 0 4) = V := by simp [dper]
theorem dper_5 : dper D V w R 5 (D 0 4) = w := by simp [dper]
theorem dper_6 : dper D V w R 6 (D 0 4) = R := by simp [dper]
theorem dV_per (hv : dV D) (hn : D 0 4 < 7) (hV : V < 2 ^ 45) (hw : w ≤ 59) (hR : R < 1024) : dV (dper D V w R) := by
  obtain ⟨v0, vk, vp, vt⟩ := hv
  refine ⟨?_, ?_, ?_, ?_⟩
  · rw [dper_0 (by omega), dper_0 (by omega), dper_0 (by omega), dper_0 (by omega), dper_04, dper_0 (by omega)]; omega
  · intro j hj
    rw [dper_0 (by omega)] at hj
    rw [dper_l (by omega), dper_l (by omega), dper_l (by omega)]
    exact vk j hj
  · intro t ht
    rw [dper_04] at ht
    by_cases e : t = D 0 4
    · subst e
      rw [dper_4, dper_5, dper_6]
      omega
    · rw [dper_o (by omega) e, dper_o (by omega) e, dper_o (by omega) e]
      exact vp t (by omega)
  · intro j hj
    rw [dper_0 (by omega)] at hj
    rw [dper_04, dper_0 (by omega), dper_l (by omega), dper_l (by omega), dper_l (by omega), dper_l (by omega), dper_l (by omega), dper_l (by omega)]
    have := vt j hj
    omega
theorem fC_pl {lo hi : Nat} {x : Int64} (h : lo ≤ a ∧ a < hi) : fC lo hi s (fu_pl s a q x) := fun c hc => ⟨rfl, l2n (fun z => hc (by rw [z]; exact h))⟩
theorem c_padd (h : dC s P D) (h7 : D 0 4 < 7) : ∃ t, f_X4_addPerson s P (Int64.ofNat V) (Int32.ofNat w) (Int32.ofNat R) = some (Int32.ofNat (D 0 4), t) ∧ dC t P (dper D V w R) ∧ fC P (P + 7) s t := by
  obtain ⟨⟨c0, c1, c2, c3, c4, c5⟩, ck, cp, ct⟩ := id h
  refine ⟨fu_pi (fu_pi (fu_pi (fu_pl s (P + 4) (D 0 4) (Int64.ofNat V)) (P + 5) (D 0 4) (Int32.ofNat w)) (P + 6) (D 0 4) (Int32.ofNat R)) P 4 (Int32.ofNat (D 0 4 + 1)), ?_, ?_, fC_tr (fC_tr (fC_tr (fC_pl (by omega)) (fC_pi (by omega))) (fC_pi (by omega))) (fC_pi (by omega))⟩
  · generalize D 0 4 = m at *
    simp (disch := omega) only [ne_eq, i_lt0, i_le0, i_eq0, i_n1, i_ltl, i_lel, i_eql, i_lt, i_le, i_eq, i_in, i_tn, i_add, i_addl, i_addr, i_mul, i_mulr, i_mull, if_true, if_false, eq_self, decide_eq_true_eq, decide_true, decide_false, Option.bind_some, Option.bind_none, fu_lt, Bool.false_eq_true, Bool.true_eq_false, not_true_eq_false, not_false_eq_true, Nat.not_lt_zero, Nat.le_zero_eq, Nat.reduceAdd, Nat.reduceMul, Nat.reduceSub, Nat.reduceEqDiff, Nat.reduceLT, Nat.reduceLeDiff, sC_def, sR_def, sC_1, sC_2, sR_1, sR_2, sC_st, sR_st, sR_no, sR_refuse, and_self, true_and, and_true, false_and, and_false, f_X4_addPerson, c4, h7, p1, p1n, l1, i_add1, i_add1s]
  · obtain ⟨Z, hZ⟩ : ∃ Z, Z = fu_pi (fu_pi (fu_pi (fu_pl s (P + 4) (D 0 4) (Int64.ofNat V)) (P + 5) (D 0 4) (Int32.ofNat w)) (P + 6) (D 0 4) (Int32.ofNat R)) P 4 (Int32.ofNat (D 0 4 + 1)) := ⟨_, rfl⟩
    rw [← hZ]
    have z0 : ∀ q, q ≠ 4 → Z.1 P q = s.1 P q := fun q hq => by rw [hZ, p1q hq, p1n (by omega), p1n (by omega), l1]
    have z4 : Z.1 P 4 = Int32.ofNat (D 0 4 + 1) := by rw [hZ, p1]
    have zo : ∀ j, 1 ≤ j → j ≠ 5 → j ≠ 6 → Z.1 (P + j) = s.1 (P + j) := fun j h1 h2 h3 => by rw [hZ, p1n (by omega), p1n (by omega), p1n (by omega), l1]
    have z5 : ∀ q, q ≠ D 0 4 → Z.1 (P + 5) q = s.1 (P + 5) q := fun q hq => by rw [hZ, p1n (by omega), p1n (by omega), p1q hq, l1]
    have z6 : ∀ q, q ≠ D 0 4 → Z.1 (P + 6) q = s.1 (P + 6) q := fun q hq => by rw [hZ, p1n (by omega), p1q hq, p1n (by omega), l1]
    have z7 : ∀ q, q ≠ D 0 4 → Z.2 (P + 4) q = s.2 (P + 4) q := fun q hq => by rw [hZ]; exact l2q hq
    have y4 : Z.2 (P + 4) (D 0 4) = Int64.ofNat V := by rw [hZ]; exact l2
    have y5 : Z.1 (P + 5) (D 0 4) = Int32.ofNat w := by rw [hZ, p1n (by omega), p1n (by omega), p1]
    have y6 : Z.1 (P + 6) (D 0 4) = Int32.ofNat R := by rw [hZ, p1n (by omega), p1]
    refine ⟨⟨?_, ?_, ?_, ?_, ?_, ?_⟩, fun j hj => ?_, fun j hj => ?_, fun j hj => ?_⟩
    · rw [dper_0 (by omega), z0 _ (by omega)]; exact c0
    · rw [dper_0 (by omega), z0 _ (by omega)]; exact c1
    · rw [dper_0 (by omega), z0 _ (by omega)]; exact c2
    · rw [dper_0 (by omega), z0 _ (by omega)]; exact c3
    · rw [dper_04]; exact z4
    · rw [dper_0 (by omega), z0 _ (by omega)]; exact c5
    · rw [dper_0 (by omega)] at hj
      rw [dper_l (by omega), dper_l (by omega), dper_l (by omega), zo 1 (by omega) (by omega) (by omega), zo 2 (by omega) (by omega) (by omega), zo 3 (by omega) (by omega) (by omega)]
      exact ck j hj
    · rw [dper_04] at hj
      by_cases e : j = D 0 4
      · subst e
        rw [dper_4, dper_5, dper_6]
        exact ⟨y4, y5, y6⟩
      · rw [dper_o (by omega) e, dper_o (by omega) e, dper_o (by omega) e, z5 _ e, z6 _ e, z7 _ e]
        exact cp j (by omega)
    · rw [dper_0 (by omega)] at hj
      rw [dper_l (by omega), dper_l (by omega), dper_l (by omega), dper_l (by omega), dper_l (by omega), dper_l (by omega), zo 7 (by omega) (by omega) (by omega), zo 8 (by omega) (by omega) (by omega), zo 9 (by omega) (by omega) (by omega), zo 10 (by omega) (by omega) (by omega), zo 11 (by omega) (by omega) (by omega), zo 12 (by omega) (by omega) (by omega)]
      exact ct j hj
theorem r_padd (h : dR s 4 D) (hv : dV D) (h7 : D 0 4 < 7) (hV : s.2 124 (28 + D 0 4) = Int64.ofNat V) : dR (fu_pi (fu_pi (fu_pi s 122 (1441 + D 0 4) (Int32.ofNat w)) 122 (1448 + D 0 4) (Int32.ofNat R)) 122 1421 (Int32.ofNat (D 0 4 + 1))) 4 (dper D V w R) := by
  obtain ⟨⟨c0, c1, c2, c3, c4, c5⟩, ck, cp, ct⟩ := id h
  obtain ⟨⟨v0, v1, v2, v3, v4, v5⟩, -⟩ := id hv
  obtain ⟨Z, hZ⟩ : ∃ Z, Z = fu_pi (fu_pi (fu_pi s 122 (1441 + D 0 4) (Int32.ofNat w)) 122 (1448 + D 0 4) (Int32.ofNat R)) 122 1421 (Int32.ofNat (D 0 4 + 1)) := ⟨_, rfl⟩
  rw [← hZ]
  have z2 : Z.2 = s.2 := by rw [hZ]; rfl
  have zo : ∀ q, q ≠ 1421 → q ≠ 1441 + D 0 4 → q ≠ 1448 + D 0 4 → Z.1 122 q = s.1 122 q := fun q a b c => by rw [hZ, p1q a, p1q c, p1q b]
  have z0 : Z.1 122 (355 * 4 + 1) = Int32.ofNat (D 0 4 + 1) := by rw [hZ]; exact p1
  have y1 : Z.1 122 (355 * 4 + 21 + D 0 4) = Int32.ofNat w := by rw [hZ, p1q (by omega), p1q (by omega), show 355 * 4 + 21 + D 0 4 = 1441 + D 0 4 by omega, p1]
  have y2 : Z.1 122 (355 * 4 + 28 + D 0 4) = Int32.ofNat R := by rw [hZ, p1q (by omega), show 355 * 4 + 28 + D 0 4 = 1448 + D 0 4 by omega, p1]
  refine ⟨⟨?_, ?_, ?_, ?_, ?_, ?_⟩, fun j hj => ?_, fun j hj => ?_, fun j hj => ?_⟩
  · rw [dper_0 (by omega), zo _ (by omega) (by omega) (by omega)]; exact c0
  · rw [dper_04]; exact z0
  · rw [dper_0 (by omega), zo _ (by omega) (by omega) (by omega)]; exact c2
  · rw [dper_0 (by omega), zo _ (by omega) (by omega) (by omega)]; exact c3
  · rw [dper_0 (by omega), zo _ (by omega) (by omega) (by omega)]; exact c4
  · rw [dper_0 (by omega), zo _ (by omega) (by omega) (by omega)]; exact c5
  · rw [dper_0 (by omega)] at hj
    rw [dper_l (by omega), dper_l (by omega), dper_l (by omega), zo _ (by omega) (by omega) (by omega), zo _ (by omega) (by omega) (by omega), zo _ (by omega) (by omega) (by omega)]
    exact ck j hj
  · rw [dper_04] at hj
    by_cases e : j = D 0 4
    · subst e
      rw [dper_4, dper_5, dper_6, z2]
      exact ⟨hV, y1, y2⟩
    · rw [dper_o (by omega) e, dper_o (by omega) e, dper_o (by omega) e, z2, zo _ (by omega) (by omega) (by omega), zo _ (by omega) (by omega) (by omega)]
      exact cp j (by omega)
  · rw [dper_0 (by omega)] at hj
    rw [dper_l (by omega), dper_l (by omega), dper_l (by omega), dper_l (by omega), dper_l (by omega), dper_l (by omega), zo _ (by omega) (by omega) (by omega), zo _ (by omega) (by omega) (by omega), zo _ (by omega) (by omega) (by omega), zo _ (by omega) (by omega) (by omega), zo _ (by omega) (by omega) (by omega), zo _ (by omega) (by omega) (by omega)]
    exact ct j hj
/-- a reach, or none -/
theorem L_reachP (h : OK u n T s1 s2 i) {x1 x2 : Int32} : (∃ a' i' t1 t2, a' < 1024 ∧ i ≤ i' ∧ f_X2_takeReach s1 = some (Int32.ofNat a', t1) ∧ (Option.bind (f_X12_perhaps s2 (f_X12_isReach s2)) fun r17 => Option.bind (if r17.1 = true then Option.bind (l_X12_readPerson_100 fu_N r17.2 x1 x2 (0 : Int32)) fun (r29 : Int32 × fu_S) => some (r29.1, r29.2) else some ((0 : Int32), r17.2)) fun j18 => some j18) = some (Int32.ofNat a', t2) ∧ OK u n T t1 t2 i' ∧ f5 s1 t1 ∧ f7 s2 t2) ∨ (∃ t1 t2 y, f_X2_takeReach s1 = some (-1, t1) ∧ (Option.bind (f_X12_perhaps s2 (f_X12_isReach s2)) fun r17 => Option.bind (if r17.1 = true then Option.bind (l_X12_readPerson_100 fu_N r17.2 x1 x2 (0 : Int32)) fun (r29 : Int32 × fu_S) => some (r29.1, r29.2) else some ((0 : Int32), r17.2)) fun j18 => some j18) = some (y, t2) ∧ BA t1 t2 ∧ f5 s1 t1 ∧ f7 s2 t2) := by
  have e0 := OK_sort h
  have hG := tG_lt (u := u) (n := n) (q := tq u n i)
  have hle := OK_le h
  have hw := wd_8 h
  by_cases hz : tG u n (tq u n i) = 108
  · obtain ⟨t1, t2, a1, a2, a3, a4, a5⟩ := OK_next h (by omega)
    rw [decide_eq_true hz] at hw
    have hp : f_X12_perhaps s2 true = some (true, t2) := by
      unfold f_X12_perhaps
      rw [if_pos hle, if_pos rfl, a2, Option.bind_some]
    have hT := a3.2.1
    have hT9 := a3.1.2.1
    have hT8 := a3.1.2.2.1
    have hz' : Int32.ofNat (tG u n (tq u n i)) = 108 := by rw [hz]; rfl
    rcases L_reach (a := 0) (f := fu_N) (x1 := x1) (x2 := x2) a3 (by omega) rfl (fu_N_gt (by omega)) with ⟨a', i', r1, r2, c1, c2, c3, c4, c5, c6, c7⟩ | ⟨r1, r2, y, c3, c4, c5, c6, c7⟩
    · have c3' : l_X2_takeReach_25 fu_N t1 0 0 = some (.inr (Int32.ofNat a', r1)) := c3
      have c4' : l_X12_readPerson_100 fu_N t2 x1 x2 0 = some (Int32.ofNat a', r2) := c4
      refine .inl ⟨a', i', r1, r2, c1, by omega, ?_, ?_, c5, f5_tr a4 c6, f7_tr a5 c7⟩
      · unfold f_X2_takeReach fu_lt
        rw [e0, Option.bind_some, if_pos hz', a1]
        dsimp only
        rw [c3', Option.bind_some]
        rfl
      · rw [hw, hp, Option.bind_some]
        dsimp only
        rw [if_pos rfl, c4', Option.bind_some, Option.bind_some]
    · have c3' : l_X2_takeReach_25 fu_N t1 0 0 = some (.inl (-1, r1)) := c3
      have c4' : l_X12_readPerson_100 fu_N t2 x1 x2 0 = some (y, r2) := c4
      refine .inr ⟨r1, r2, y, ?_, ?_, c5, f5_tr a4 c6, f7_tr a5 c7⟩
      · unfold f_X2_takeReach fu_lt
        rw [e0, Option.bind_some, if_pos hz', a1]
        dsimp only
        rw [c3', Option.bind_some]
        rfl
      · rw [hw, hp, Option.bind_some]
        dsimp only
        rw [if_pos rfl, c4', Option.bind_some, Option.bind_some]
  · rw [decide_eq_false hz] at hw
    have hne : ¬ Int32.ofNat (tG u n (tq u n i)) = 108 := fun z => hz ((i_eq (b := 108) (by omega) (by omega)).mp z)
    refine .inl ⟨0, i, s1, s2, by omega, Nat.le_refl _, ?_, ?_, h, f5_rf, f7_rf⟩
    · unfold f_X2_takeReach
      rw [e0, Option.bind_some, if_neg hne]
      rfl
    · rw [hw]
      unfold f_X12_perhaps
      rw [if_pos hle, if_neg Bool.false_ne_true, Option.bind_some]
      rfl
/-- once faulted, a reach is nothing -/
theorem B_reach (h : bd t) {x1 x2 : Int32} {b : Bool} : (Option.bind (f_X12_perhaps t b) fun r17 => Option.bind (if r17.1 = true then Option.bind (l_X12_readPerson_100 fu_N r17.2 x1 x2 (0 : Int32)) fun (r29 : Int32 × fu_S) => some (r29.1, r29.2) else some ((0 : Int32), r17.2)) fun j18 => some j18) = some (0, t) := by
  rw [B_perhaps h, Option.bind_some]
  dsimp only
  rw [if_neg Bool.false_ne_true, Option.bind_some]
end PSN
