/-! district: arm; kinds -/
section ARM
variable {s t r s1 s2 t1 t2 : fu_S} {u : Nat → Nat} {n T p q e f k i g v j m lo w : Nat} {x y : Int32} {z : Int64} {b : Bool} {D : dD}
/-- arm -/
theorem P_arm (h : OK u n T s1 s2 i) (hg : tG u n (tq u n i) = 101) (hD : QD s1 s2 D) (hT : TL s1 s2) : PT u n T s1 s2 i (f_X2_takeRule s1 101 59) (f_X12_readOnce s2 4 59) (fun _ t1 t2 => TL t1 t2) := by
  obtain ⟨a, c, ha, hc, h3, h4⟩ := hT
  have sh : (1 : Int32) <<< (((101 : Int32) - 100) &&& 31) = Int32.ofNat 2 := by decide
  have hh : f_X12_has (Int32.ofNat (8 * a + 16 * c)) 4 = (8 * a + 16 * c).testBit 4 := r_has (b := 4) (by omega) (by omega)
  have hac : (a = 0 ∨ a = 1) ∧ (c = 0 ∨ c = 1) := by omega
  by_cases h0 : c = 0
  · subst h0
    have e1 : Int32.ofNat (a + 2 * 0) &&& Int32.ofNat 2 = 0 := by rcases hac.1 with rfl | rfl <;> decide
    have e2 : Int32.ofNat (a + 2 * 0) ||| Int32.ofNat 2 = Int32.ofNat (a + 2 * 1) := by rcases hac.1 with rfl | rfl <;> decide
    have e3 : (8 * a + 16 * 0).testBit 4 = false := by rcases hac.1 with rfl | rfl <;> decide
    have e4 : Int32.ofNat (8 * a + 16 * 0) ||| ((1 : Int32) <<< ((4 : Int32) &&& 31)) = Int32.ofNat (8 * a + 16 * 1) := by rcases hac.1 with rfl | rfl <;> decide
    rw [e3] at hh
    have h' := OK_r (q := 24) (x := Int32.ofNat (8 * a + 16 * 1)) (OK_c (a := 47) (q := 2) (x := Int32.ofNat (a + 2 * 1)) h (by omega)) (.inr ⟨rfl, .inl rfl⟩)
    have q47 : (fu_pi s1 47 2 (Int32.ofNat (a + 2 * 1))).1 47 2 = Int32.ofNat (a + 2 * 1) := p1
    have q24 : (fu_pi s2 117 24 (Int32.ofNat (8 * a + 16 * 1))).1 117 24 = Int32.ofNat (8 * a + 16 * 1) := p1
    have f1 : fQ1 s1 (fu_pi s1 47 2 (Int32.ofNat (a + 2 * 1))) := ⟨fun b _ _ hb => ⟨p1n hb, rfl⟩, rfl, fun q _ _ _ => by rw [p1n (by omega)]⟩
    have f2 : fQ2 s2 (fu_pi s2 117 24 (Int32.ofNat (8 * a + 16 * 1))) := ⟨fun b hb _ => p1n hb, fun q _ hq _ => p1q hq, fun i _ => by rw [p1n (by omega)], fun _ _ _ => rfl, fun _ _ => rfl, fun _ _ => rfl⟩
    have hD' : QD (fu_pi s1 47 2 (Int32.ofNat (a + 2 * 1))) (fu_pi s2 117 24 (Int32.ofNat (8 * a + 16 * 1))) D := ⟨hD.1, dC_congr (fun k hk => ⟨p1n (by omega), rfl⟩) hD.2.1, dR_q hD.1 hD.2.2⟩
    obtain ⟨U, hU⟩ : ∃ U, U = fu_pi s1 47 2 (Int32.ofNat (a + 2 * 1)) := ⟨_, rfl⟩
    obtain ⟨V, hV⟩ : ∃ V, V = fu_pi s2 117 24 (Int32.ofNat (8 * a + 16 * 1)) := ⟨_, rfl⟩
    rw [← hU] at h' q47 f1 hD'
    rw [← hV] at h' q24 f2 hD'
    obtain ⟨u1, u2, a1, a2, a3, a4, a5⟩ := L_next h' (by omega)
    have hD2 := QD_57 hD' a4 a5
    rcases L_num (lo := 0) (y := 59) a3 (by omega) with ⟨-, v, -, -, hv, hv59, t1, t2, b1, b2, b3, b4, b5⟩ | ⟨t1, t2, b1, b2, b3, b4, b5⟩
    · have hv' : v ≤ 59 := (i_lel (n := 59) (by omega) (show (59 : Nat) < 2147483648 by omega)).mp hv59
      have hD3 := QD_57 hD2 b4 b5
      have b3' := OK_r (a := 122) (q := 1424) (x := Int32.ofNat v) (OK_c (a := 29) (q := 1) (x := Int32.ofNat v) b3 (by omega)) (.inl (by omega))
      have b1' : f_X8_takeNumber u1 0 59 = some (Int32.ofNat v, t1) := b1
      have b2' : f_X12_count u2 0 59 = some (Int32.ofNat v, t2) := b2
      have z12 := OK_0 b3
      have ne1 := e_neg1 (v := v) (by omega)
      have q1 : ((1420 : Int32) + 4).toNatClampNeg = 1424 := by decide
      have q2 : am_in ((1420 : Int32) + 4) 1775 = true := by decide
      refine .inl ⟨fu_pi t1 29 1 (Int32.ofNat v), fu_pi t2 122 1424 (Int32.ofNat v), dset D 0 1 v, i + 1 + 1, ?_, ?_, b3', by omega, ⟨dV_set0 (by omega) hD.1 (by omega) (by omega) (by omega), dC_put0 (by omega) hD3.2.1, ?_⟩, ⟨a, 1, ha, by omega, ?_, ?_⟩, ?_, ?_⟩
      · unfold f_X2_takeRule fu_lt
        rw [sh, h3, e1, if_pos rfl, e2]
        dsimp only
        rw [← hU, a1, b1', Option.bind_some]
        dsimp only
        rw [if_neg (by decide)]
        unfold f_X4_setArm fu_lt
        rw [Option.bind_some, if_neg ne1, Option.bind_some]
      · unfold f_X12_readOnce fu_lt
        rw [h4, hh, if_neg Bool.false_ne_true, Option.bind_some, h4, e4]
        dsimp only
        rw [← hV, a2, Option.bind_some, b2', Option.bind_some]
        dsimp only
        rw [if_pos z12, if_pos q2, q1, Option.bind_some]
      · exact dR_shr2 (dV_set0 (by omega) hD.1 (by omega) (by omega) (by omega)) (dR_congr (s := fu_pi (shr t2 4) 122 (3 + 1) (Int32.ofNat v)) (dV_set0 (by omega) hD.1 (by omega) (by omega) (by omega)) (fun i _ _ => by
          show (if 122 = 122 ∧ 355 * 4 + i = 1424 then Int32.ofNat v else t2.1 122 (355 * 4 + i)) = (if 122 = 122 ∧ i = 3 + 1 then Int32.ofNat v else t2.1 122 (355 * 4 + i))
          by_cases e : i = 4
          · rw [if_pos ⟨rfl, by omega⟩, if_pos ⟨rfl, by omega⟩]
          · rw [if_neg (fun z => by omega), if_neg (fun z => by omega)]) (fun i _ _ => rfl) (dR_put0 hD.1 (j := 1) (by omega) (dR_shr1 hD.1 hD3.2.2)))
      · rw [p1n (by omega), b4.1 47 (by omega), a4.1 47 (by omega)]; exact q47
      · rw [p1n (by omega), b5.2.1 24 (by omega), a5.2.1 24 (by omega)]; exact q24
      · exact fQ1_tr f1 (fQ1_tr (fQ1_5 a4) (fQ1_tr (fQ1_5 b4) ⟨fun b _ hb _ => ⟨p1n (by omega), rfl⟩, rfl, fun q _ _ _ => by rw [p1n (by omega)]⟩))
      · exact fQ2_tr f2 (fQ2_tr (fQ2_7 a5) (fQ2_tr (fQ2_7 b5) ⟨fun b _ hb => p1n hb, fun q _ _ _ => by rw [p1n (by omega)], fun i hi => p1q (by omega), fun _ _ _ => rfl, fun _ _ => rfl, fun _ _ => rfl⟩))
    · have b1' : f_X8_takeNumber u1 0 59 = some (-1, t1) := b1
      have b2' : f_X12_count u2 0 59 = some (0, t2) := b2
      have z12 := bd_eq (bd_BA b3)
      refine .inr ⟨fu_pi t1 29 1 (-1), t2, ?_, ?_, ?_, ?_, fQ2_tr f2 (fQ2_tr (fQ2_7 a5) (fQ2_7 b5))⟩
      · unfold f_X2_takeRule fu_lt
        rw [sh, h3, e1, if_pos rfl, e2]
        dsimp only
        rw [← hU, a1, b1', Option.bind_some]
        dsimp only
        rw [if_neg (by decide)]
        unfold f_X4_setArm fu_lt
        rw [Option.bind_some, if_pos rfl, Option.bind_some]
      · unfold f_X12_readOnce fu_lt
        rw [h4, hh, if_neg Bool.false_ne_true, Option.bind_some, h4, e4]
        dsimp only
        rw [← hV, a2, Option.bind_some, b2', Option.bind_some]
        dsimp only
        rw [if_neg z12, Option.bind_some]
      · obtain ⟨f, pl, k1, k2, k3, k4, k5⟩ := b3
        exact ⟨f, pl, k1, k2, by rw [p1n (by omega)]; exact k3, by rw [p1n (by omega)]; exact k4, k5⟩
      · exact fQ1_tr f1 (fQ1_tr (fQ1_5 a4) (fQ1_tr (fQ1_5 b4) ⟨fun b _ hb _ => ⟨p1n (by omega), rfl⟩, rfl, fun q _ _ _ => by rw [p1n (by omega)]⟩))
  · have h1 : c = 1 := by omega
    subst h1
    have e1 : ¬ (Int32.ofNat (a + 2 * 1) &&& Int32.ofNat 2 = 0) := by rcases hac.1 with rfl | rfl <;> decide
    have e3 : (8 * a + 16 * 1).testBit 4 = true := by rcases hac.1 with rfl | rfl <;> decide
    rw [e3] at hh
    obtain ⟨t1, t2, a1, a2, a3, a4, a5⟩ := L_fail h (k := 5) (by omega) (by omega)
    have a1' : f_X8_refuse s1 5 = some (false, t1) := a1
    have a2' : f_X12_fail s2 5 (s2.1 117 15) = t2 := a2
    have f2 : ∀ y, fQ2 t2 (fu_pi t2 117 24 y) := fun y => ⟨fun b hb _ => p1n hb, fun q _ hq _ => p1q hq, fun i _ => by rw [p1n (by omega)], fun _ _ _ => rfl, fun _ _ => rfl, fun _ _ => rfl⟩
    have hb : ∀ y, BA t1 (fu_pi t2 117 24 y) := fun y => by
      obtain ⟨f, pl, k1, k2, k3, k4, k5, k6⟩ := a3
      exact ⟨f, pl, k1, k2, k3, k4, by rw [p1q (by omega)]; exact k5, by rw [p1q (by omega)]; exact k6⟩
    refine .inr ⟨t1, fu_pi t2 117 24 (t2.1 117 24 ||| ((1 : Int32) <<< ((4 : Int32) &&& 31))), ?_, ?_, hb _, fQ1_5 a4, fQ2_tr (fQ2_7 a5) (f2 _)⟩
    · unfold f_X2_takeRule fu_lt
      rw [sh, h3, if_neg e1, a1', Option.bind_some]
    · have z := bd_BA (hb (t2.1 117 24 ||| ((1 : Int32) <<< ((4 : Int32) &&& 31))))
      unfold f_X12_readOnce fu_lt
      rw [h4, hh, if_pos rfl, a2', Option.bind_some]
      dsimp only
      rw [B_must z, Option.bind_some, B_count z, Option.bind_some]
      dsimp only
      rw [if_neg (bd_eq z), Option.bind_some]
end ARM
/-- a kind more -/
def dkind (D : dD) (a b c : Nat) : dD := fun f i => if f = 0 ∧ i = 3 then D 0 3 + 1 else if f = 1 ∧ i = D 0 3 then a else if f = 2 ∧ i = D 0 3 then b else if f = 3 ∧ i = D 0 3 then c else D f i
section KND
variable {s t r s1 s2 t1 t2 : fu_S} {u : Nat → Nat} {n T p q e f k i g v j m lo w P x1 x2 x3 : Nat} {x y : Int32} {z : Int64} {b : Bool} {D : dD}
theorem dkind_0 (h : q ≠ 3) : dkind D x1 x2 x3 0 q = D 0 q := by simp [dkind, h]
theorem dkind_03 : dkind D x1 x2 x3 0 3 = D 0 3 + 1 := by simp [dkind]
theorem dkind_l (h : 4 ≤ f) : dkind D x1 x2 x3 f q = D f q := by
  have h0 : f ≠ 0 := by omega
  have h1 : f ≠ 1 := by omega
  have h2 : f ≠ 2 := by omega
  have h3 : f ≠ 3 := by omega
  simp [dkind, h0, h1, h2, h3]
theorem dkind_o (h : f ≠ 0) (hq : q ≠ D 0 3) : dkind D x1 x2 x3 f q = D f q := by simp [dkind, h, hq]
theorem dkind_1 : dkind D x1 x2 x3 1 (D 0 3) = x1 := by simp [dkind]
theorem dkind_2 : dkind D x1 x2 x3 2 (D 0 3) = x2 := by simp [dkind]
theorem dkind_3 : dkind D x1 x2 x3 3 (D 0 3) = x3 := by simp [dkind]
theorem dV_kind (hv : dV D) (hn : D 0 3 < 5) (h1 : 1 ≤ x1 ∧ x1 ≤ 9) (h2 : x2 ≤ 9) (h3 : 1 ≤ x3 ∧ x3 ≤ 9) : dV (dkind D x1 x2 x3) := by
  obtain ⟨v0, vk, vp, vt⟩ := hv
  refine ⟨?_, ?_, ?_, ?_⟩
  · rw [dkind_0 (by omega), dkind_0 (by omega), dkind_0 (by omega), dkind_03, dkind_0 (by omega), dkind_0 (by omega)]; omega
  · intro j hj
    rw [dkind_03] at hj
    by_cases e : j = D 0 3
    · subst e
      rw [dkind_1, dkind_2, dkind_3]; omega
    · rw [dkind_o (by omega) e, dkind_o (by omega) e, dkind_o (by omega) e]
      exact vk j (by omega)
  · intro j hj
    rw [dkind_0 (by omega)] at hj
    rw [dkind_l (by omega), dkind_l (by omega), dkind_l (by omega)]
    exact vp j hj
  · intro j hj
    rw [dkind_0 (by omega)] at hj
    rw [dkind_0 (by omega), dkind_03, dkind_l (by omega), dkind_l (by omega), dkind_l (by omega), dkind_l (by omega), dkind_l (by omega), dkind_l (by omega)]
    have := vt j hj
    omega
theorem c_kadd (h : dC s P D) (hv : dV D) (h5 : D 0 3 < 5) (h1 : x1 < 1000) (h2 : x2 < 1000) (h3 : x3 < 1000) : ∃ t, f_X4_addKind s P (Int32.ofNat x1) (Int32.ofNat x2) (Int32.ofNat x3) = some t ∧ dC t P (dkind D x1 x2 x3) ∧ fC P (P + 4) s t := by
  obtain ⟨⟨c0, c1, c2, c3, c4, c5⟩, ck, cp, ct⟩ := id h
  refine ⟨fu_pi (fu_pi (fu_pi (fu_pi s (P + 1) (D 0 3) (Int32.ofNat x1)) (P + 2) (D 0 3) (Int32.ofNat x2)) (P + 3) (D 0 3) (Int32.ofNat x3)) P 3 (Int32.ofNat (D 0 3 + 1)), ?_, ?_, fC_tr (fC_tr (fC_tr (fC_pi (by omega)) (fC_pi (by omega))) (fC_pi (by omega))) (fC_pi (by omega))⟩
  · generalize D 0 3 = m at *
    simp (disch := omega) only [ne_eq, i_lt0, i_le0, i_eq0, i_n1, i_ltl, i_lel, i_eql, i_lt, i_le, i_eq, i_in, i_tn, i_add, i_addl, i_addr, i_mul, i_mulr, i_mull, if_true, if_false, eq_self, decide_eq_true_eq, decide_true, decide_false, Option.bind_some, Option.bind_none, fu_lt, Bool.false_eq_true, Bool.true_eq_false, not_true_eq_false, not_false_eq_true, Nat.not_lt_zero, Nat.le_zero_eq, Nat.reduceAdd, Nat.reduceMul, Nat.reduceSub, Nat.reduceEqDiff, Nat.reduceLT, Nat.reduceLeDiff, sC_def, sR_def, sC_1, sC_2, sR_1, sR_2, sC_st, sR_st, sR_no, sR_refuse, and_self, true_and, and_true, false_and, and_false, f_X4_addKind, c3, h5, p1n, i_add1]
  · obtain ⟨Z, hZ⟩ : ∃ Z, Z = fu_pi (fu_pi (fu_pi (fu_pi s (P + 1) (D 0 3) (Int32.ofNat x1)) (P + 2) (D 0 3) (Int32.ofNat x2)) (P + 3) (D 0 3) (Int32.ofNat x3)) P 3 (Int32.ofNat (D 0 3 + 1)) := ⟨_, rfl⟩
    rw [← hZ]
    have z2 : Z.2 = s.2 := by rw [hZ]; rfl
    have z0 : ∀ q, q ≠ 3 → Z.1 P q = s.1 P q := fun q hq => by rw [hZ, p1q hq, p1n (by omega), p1n (by omega), p1n (by omega)]
    have z3 : Z.1 P 3 = Int32.ofNat (D 0 3 + 1) := by rw [hZ, p1]
    have zo : ∀ j, 4 ≤ j → Z.1 (P + j) = s.1 (P + j) := fun j hj => by rw [hZ, p1n (by omega), p1n (by omega), p1n (by omega), p1n (by omega)]
    have zr : ∀ j, 1 ≤ j → j ≤ 3 → ∀ q, q ≠ D 0 3 → Z.1 (P + j) q = s.1 (P + j) q := fun j h1 h2 q hq => by rw [hZ, p1n (by omega), p1q hq, p1q hq, p1q hq]
    have y1 : Z.1 (P + 1) (D 0 3) = Int32.ofNat x1 := by rw [hZ, p1n (by omega), p1n (by omega), p1n (by omega), p1]
    have y2 : Z.1 (P + 2) (D 0 3) = Int32.ofNat x2 := by rw [hZ, p1n (by omega), p1n (by omega), p1]
    have y3 : Z.1 (P + 3) (D 0 3) = Int32.ofNat x3 := by rw [hZ, p1n (by omega), p1]
    refine ⟨⟨?_, ?_, ?_, ?_, ?_, ?_⟩, fun j hj => ?_, fun j hj => ?_, fun j hj => ?_⟩
    · rw [dkind_0 (by omega), z0 _ (by omega)]; exact c0
    · rw [dkind_0 (by omega), z0 _ (by omega)]; exact c1
    · rw [dkind_0 (by omega), z0 _ (by omega)]; exact c2
    · rw [dkind_03]; exact z3
    · rw [dkind_0 (by omega), z0 _ (by omega)]; exact c4
    · rw [dkind_0 (by omega), z0 _ (by omega)]; exact c5
    · rw [dkind_03] at hj
      by_cases e : j = D 0 3
      · subst e
        rw [dkind_1, dkind_2, dkind_3]; exact ⟨y1, y2, y3⟩
      · rw [dkind_o (by omega) e, dkind_o (by omega) e, dkind_o (by omega) e, zr 1 (by omega) (by omega) _ e, zr 2 (by omega) (by omega) _ e, zr 3 (by omega) (by omega) _ e]
        exact ck j (by omega)
    · rw [dkind_0 (by omega)] at hj
      rw [dkind_l (by omega), dkind_l (by omega), dkind_l (by omega), z2, zo 5 (by omega), zo 6 (by omega)]
      exact cp j hj
    · rw [dkind_0 (by omega)] at hj
      rw [dkind_l (by omega), dkind_l (by omega), dkind_l (by omega), dkind_l (by omega), dkind_l (by omega), dkind_l (by omega), zo 7 (by omega), zo 8 (by omega), zo 9 (by omega), zo 10 (by omega), zo 11 (by omega), zo 12 (by omega)]
      exact ct j hj
theorem r_kadd (h : dR s 4 D) (hv : dV D) (h5 : D 0 3 < 5) (h1 : 1 ≤ x1 ∧ x1 ≤ 9) (h2 : x2 ≤ 9) (h3 : 1 ≤ x3 ∧ x3 ≤ 9) : dR (fu_pi (fu_pi (fu_pi (fu_pi s 122 (1426 + D 0 3) (Int32.ofNat x1)) 122 (1431 + D 0 3) (Int32.ofNat x2)) 122 (1436 + D 0 3) (Int32.ofNat x3)) 122 1420 (Int32.ofNat (D 0 3 + 1))) 4 (dkind D x1 x2 x3) := by
  obtain ⟨⟨c0, c1, c2, c3, c4, c5⟩, ck, cp, ct⟩ := id h
  obtain ⟨⟨v0, v1, v2, v3, v4, v5⟩, -⟩ := id hv
  obtain ⟨Z, hZ⟩ : ∃ Z, Z = fu_pi (fu_pi (fu_pi (fu_pi s 122 (1426 + D 0 3) (Int32.ofNat x1)) 122 (1431 + D 0 3) (Int32.ofNat x2)) 122 (1436 + D 0 3) (Int32.ofNat x3)) 122 1420 (Int32.ofNat (D 0 3 + 1)) := ⟨_, rfl⟩
  rw [← hZ]
  have z2 : Z.2 = s.2 := by rw [hZ]; rfl
  have zo : ∀ q, q ≠ 1420 → q ≠ 1426 + D 0 3 → q ≠ 1431 + D 0 3 → q ≠ 1436 + D 0 3 → Z.1 122 q = s.1 122 q := fun q a b c d => by rw [hZ, p1q a, p1q d, p1q c, p1q b]
  have z0 : Z.1 122 (355 * 4) = Int32.ofNat (D 0 3 + 1) := by rw [hZ]; exact p1
  have y1 : Z.1 122 (355 * 4 + 6 + D 0 3) = Int32.ofNat x1 := by rw [hZ, p1q (by omega), p1q (by omega), p1q (by omega), show 355 * 4 + 6 + D 0 3 = 1426 + D 0 3 by omega, p1]
  have y2 : Z.1 122 (355 * 4 + 11 + D 0 3) = Int32.ofNat x2 := by rw [hZ, p1q (by omega), p1q (by omega), show 355 * 4 + 11 + D 0 3 = 1431 + D 0 3 by omega, p1]
  have y3 : Z.1 122 (355 * 4 + 16 + D 0 3) = Int32.ofNat x3 := by rw [hZ, p1q (by omega), show 355 * 4 + 16 + D 0 3 = 1436 + D 0 3 by omega, p1]
  refine ⟨⟨?_, ?_, ?_, ?_, ?_, ?_⟩, fun j hj => ?_, fun j hj => ?_, fun j hj => ?_⟩
  · rw [dkind_03]; exact z0
  · rw [dkind_0 (by omega), zo _ (by omega) (by omega) (by omega) (by omega)]; exact c1
  · rw [dkind_0 (by omega), zo _ (by omega) (by omega) (by omega) (by omega)]; exact c2
  · rw [dkind_0 (by omega), zo _ (by omega) (by omega) (by omega) (by omega)]; exact c3
  · rw [dkind_0 (by omega), zo _ (by omega) (by omega) (by omega) (by omega)]; exact c4
  · rw [dkind_0 (by omega), zo _ (by omega) (by omega) (by omega) (by omega)]; exact c5
  · rw [dkind_03] at hj
    by_cases e : j = D 0 3
    · subst e
      rw [dkind_1, dkind_2, dkind_3]; exact ⟨y1, y2, y3⟩
    · rw [dkind_o (by omega) e, dkind_o (by omega) e, dkind_o (by omega) e, zo _ (by omega) (by omega) (by omega) (by omega), zo _ (by omega) (by omega) (by omega) (by omega), zo _ (by omega) (by omega) (by omega) (by omega)]
      exact ck j (by omega)
  · rw [dkind_0 (by omega)] at hj
    rw [dkind_l (by omega), dkind_l (by omega), dkind_l (by omega), z2, zo _ (by omega) (by omega) (by omega) (by omega), zo _ (by omega) (by omega) (by omega) (by omega)]
    exact cp j hj
  · rw [dkind_0 (by omega)] at hj
    rw [dkind_l (by omega), dkind_l (by omega), dkind_l (by omega), dkind_l (by omega), dkind_l (by omega), dkind_l (by omega), zo _ (by omega) (by omega) (by omega) (by omega), zo _ (by omega) (by omega) (by omega) (by omega), zo _ (by omega) (by omega) (by omega) (by omega), zo _ (by omega) (by omega) (by omega) (by omega), zo _ (by omega) (by omega) (by omega) (by omega), zo _ (by omega) (by omega) (by omega) (by omega)]
    exact ct j hj
/-- a word, and a number behind it -/
theorem L_behind (h : OK u n T s1 s2 i) (hg : 0 < g ∧ g < 1000) (hb : b = decide (tG u n (tq u n i) = g)) (hlo : lo < 1000) : (∃ v, lo ≤ v ∧ v ≤ 9999 ∧ Int32.ofNat v ≤ y ∧ ∃ t1 t2, (Option.bind (f_X8_take s1 (Int32.ofNat g)) fun r3 => Option.bind (if r3.1 = true then Option.bind (f_X8_takeNumber r3.2 (Int32.ofNat lo) y) fun r6 => some (r6.1, r6.2) else some ((-1 : Int32), r3.2)) fun j4 => some j4) = some (Int32.ofNat v, t1) ∧ f_X12_behindWord s2 b (Int32.ofNat lo) y = some (Int32.ofNat v, t2) ∧ OK u n T t1 t2 (i + 2) ∧ f5 s1 t1 ∧ f7 s2 t2) ∨ (∃ t1 t2, (Option.bind (f_X8_take s1 (Int32.ofNat g)) fun r3 => Option.bind (if r3.1 = true then Option.bind (f_X8_takeNumber r3.2 (Int32.ofNat lo) y) fun r6 => some (r6.1, r6.2) else some ((-1 : Int32), r3.2)) fun j4 => some j4) = some (-1, t1) ∧ f_X12_behindWord s2 b (Int32.ofNat lo) y = some (0, t2) ∧ BA t1 t2 ∧ f5 s1 t1 ∧ f7 s2 t2) := by
  rcases L_take h hg hb with ⟨-, t1, t2, a1, a2, a3, a4, a5⟩ | ⟨t1, t2, a1, a2, a3, a4, a5⟩
  · rcases L_num (y := y) a3 hlo with ⟨-, v, -, v1, v2, v3, u1, u2, b1, b2, b3, b4, b5⟩ | ⟨u1, u2, b1, b2, b3, b4, b5⟩
    · refine .inl ⟨v, v1, v2, v3, u1, u2, ?_, ?_, b3, f5_tr a4 b4, f7_tr a5 b5⟩
      · rw [a1, Option.bind_some]
        dsimp only
        rw [if_pos rfl, b1, Option.bind_some, Option.bind_some]
      · unfold f_X12_behindWord
        rw [a2, Option.bind_some, b2, Option.bind_some]
    · refine .inr ⟨u1, u2, ?_, ?_, b3, f5_tr a4 b4, f7_tr a5 b5⟩
      · rw [a1, Option.bind_some]
        dsimp only
        rw [if_pos rfl, b1, Option.bind_some, Option.bind_some]
      · unfold f_X12_behindWord
        rw [a2, Option.bind_some, b2, Option.bind_some]
  · refine .inr ⟨t1, t2, ?_, ?_, a3, a4, a5⟩
    · rw [a1, Option.bind_some]
      dsimp only
      rw [if_neg Bool.false_ne_true, Option.bind_some]
    · unfold f_X12_behindWord
      rw [a2, Option.bind_some, B_count (bd_BA a3), Option.bind_some]
/-- a word that may stand, and a number behind it; 1 without it -/
theorem L_perhaps (h : OK u n T s1 s2 i) (hg : 0 < g ∧ g < 1000) (hb : b = decide (tG u n (tq u n i) = g)) : (∃ v i', 1 ≤ v ∧ v ≤ 9 ∧ i ≤ i' ∧ ∃ t1 t2, f_X2_takePerhaps s1 (Int32.ofNat g) 9 = some (Int32.ofNat v, t1) ∧ (Option.bind (f_X12_perhaps s2 b) fun r4 => Option.bind (if r4.1 = true then Option.bind (f_X12_count r4.2 (1 : Int32) (9 : Int32)) fun r7 => some (r7.1, r7.2) else some ((1 : Int32), r4.2)) fun j5 => some j5) = some (Int32.ofNat v, t2) ∧ OK u n T t1 t2 i' ∧ f5 s1 t1 ∧ f7 s2 t2) ∨ (∃ t1 t2 y', f_X2_takePerhaps s1 (Int32.ofNat g) 9 = some (-1, t1) ∧ (Option.bind (f_X12_perhaps s2 b) fun r4 => Option.bind (if r4.1 = true then Option.bind (f_X12_count r4.2 (1 : Int32) (9 : Int32)) fun r7 => some (r7.1, r7.2) else some ((1 : Int32), r4.2)) fun j5 => some j5) = some (y', t2) ∧ BA t1 t2 ∧ f5 s1 t1 ∧ f7 s2 t2) := by
  have e0 := OK_sort h
  have hG := tG_lt (u := u) (n := n) (q := tq u n i)
  have hle := OK_le h
  by_cases hz : tG u n (tq u n i) = g
  · obtain ⟨t1, t2, a1, a2, a3, a4, a5⟩ := OK_next h (by omega)
    rw [decide_eq_true hz] at hb
    subst hb
    have hp : f_X12_perhaps s2 true = some (true, t2) := by
      unfold f_X12_perhaps
      rw [if_pos hle, if_pos rfl, a2, Option.bind_some]
    have hc : ∀ r, f_X8_takeNumber t1 1 9 = some r → f_X2_takePerhaps s1 (Int32.ofNat g) 9 = some r := fun r hr => by
      unfold f_X2_takePerhaps fu_lt
      rw [e0, Option.bind_some, if_pos (congrArg Int32.ofNat hz), a1]
      dsimp only
      rw [hr, Option.bind_some]
    rcases L_num (lo := 1) (y := 9) a3 (by omega) with ⟨-, v, -, v1, v2, v3, u1, u2, b1, b2, b3, b4, b5⟩ | ⟨u1, u2, b1, b2, b3, b4, b5⟩
    · have b2' : f_X12_count t2 1 9 = some (Int32.ofNat v, u2) := b2
      have hv' : v ≤ 9 := (i_lel (n := 9) (by omega) (show (9 : Nat) < 2147483648 by omega)).mp v3
      refine .inl ⟨v, i + 1 + 1, v1, hv', by omega, u1, u2, hc _ b1, ?_, b3, f5_tr a4 b4, f7_tr a5 b5⟩
      rw [hp, Option.bind_some]
      dsimp only
      rw [if_pos rfl, b2', Option.bind_some, Option.bind_some]
    · have b2' : f_X12_count t2 1 9 = some (0, u2) := b2
      refine .inr ⟨u1, u2, 0, hc _ b1, ?_, b3, f5_tr a4 b4, f7_tr a5 b5⟩
      rw [hp, Option.bind_some]
      dsimp only
      rw [if_pos rfl, b2', Option.bind_some, Option.bind_some]
  · rw [decide_eq_false hz] at hb
    subst hb
    refine .inl ⟨1, i, by omega, by omega, Nat.le_refl _, s1, s2, ?_, ?_, h, f5_rf, f7_rf⟩
    · unfold f_X2_takePerhaps
      rw [e0, Option.bind_some, if_neg (fun z => hz ((i_eq (by omega) (by omega)).mp z))]
      rfl
    · unfold f_X12_perhaps
      rw [if_pos hle, if_neg Bool.false_ne_true, Option.bind_some]
      rfl
end KND
