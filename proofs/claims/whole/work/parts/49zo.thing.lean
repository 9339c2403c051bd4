/-! district: a thing, read -/
section THG
variable {s t r s1 s2 t1 t2 : fu_S} {u : Nat → Nat} {n T p q e f k i g v j m lo w P V W R a b : Nat} {x y : Int32} {z : Int64} {D : dD}
/-- a person told of by name -/
theorem L_whom (h : OK u n T s1 s2 i) (hC : dC s1 P D) (hR : dR s2 b D) (hv : dV D) (hb : b < 5) : (∃ p, p < D 0 4 ∧ ∃ t1 t2, f_X8_takePersonOf s1 P = some (Int32.ofNat p, t1) ∧ f_X12_readTold s2 (Int32.ofNat b) = some (Int32.ofNat p, t2) ∧ OK u n T t1 t2 (i + 1) ∧ f5 s1 t1 ∧ f7 s2 t2) ∨ (∃ t1 t2, f_X8_takePersonOf s1 P = some (-1, t1) ∧ f_X12_readTold s2 (Int32.ofNat b) = some (0, t2) ∧ BA t1 t2 ∧ f5 s1 t1 ∧ f7 s2 t2) := by
  have nN := wd_name h
  have hp4 := hv.1
  by_cases g3 : tG u n (tq u n i) = 3
  · rw [decide_eq_true g3] at nN
    have n1 := OK_hereY h g3
    obtain ⟨n2, hV⟩ := OK_nam h g3
    generalize tV u n (tq u n i) = V at *
    have n3 := c_named hC hv hV
    have n4 := r_named hR hv hb hV n2
    have n5 := d_nm_le (D := D) (V := V)
    have n6 := j_n1 (a := V) (by omega)
    by_cases hd : d_nm D V = 0
    · rw [hd] at n3 n4
      replace n3 : f_X4_personNamed s1 P (Int64.ofNat V) = some (-1) := n3
      replace n4 : f_X12_named s2 (Int32.ofNat b) = some (-1) := n4
      obtain ⟨t1, t2, b1, b2, b3, b4, b5⟩ := L_fail h (k := 3) (by omega) (by omega)
      have b1' : f_X8_refuse s1 3 = some (false, t1) := b1
      have b2' : f_X12_fail s2 3 (s2.1 117 15) = t2 := b2
      refine .inr ⟨t1, t2, ?_, ?_, b3, b4, b5⟩
      · unfold f_X8_takePersonOf
        rw [n1, Option.bind_some, if_neg n6, n3, Option.bind_some, Option.bind_some, if_pos rfl, if_neg n6, Option.bind_some, b1', Option.bind_some]
      · unfold f_X12_readTold fu_lt
        rw [if_pos (OK_0 h), nN, if_pos rfl, Option.bind_some, if_pos (OK_le h), n4, Option.bind_some, if_pos (show (-1 : Int32) < 0 from by decide), b2', Option.bind_some, B_must (bd_BA b3), Option.bind_some]
        rfl
    · have he : e_b (d_nm D V) = Int32.ofNat (d_nm D V - 1) := if_neg hd
      rw [he] at n3 n4
      obtain ⟨t1, t2, a1, a2, a3, a4, a5⟩ := L_next h (by omega)
      refine .inl ⟨d_nm D V - 1, by omega, t1, t2, ?_, ?_, a3, a4, a5⟩
      · unfold f_X8_takePersonOf fu_lt
        rw [n1, Option.bind_some, if_neg n6, n3, Option.bind_some, Option.bind_some, if_neg (e_neg1 (by omega)), a1]
      · have hm : fu_mx 0 (Int32.ofNat (d_nm D V - 1)) = Int32.ofNat (d_nm D V - 1) := (i_mx (a := 0) (by omega) (by omega)).trans (by rw [Nat.zero_max])
        unfold f_X12_readTold
        rw [if_pos (OK_0 h), nN, if_pos rfl, Option.bind_some, if_pos (OK_le h), n4, Option.bind_some, if_neg (fun z => (i_lt0 (by omega)).mp z), Option.bind_some, a2, Option.bind_some, hm]
  · rw [decide_eq_false g3] at nN
    have n1 := OK_hereN h g3
    obtain ⟨t1, t2, b1, b2, b3, b4, b5⟩ := L_amiss h
    have hbd := bd_BA b3
    refine .inr ⟨t1, t2, ?_, ?_, b3, b4, b5⟩
    · unfold f_X8_takePersonOf
      rw [n1, Option.bind_some, if_pos rfl, Option.bind_some, if_pos rfl, if_pos rfl, Option.bind_some, b1, Option.bind_some]
    · unfold f_X12_readTold fu_lt
      rw [if_pos (OK_0 h), nN, if_neg Bool.false_ne_true, b2, Option.bind_some, if_neg (bd_le hbd)]
theorem P_thing (h : OK u n T s1 s2 i) (hg : tG u n (tq u n i) = 109) (hD : QD s1 s2 D) : PT u n T s1 s2 i (f_X2_takeThing s1) (f_X12_readThing s2) (fun _ t1 t2 => t1.1 47 = s1.1 47 ∧ t2.1 117 24 = s2.1 117 24) := by
  have hk := hD.2.1.1.2.2.2.2.2
  have hr : s2.1 122 1422 = Int32.ofNat (D 0 5) := hD.2.2.1.2.2.1
  have hp4 := hD.1.1
  have q1 : am_in ((1420 : Int32) + 2) 1775 = true := by decide
  have q2 : ((1420 : Int32) + 2).toNatClampNeg = 1422 := by decide
  by_cases h8 : D 0 5 < 8
  · have hne : ¬ Int32.ofNat (D 0 5) = 8 := fun z => by have z' : D 0 5 = 8 := (i_eql (n := 8) (by omega) (show (8 : Nat) < 2147483648 by omega)).mp z; omega
    have hlt : Int32.ofNat (D 0 5) < 8 := (i_ltl (n := 8) (by omega) (show (8 : Nat) < 2147483648 by omega)).mpr h8
    obtain ⟨u1, u2, a1, a2, a3, a4, a5⟩ := r_an1 (cc := 2) (mm := 8) h (by omega) q1 q2 hr hne
    have hD1 := QD_57 hD a4 a5
    rcases L_whom (b := 4) a3 hD1.2.1 hD1.2.2 hD.1 (by omega) with ⟨p, hp, t1, t2, b1, b2, b3, b4, b5⟩ | ⟨t1, t2, b1, b2, b3, b4, b5⟩
    · have b2' : f_X12_readTold u2 4 = some (Int32.ofNat p, t2) := b2
      have hD2 := QD_57 hD1 b4 b5
      have k3 : t1.1 29 3 = Int32.ofNat (D 0 3) := hD2.2.1.1.2.2.2.1
      have r3 : t2.1 122 1420 = Int32.ofNat (D 0 3) := hD2.2.2.1.1
      rcases L_num (lo := 0) (y := Int32.ofNat (D 0 3) - 1) b3 (by omega) with ⟨-, kk, -, -, hk9, hkk, r1, r2, c1, c2, c3, c4, c5⟩ | ⟨r1, r2, c1, c2, c3, c4, c5⟩
      · have hkk' : kk < D 0 3 := (i_lt (by omega) (by omega)).mp ((i_lepred (by omega)).mp hkk)
        have c1' : f_X8_takeNumber t1 0 (Int32.ofNat (D 0 3) - 1) = some (Int32.ofNat kk, r1) := c1
        have c2' : f_X12_count t2 0 (Int32.ofNat (D 0 3) - 1) = some (Int32.ofNat kk, r2) := c2
        rcases L_perhaps (g := 110) c3 (by omega) (wd_10 c3) with ⟨v, i', hv1, hv9, hi', w1, w2, d1, d2, d3, d4, d5⟩ | ⟨w1, w2, y', d1, d2, d3, d4, d5⟩
        · have d1' : f_X2_takePerhaps r1 110 9 = some (Int32.ofNat v, w1) := d1
          have hD3 := QD_57 (QD_57 hD2 c4 c5) d4 d5
          obtain ⟨e1, e2, e3, e4⟩ := c_add (p := p) (k := kk) (w := v) hD3.2.1 hD.1 h8 (by omega) (by omega) (by omega)
          obtain ⟨f1, f2, f3, f4⟩ := r_add (p := p) (k := kk) (w := v) hD3.2.2 hD.1 (by omega) h8 (by omega) hp hkk' ⟨hv1, hv9⟩
          have f2' : f_X12_loses w2 4 (Int32.ofNat p) (Int32.ofNat kk) (Int32.ofNat v) = some f1 := f2
          have hOK : OK u n T e1 f1 i' := OK_w d3 (e4 5 (by omega)).1 (e4 8 (by omega)).1 (e4 9 (by omega)).1 (e4 10 (by omega)).2 (f4.2.1 117 (by omega)) (f4.2.1 121 (by omega)) (by rw [f4.1])
          refine .inl ⟨e1, f1, dthing D p kk v, i', ?_, ?_, hOK, by omega, ⟨dV_thing hD.1 h8 hp hkk' ⟨hv1, hv9⟩, e3, f3⟩, ⟨?_, ?_⟩, ?_, ?_⟩
          · unfold f_X2_takeThing fu_lt f_X4_things f_X4_kinds
            rw [hk, if_pos hlt, a1]
            dsimp only
            rw [b1, Option.bind_some]
            dsimp only
            rw [if_neg (e_neg1 (by omega)), k3, c1', Option.bind_some]
            dsimp only
            rw [if_neg (e_neg1 (by omega)), d1', Option.bind_some]
            dsimp only
            rw [if_neg (e_neg1 (by omega)), e2, Option.bind_some]
          · unfold f_X12_readThing
            rw [a2, Option.bind_some]
            dsimp only
            rw [b2', Option.bind_some]
            dsimp only
            rw [r3, c2', Option.bind_some]
            dsimp only
            refine (ob_k d2 _).trans ?_
            dsimp only
            rw [if_pos (OK_0 d3), f2', Option.bind_some, Option.bind_some]
          · rw [(e4 47 (by omega)).1, d4.1 47 (by omega), c4.1 47 (by omega), b4.1 47 (by omega), a4.1 47 (by omega)]
          · rw [f4.2.1 117 (by omega), d5.2.1 24 (by omega), c5.2.1 24 (by omega), b5.2.1 24 (by omega), a5.2.1 24 (by omega)]
          · exact fQ1_tr (fQ1_5 a4) (fQ1_tr (fQ1_5 b4) (fQ1_tr (fQ1_5 c4) (fQ1_tr (fQ1_5 d4) ⟨fun a _ x1 _ => e4 a (by omega), (e4 5 (by omega)).2, fun q _ _ _ => by rw [(e4 5 (by omega)).1]⟩)))
          · exact fQ2_tr (fQ2_7 a5) (fQ2_tr (fQ2_7 b5) (fQ2_tr (fQ2_7 c5) (fQ2_tr (fQ2_7 d5) ⟨fun a _ x1 => f4.2.1 a x1, fun q _ _ _ => by rw [f4.2.1 117 (by omega)], fun i hi => f4.2.2 i (by omega), fun a _ _ => by rw [f4.1], fun q _ => by rw [f4.1], fun i _ => by rw [f4.1]⟩)))
        · have d1' : f_X2_takePerhaps r1 110 9 = some (-1, w1) := d1
          refine .inr ⟨w1, w2, ?_, ?_, d3, fQ1_tr (fQ1_5 a4) (fQ1_tr (fQ1_5 b4) (fQ1_tr (fQ1_5 c4) (fQ1_5 d4))), fQ2_tr (fQ2_7 a5) (fQ2_tr (fQ2_7 b5) (fQ2_tr (fQ2_7 c5) (fQ2_7 d5)))⟩
          · unfold f_X2_takeThing fu_lt f_X4_things f_X4_kinds
            rw [hk, if_pos hlt, a1]
            dsimp only
            rw [b1, Option.bind_some]
            dsimp only
            rw [if_neg (e_neg1 (by omega)), k3, c1', Option.bind_some]
            dsimp only
            rw [if_neg (e_neg1 (by omega)), d1', Option.bind_some]
            dsimp only
            rw [if_pos rfl]
          · unfold f_X12_readThing
            rw [a2, Option.bind_some]
            dsimp only
            rw [b2', Option.bind_some]
            dsimp only
            rw [r3, c2', Option.bind_some]
            dsimp only
            refine (ob_k d2 _).trans ?_
            dsimp only
            rw [if_neg (bd_eq (bd_BA d3)), Option.bind_some]
      · have c1' : f_X8_takeNumber t1 0 (Int32.ofNat (D 0 3) - 1) = some (-1, r1) := c1
        have c2' : f_X12_count t2 0 (Int32.ofNat (D 0 3) - 1) = some (0, r2) := c2
        have hbd := bd_BA c3
        refine .inr ⟨r1, r2, ?_, ?_, c3, fQ1_tr (fQ1_5 a4) (fQ1_tr (fQ1_5 b4) (fQ1_5 c4)), fQ2_tr (fQ2_7 a5) (fQ2_tr (fQ2_7 b5) (fQ2_7 c5))⟩
        · unfold f_X2_takeThing fu_lt f_X4_things f_X4_kinds
          rw [hk, if_pos hlt, a1]
          dsimp only
          rw [b1, Option.bind_some]
          dsimp only
          rw [if_neg (e_neg1 (by omega)), k3, c1', Option.bind_some]
          dsimp only
          rw [if_pos rfl]
        · unfold f_X12_readThing
          rw [a2, Option.bind_some]
          dsimp only
          rw [b2', Option.bind_some]
          dsimp only
          rw [r3, c2', Option.bind_some]
          dsimp only
          refine (ob_k (B_rest hbd) _).trans ?_
          dsimp only
          rw [if_neg (bd_eq hbd), Option.bind_some]
    · have b2' : f_X12_readTold u2 4 = some (0, t2) := b2
      have hbd := bd_BA b3
      refine .inr ⟨t1, t2, ?_, ?_, b3, fQ1_tr (fQ1_5 a4) (fQ1_5 b4), fQ2_tr (fQ2_7 a5) (fQ2_7 b5)⟩
      · unfold f_X2_takeThing fu_lt f_X4_things
        rw [hk, if_pos hlt, a1]
        dsimp only
        rw [b1, Option.bind_some]
        dsimp only
        rw [if_pos rfl]
      · unfold f_X12_readThing
        rw [a2, Option.bind_some]
        dsimp only
        rw [b2', Option.bind_some]
        dsimp only
        rw [B_count hbd, Option.bind_some]
        dsimp only
        refine (ob_k (B_rest hbd) _).trans ?_
        dsimp only
        rw [if_neg (bd_eq hbd), Option.bind_some]
  · have h88 : D 0 5 = 8 := by omega
    have hlt : ¬ Int32.ofNat (D 0 5) < 8 := fun z => h8 ((i_ltl (n := 8) (by omega) (show (8 : Nat) < 2147483648 by omega)).mp z)
    obtain ⟨t1, t2, a1, a2, a3, a4, a5⟩ := r_an2 (cc := 2) (mm := 8) h (by omega) q1 q2 hr (by rw [h88]; rfl)
    have hbd := bd_BA a3
    refine .inr ⟨t1, t2, ?_, ?_, a3, fQ1_5 a4, fQ2_7 a5⟩
    · unfold f_X2_takeThing fu_lt f_X4_things
      rw [hk, if_neg hlt, a1, Option.bind_some]
    · unfold f_X12_readThing
      rw [a2, Option.bind_some]
      dsimp only
      rw [B_told hbd, Option.bind_some]
      dsimp only
      rw [B_count hbd, Option.bind_some]
      dsimp only
      refine (ob_k (B_rest hbd) _).trans ?_
      dsimp only
      rw [if_neg (bd_eq hbd), Option.bind_some]
end THG
