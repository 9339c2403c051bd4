/-! A small machine (am): the instructions that this claim's code has, over a list of cells at abstract places. Its runs are tied to the machine's once and for all (parts 05..); all else is said of it. -/
abbrev am_A : Type := Nat × vp_A
abbrev am_C : Type := am_A ⊕ (Nat × List Value)
abbrev am_H : Type := List am_C
def am_at : List am_I → Nat → Option (Instr × Nat × Nat × Nat × Value)
  | [], _ => none
  | e :: t, pc => bif Nat.beq e.1 pc then some e.2 else am_at t pc
/-- a local that holds nothing -/
abbrev am_U : Value := .retAddr 0
def am_kill (ls : List Value) : Nat → List Value
  | 0 => ls
  | j + 1 => match ls[j]? with
    | some (.long _) => ls.set j am_U
    | some (.double _) => ls.set j am_U
    | _ => ls
def am_put1 (ls : List Value) (i : Nat) (v : Value) : Option (List Value) := if i < ls.length then some ((am_kill ls i).set i v) else none
def am_put2 (ls : List Value) (i : Nat) (v : Value) : Option (List Value) := if i + 1 < ls.length then some (((am_kill ls i).set i v).set (i + 1) am_U) else none
def am_sz (st : List Value) : Nat := (st.map fun v => v.category).sum
def am_sh (y : Int32) : Int32 := y &&& 31
/-- the next pc, locals, stack, heap, of what isn't a call or an end -/
def am_step {η : Type} (ho : Nat → Nat → Nat → List Value → η → Option (List Value × η)) (i : Instr) (n p q : Nat) (v : Value) (pc : Nat) (ls st : List Value) (h : η) : Option (Nat × List Value × List Value × η) :=
  match i, st with
  | .iconst _, st => some (pc + n, ls, v :: st, h)
  | .bipush _, st => some (pc + n, ls, v :: st, h)
  | .sipush _, st => some (pc + n, ls, v :: st, h)
  | .lconst _, st => some (pc + n, ls, v :: st, h)
  | .ldc _, st => some (pc + n, ls, v :: st, h)
  | .ldc_w _, st => some (pc + n, ls, v :: st, h)
  | .ldc2_w _, st => some (pc + n, ls, v :: st, h)
  | .iload_n _, st => match ls[p]? with | some (.int x) => some (pc + n, ls, .int x :: st, h) | _ => none
  | .iload _, st => match ls[p]? with | some (.int x) => some (pc + n, ls, .int x :: st, h) | _ => none
  | .lload_n _, st => match ls[p]? with | some (.long x) => some (pc + n, ls, .long x :: st, h) | _ => none
  | .lload _, st => match ls[p]? with | some (.long x) => some (pc + n, ls, .long x :: st, h) | _ => none
  | .aload_n _, st => match ls[p]? with | some (.ref x) => some (pc + n, ls, .ref x :: st, h) | _ => none
  | .aload _, st => match ls[p]? with | some (.ref x) => some (pc + n, ls, .ref x :: st, h) | _ => none
  | .istore_n _, .int x :: st => match am_put1 ls p (.int x) with | some l => some (pc + n, l, st, h) | none => none
  | .istore _, .int x :: st => match am_put1 ls p (.int x) with | some l => some (pc + n, l, st, h) | none => none
  | .lstore_n _, .long x :: st => match am_put2 ls p (.long x) with | some l => some (pc + n, l, st, h) | none => none
  | .lstore _, .long x :: st => match am_put2 ls p (.long x) with | some l => some (pc + n, l, st, h) | none => none
  | .astore_n _, .ref x :: st => match am_put1 ls p (.ref x) with | some l => some (pc + n, l, st, h) | none => none
  | .iinc _ _, st => match ls[p]?, v with | some (.int x), .int c => (match am_put1 ls p (.int (x + c)) with | some l => some (pc + n, l, st, h) | none => none) | _, _ => none
  | .iadd, .int y :: .int x :: st => some (pc + n, ls, .int (x + y) :: st, h)
  | .isub, .int y :: .int x :: st => some (pc + n, ls, .int (x - y) :: st, h)
  | .imul, .int y :: .int x :: st => some (pc + n, ls, .int (x * y) :: st, h)
  | .iand, .int y :: .int x :: st => some (pc + n, ls, .int (x &&& y) :: st, h)
  | .ior, .int y :: .int x :: st => some (pc + n, ls, .int (x ||| y) :: st, h)
  | .ixor, .int y :: .int x :: st => some (pc + n, ls, .int (x ^^^ y) :: st, h)
  | .idiv, .int y :: .int x :: st => if y = 0 then none else some (pc + n, ls, .int (x / y) :: st, h)
  | .irem, .int y :: .int x :: st => if y = 0 then none else some (pc + n, ls, .int (x - x / y * y) :: st, h)
  | .ineg, .int x :: st => some (pc + n, ls, .int (-x) :: st, h)
  | .ishl, .int y :: .int x :: st => some (pc + n, ls, .int (x <<< (y &&& 31)) :: st, h)
  | .ishr, .int y :: .int x :: st => some (pc + n, ls, .int (x >>> (y &&& 31)) :: st, h)
  | .iushr, .int y :: .int x :: st => some (pc + n, ls, .int (x.toUInt32 >>> (y.toUInt32 &&& Int32.toUInt32 31)).toInt32 :: st, h)
  | .ladd, .long y :: .long x :: st => some (pc + n, ls, .long (x + y) :: st, h)
  | .lsub, .long y :: .long x :: st => some (pc + n, ls, .long (x - y) :: st, h)
  | .lmul, .long y :: .long x :: st => some (pc + n, ls, .long (x * y) :: st, h)
  | .land, .long y :: .long x :: st => some (pc + n, ls, .long (x &&& y) :: st, h)
  | .lor, .long y :: .long x :: st => some (pc + n, ls, .long (x ||| y) :: st, h)
  | .ldiv, .long y :: .long x :: st => if y = 0 then none else some (pc + n, ls, .long (x / y) :: st, h)
  | .lrem, .long y :: .long x :: st => if y = 0 then none else some (pc + n, ls, .long (x - x / y * y) :: st, h)
  | .lshl, .int y :: .long x :: st => some (pc + n, ls, .long (x <<< (y.toInt64 &&& 63)) :: st, h)
  | .lcmp, .long y :: .long x :: st => some (pc + n, ls, .int (lg_cmp x y) :: st, h)
  | .i2l, .int x :: st => some (pc + n, ls, .long x.toInt64 :: st, h)
  | .l2i, .long x :: st => some (pc + n, ls, .int x.toInt32 :: st, h)
  | .i2b, .int x :: st => some (pc + n, ls, .int x.toInt8.toInt32 :: st, h)
  | .i2s, .int x :: st => some (pc + n, ls, .int x.toInt16.toInt32 :: st, h)
  | .dup, .int x :: st => some (pc + n, ls, .int x :: .int x :: st, h)
  | .dup, .ref x :: st => some (pc + n, ls, .ref x :: .ref x :: st, h)
  | .dup2, .int y :: .ref x :: st => some (pc + n, ls, .int y :: .ref x :: .int y :: .ref x :: st, h)
  | .dup2, .long x :: st => some (pc + n, ls, .long x :: .long x :: st, h)
  | .pop, .int _ :: st => some (pc + n, ls, st, h)
  | .goto _, st => some (p, ls, st, h)
  | .ifCond .eq _, .int x :: st => if x = 0 then some (p, ls, st, h) else some (pc + n, ls, st, h)
  | .ifCond .ne _, .int x :: st => if x = 0 then some (pc + n, ls, st, h) else some (p, ls, st, h)
  | .ifCond .lt _, .int x :: st => if x < 0 then some (p, ls, st, h) else some (pc + n, ls, st, h)
  | .ifCond .ge _, .int x :: st => if x < 0 then some (pc + n, ls, st, h) else some (p, ls, st, h)
  | .ifCond .gt _, .int x :: st => if x ≤ 0 then some (pc + n, ls, st, h) else some (p, ls, st, h)
  | .ifCond .le _, .int x :: st => if x ≤ 0 then some (p, ls, st, h) else some (pc + n, ls, st, h)
  | .if_icmp .eq _, .int y :: .int x :: st => if x = y then some (p, ls, st, h) else some (pc + n, ls, st, h)
  | .if_icmp .ne _, .int y :: .int x :: st => if x = y then some (pc + n, ls, st, h) else some (p, ls, st, h)
  | .if_icmp .lt _, .int y :: .int x :: st => if x < y then some (p, ls, st, h) else some (pc + n, ls, st, h)
  | .if_icmp .ge _, .int y :: .int x :: st => if x < y then some (pc + n, ls, st, h) else some (p, ls, st, h)
  | .if_icmp .gt _, .int y :: .int x :: st => if x ≤ y then some (pc + n, ls, st, h) else some (p, ls, st, h)
  | .if_icmp .le _, .int y :: .int x :: st => if x ≤ y then some (p, ls, st, h) else some (pc + n, ls, st, h)
  | .ifnonnull _, .ref _ :: st => some (p, ls, st, h)
  | .tableswitch d lo hi offs, .int x :: st => if x.toInt < lo ∨ hi < x.toInt then some (((pc : Int) + d).toNat, ls, st, h) else match offs[(x.toInt - lo).toNat]? with | some o => some (((pc : Int) + o).toNat, ls, st, h) | none => none
  | .lookupswitch d ps, .int x :: st => some (((pc : Int) + Op.lookupswitch.offset ps.toList d x.toInt).toNat, ls, st, h)
  | .getfield _, st => match ho 0 p q st h with | some (st', h') => some (pc + n, ls, st', h') | none => none
  | .putfield _, st => match ho 1 p q st h with | some (st', h') => some (pc + n, ls, st', h') | none => none
  | .iaload, st => match ho 2 p q st h with | some (st', h') => some (pc + n, ls, st', h') | none => none
  | .iastore, st => match ho 3 p q st h with | some (st', h') => some (pc + n, ls, st', h') | none => none
  | .laload, st => match ho 4 p q st h with | some (st', h') => some (pc + n, ls, st', h') | none => none
  | .lastore, st => match ho 5 p q st h with | some (st', h') => some (pc + n, ls, st', h') | none => none
  | .baload, st => match ho 6 p q st h with | some (st', h') => some (pc + n, ls, st', h') | none => none
  | .bastore, st => match ho 7 p q st h with | some (st', h') => some (pc + n, ls, st', h') | none => none
  | .aaload, st => match ho 8 p q st h with | some (st', h') => some (pc + n, ls, st', h') | none => none
  | .aastore, st => match ho 9 p q st h with | some (st', h') => some (pc + n, ls, st', h') | none => none
  | .arraylength, st => match ho 10 p q st h with | some (st', h') => some (pc + n, ls, st', h') | none => none
  | .new _, st => match ho 12 p q st h with | some (st', h') => some (pc + n, ls, st', h') | none => none
  | .newarray _, st => match ho 13 p q st h with | some (st', h') => some (pc + n, ls, st', h') | none => none
  | .anewarray _, st => match ho 14 p q st h with | some (st', h') => some (pc + n, ls, st', h') | none => none
  | _, _ => none
def am_neg : Option Value → Bool
  | some (.int _) => true
  | some (.long _) => true
  | none => true
  | _ => false
/-- one instruction: an end with its answer, or the next pc, locals, stack, heap -/
def am_one {η : Type} (ho : Nat → Nat → Nat → List Value → η → Option (List Value × η)) (C : Nat → List Value → η → Option (Option Value × η)) (rt : Option FieldType) (code : List am_I) (pc : Nat) (ls st : List Value) (h : η) : Option ((Option Value × η) ⊕ (Nat × List Value × List Value × η)) :=
  match am_at code pc with
  | none => none
  | some (i, n, p, q, v) => match i, st with
    | .return_, [] => (match rt with | none => some (.inl (none, h)) | some _ => none)
    | .ireturn, [.int x] => (match rt with | some ty => (if narrow ty (.int x) = .int x then some (.inl (some (.int x), h)) else none) | none => none)
    | .lreturn, [.long x] => (match rt with | some .long => some (.inl (some (.long x), h)) | _ => none)
    | .invokevirtual _, st =>
      bif Nat.ble 1000 p then (if am_sz st ≤ 8 then (match ho p 0 0 st h with | some (st', h') => some (.inr (pc + n, ls, st', h')) | none => none) else none)
      else (match st.drop q with
        | .ref a :: r => if am_sz r ≤ 8 then (match ho 16 p 0 [.ref a] h with
          | some _ => (match C p (.ref a :: (st.take q).reverse) h with | some (w, h') => some (.inr (pc + n, ls, w.toList ++ r, h')) | none => none)
          | none => none) else none
        | _ => none)
    | .invokestatic _, st =>
      bif Nat.ble 1000 p then (if am_sz st ≤ 16 then (match ho p 0 0 st h with | some (st', h') => some (.inr (pc + n, ls, st', h')) | none => none) else none)
      else (if q ≤ st.length ∧ am_sz (st.drop q) ≤ 8 then (match C p (st.take q).reverse h with | some (w, h') => some (.inr (pc + n, ls, w.toList ++ st.drop q, h')) | none => none) else none)
    | .invokespecial _, st =>
      bif Nat.ble 1000 p then (if am_sz st ≤ 16 then (match ho p 0 0 st h with | some (st', h') => some (.inr (pc + n, ls, st', h')) | none => none) else none)
      else (match st.drop q with
        | .ref a :: r => if am_sz r ≤ 8 then (match C p (.ref a :: (st.take q).reverse) h with | some (w, h') => some (.inr (pc + n, ls, w.toList ++ r, h')) | none => none) else none
        | _ => none)
    | _, _ => (match am_step ho i n p q v pc ls st h with | some c => some (.inr c) | none => none)
def am_ex {η : Type} (ho : Nat → Nat → Nat → List Value → η → Option (List Value × η)) (C : Nat → List Value → η → Option (Option Value × η)) (rt : Option FieldType) (code : List am_I) : Nat → Nat → List Value → List Value → η → Option (Option Value × η)
  | 0, _, _, _, _ => none
  | n + 1, pc, ls, st, h => match am_one ho C rt code pc ls st h with
    | some (.inl r) => some r
    | some (.inr c) => am_ex ho C rt code n c.1 c.2.1 c.2.2.1 c.2.2.2
    | none => none
theorem am_ex_succ {η : Type} {ho : Nat → Nat → Nat → List Value → η → Option (List Value × η)} {C : Nat → List Value → η → Option (Option Value × η)} {rt : Option FieldType} {code : List am_I} : ∀ {n pc : Nat} {ls st : List Value} {h : η} {r : Option Value × η}, am_ex ho C rt code n pc ls st h = some r → am_ex ho C rt code (n + 1) pc ls st h = some r
  | 0, _, _, _, _, _, h => by simp [am_ex] at h
  | n + 1, pc, ls, st, h, r, e => by
    rw [am_ex] at e ⊢
    cases ho1 : am_one ho C rt code pc ls st h with
    | none => rw [ho1] at e; cases e
    | some x =>
      cases x with
      | inl a => rw [ho1] at e; exact e
      | inr c => rw [ho1] at e; exact am_ex_succ e
theorem am_ex_le {η : Type} {ho : Nat → Nat → Nat → List Value → η → Option (List Value × η)} {C : Nat → List Value → η → Option (Option Value × η)} {rt : Option FieldType} {code : List am_I} {n m pc : Nat} {ls st : List Value} {h : η} {r : Option Value × η} (e : am_ex ho C rt code n pc ls st h = some r) (hm : n ≤ m) : am_ex ho C rt code m pc ls st h = some r := by
  induction hm with
  | refl => exact e
  | step _ ih => exact am_ex_succ ih
theorem am_ex_one {η : Type} {ho : Nat → Nat → Nat → List Value → η → Option (List Value × η)} {C : Nat → List Value → η → Option (Option Value × η)} {rt : Option FieldType} {code : List am_I} {n m pc : Nat} {ls st : List Value} {h : η} {r r' : Option Value × η} (e : am_ex ho C rt code n pc ls st h = some r) (e' : am_ex ho C rt code m pc ls st h = some r') : r = r' := by
  have a := am_ex_le e (Nat.le_max_left n m)
  have b := am_ex_le e' (Nat.le_max_right n m)
  exact Option.some.inj (a.symm.trans b)
/-- where a run from here ends, if it ends -/
noncomputable def am_X {η : Type} (ho : Nat → Nat → Nat → List Value → η → Option (List Value × η)) (C : Nat → List Value → η → Option (Option Value × η)) (rt : Option FieldType) (code : List am_I) (pc : Nat) (ls st : List Value) (h : η) : Option (Option Value × η) :=
  @dite _ (∃ r n, am_ex ho C rt code n pc ls st h = some r) (Classical.propDecidable _) (fun H => some (Classical.choose H)) (fun _ => none)
theorem am_X_of {η : Type} {ho : Nat → Nat → Nat → List Value → η → Option (List Value × η)} {C : Nat → List Value → η → Option (Option Value × η)} {rt : Option FieldType} {code : List am_I} {n pc : Nat} {ls st : List Value} {h : η} {r : Option Value × η} (e : am_ex ho C rt code n pc ls st h = some r) : am_X ho C rt code pc ls st h = some r := by
  have H : ∃ r n, am_ex ho C rt code n pc ls st h = some r := ⟨r, n, e⟩
  rw [am_X, dif_pos H]
  obtain ⟨m, e'⟩ := Classical.choose_spec H
  rw [am_ex_one e' e]
theorem am_X_ex {η : Type} {ho : Nat → Nat → Nat → List Value → η → Option (List Value × η)} {C : Nat → List Value → η → Option (Option Value × η)} {rt : Option FieldType} {code : List am_I} {pc : Nat} {ls st : List Value} {h : η} {r : Option Value × η} (e : am_X ho C rt code pc ls st h = some r) : ∃ n, am_ex ho C rt code n pc ls st h = some r := by
  by_cases H : ∃ r n, am_ex ho C rt code n pc ls st h = some r
  · rw [am_X, dif_pos H] at e
    obtain ⟨m, e'⟩ := Classical.choose_spec H
    exact ⟨m, by rw [e']; exact e⟩
  · rw [am_X, dif_neg H] at e
    cases e
theorem am_X_eq {η : Type} {ho : Nat → Nat → Nat → List Value → η → Option (List Value × η)} {C : Nat → List Value → η → Option (Option Value × η)} {rt : Option FieldType} {code : List am_I} {pc : Nat} {ls st : List Value} {h : η} : am_X ho C rt code pc ls st h = (match am_one ho C rt code pc ls st h with | some (.inl r) => some r | some (.inr c) => am_X ho C rt code c.1 c.2.1 c.2.2.1 c.2.2.2 | none => none) := by
  cases ho1 : am_one ho C rt code pc ls st h with
  | none =>
    cases hX : am_X ho C rt code pc ls st h with
    | none => rfl
    | some r =>
      obtain ⟨n, e⟩ := am_X_ex hX
      cases n with
      | zero => simp [am_ex] at e
      | succ n => rw [am_ex, ho1] at e; cases e
  | some x =>
    cases x with
    | inl r => exact am_X_of (n := 1) (by rw [am_ex, ho1])
    | inr c =>
      show _ = am_X ho C rt code c.1 c.2.1 c.2.2.1 c.2.2.2
      cases hX : am_X ho C rt code c.1 c.2.1 c.2.2.1 c.2.2.2 with
      | some r =>
        obtain ⟨n, e⟩ := am_X_ex hX
        exact am_X_of (n := n + 1) (by rw [am_ex, ho1]; exact e)
      | none =>
        cases hY : am_X ho C rt code pc ls st h with
        | none => rfl
        | some r =>
          obtain ⟨n, e⟩ := am_X_ex hY
          cases n with
          | zero => simp [am_ex] at e
          | succ n =>
            rw [am_ex, ho1] at e
            rw [am_X_of e] at hX
            cases hX
/-- the locals at a method's entry -/
def am_lay : List Value → List Value
  | [] => []
  | .long x :: t => .long x :: am_U :: am_lay t
  | .double x :: t => .double x :: am_U :: am_lay t
  | v :: t => v :: am_lay t
def am_init (as : List Value) (n : Nat) : List Value := am_lay as ++ List.replicate (n - (am_lay as).length) am_U
/-- a method's answer, with calls at most d deep -/
noncomputable def am_D {η : Type} (ho : Nat → Nat → Nat → List Value → η → Option (List Value × η)) (ms : Nat → Option am_M) : Nat → Nat → List Value → η → Option (Option Value × η)
  | 0, _, _, _ => none
  | d + 1, m, as, h => match ms m with
    | some (_, n, rt, code, _) => bif Nat.ble (am_lay as).length n then am_X ho (am_D ho ms d) rt code 0 (am_init as n) [] h else none
    | none => none
