/-! a heap of numbers by place and index, and the words of the functions that the methods are -/
abbrev fu_S : Type := (Nat → Nat → Int32) × (Nat → Nat → Int64)
def fu_b (b : Bool) : Int32 := bif b then 1 else 0
def fu_tb (x : Int32) : Bool := decide (x = 1)
def fu_pi (s : fu_S) (a q : Nat) (x : Int32) : fu_S := (fun b r => if b = a ∧ r = q then x else s.1 b r, s.2)
def fu_pl (s : fu_S) (a q : Nat) (x : Int64) : fu_S := (s.1, fun b r => if b = a ∧ r = q then x else s.2 b r)
def fu_ci (s : fu_S) (a0 sp a dp n : Nat) : fu_S := (fun b => if b = a then va_cpy (s.1 a0) (s.1 a) sp dp n else s.1 b, s.2)
def fu_cl (s : fu_S) (a0 sp a dp n : Nat) : fu_S := (s.1, fun b => if b = a then va_cpy (s.2 a0) (s.2 a) sp dp n else s.2 b)
def fu_lt {α β : Type} (a : α) (f : α → β) : β := f a
def fu_by (x : Int32) : Int32 := x.toInt8.toInt32
abbrev fu_mx (x y : Int32) : Int32 := if x < y then y else x
abbrev fu_mn (x y : Int32) : Int32 := if y < x then y else x
abbrev fu_ab (x : Int32) : Int32 := if 0 ≤ x then x else 0 - x
abbrev fu_abl (x : Int64) : Int64 := if 0 < x then x else -x
def fu_N : Nat := 4096
def am_in (i : Int32) (n : Nat) : Bool := decide (¬ (i < 0 ∨ n ≤ i.toNatClampNeg))
