/-! the small machine's tables: their types -/
/-- pc, instruction, length, p, q, value -/
abbrev am_I : Type := Nat × Instr × Nat × Nat × Nat × Value
/-- name, locals, type of the answer, code, class -/
abbrev am_M : Type := MethodName × Nat × Option FieldType × List am_I × Nat
