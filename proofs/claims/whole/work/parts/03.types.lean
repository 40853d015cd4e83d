/-! an op: where it stands, the instruction, what it links to; a method -/
abbrev A_O : Type := Nat × Instr × List Nat
/-- name, bytes, locals, answer, code -/
abbrev A_M : Type := MethodName × ByteArray × Nat × Option FieldType × List A_O
