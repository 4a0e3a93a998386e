abbrev ax_C : Type := (FieldType ⊕ Nat) × List Value
abbrev ax_W : Type := List ax_C
abbrev ax_L : Type := List (Nat × Value)
abbrev ax_I : Type := Nat × Nat × Nat × Value × List (Int × Nat)
