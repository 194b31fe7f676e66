/-- a row laid into a long one from a place on -/
def pa_N (P : Nat → Int32) (b : Nat) (f : Nat → Int32) (i : Nat) : Nat → Int32 := fun j => if b ≤ j ∧ j < b + i then f (j - b) else P j
