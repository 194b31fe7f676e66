section RULES4
variable {Γ : cx_T} {K : mt_K} {Q : Option Value → mm_T → Prop} {cs sl pc nx : Nat} {L : List (Option Value)} {st : List Value} {τ : Nat × (Nat → sh_T)} {ν : Nat → Nat → Int32} {X : Nat → Nat → Int32} {S : Nat → Int32} {m : Nat}
end RULES4
/-- a list of the row: how many, and that there are not too many -/
def LK (S : Nat → Int32) (b N : Nat) : Prop := ls_n S b ≤ N ∧ S b = nI (ls_n S b)
def in_I (x a b : Int32) : Int32 := if x < a ∨ b < x then 0 else 1
def sz_I (x : Int32) : Int32 := if 0 ≤ x then x else -x
def dn_I (x y : Int32) : Int32 := if x < 0 then -((y - 1 - x) / y) else x / y
