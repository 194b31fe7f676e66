/-- the reference's text holds the bytes of these characters -/
def TR (X : Nat → Nat → Int32) (c : Nat → Int32) (L : Nat) : Prop := X 0 7 = nI L ∧ L ≤ 100 ∧ ∀ k : Nat, k < L → X 5 k = (c k).toInt8.toInt32 ∧ ∃ j : Nat, j < 256 ∧ c k = nI j
section RULES4
variable {Γ : cx_T} {K : mt_K} {Q : Option Value → mm_T → Prop} {cs sl pc nx : Nat} {L9 : List (Option Value)} {st : List Value} {τ : Nat × (Nat → sh_T)} {ν : Nat → Nat → Int32} {m L idx : Nat} {X : Nat → Nat → Int32} {S c : Nat → Int32} {o n : Int32}
end RULES4
