/-- one item: its first number, its first sign, its second number, its last sign -/
def i1_F (c : Nat → Int32) (L o : Nat) : Int32 × Nat × Int32 := rn_F c L (-20000) 20000 1 (o + 1, -1)
def i2_F (c : Nat → Int32) (L o : Nat) : Nat × Int32 := ex_F c L 58 (i1_F c L o).2
def i3_F (c : Nat → Int32) (L : Nat) (k : Int32) (o : Nat) : Int32 × Nat × Int32 := rn_F c L (ls_I k (i1_F c L o).1) (gs_I k) (if k = 108 then 0 else 1) (i2_F c L o)
def i4_F (c : Nat → Int32) (L : Nat) (k : Int32) (o : Nat) : Nat × Int32 := ex_F c L 59 (i3_F c L k o).2
def it_F (c : Nat → Int32) (L : Nat) (S : Nat → Int32) (o : Nat) : (Nat × Int32) × (Nat → Int32) := if nx_I c L o = 108 ∨ nx_I c L o = 99 ∨ nx_I c L o = 102 then (if (i4_F c L (nx_I c L o) o).2 = -1 then (((i4_F c L (nx_I c L o) o).1, si_E S (nx_I c L o) (i1_F c L o).1 (nI o)), si_S S (nx_I c L o) (i1_F c L o).1 (i3_F c L (nx_I c L o) o).1) else (i4_F c L (nx_I c L o) o, S)) else ((o, nI o), S)
theorem i1_L {c : Nat → Int32} {L o : Nat} (h : o < L) : o + 1 ≤ (i1_F c L o).2.1 ∧ (i1_F c L o).2.1 ≤ L := rn_L (p := (o + 1, -1)) h
theorem i2_L {c : Nat → Int32} {L o : Nat} (h : o < L) : o + 1 ≤ (i2_F c L o).1 ∧ (i2_F c L o).1 ≤ L := by
  have h1 := i1_L (c := c) h
  have h2 := ex_L (c := c) (ch := 58) (by decide) h1.2
  unfold i2_F
  exact ⟨Nat.le_trans h1.1 h2.1, h2.2⟩
theorem i3_L {c : Nat → Int32} {L o : Nat} {k : Int32} (h : o < L) : o + 1 ≤ (i3_F c L k o).2.1 ∧ (i3_F c L k o).2.1 ≤ L := by
  have h1 := i2_L (c := c) h
  have h2 := rn_L (c := c) (lo := ls_I k (i1_F c L o).1) (hi := gs_I k) (mb := if k = 108 then 0 else 1) h1.2
  unfold i3_F
  exact ⟨Nat.le_trans h1.1 h2.1, h2.2⟩
theorem i4_L {c : Nat → Int32} {L o : Nat} {k : Int32} (h : o < L) : o + 1 ≤ (i4_F c L k o).1 ∧ (i4_F c L k o).1 ≤ L := by
  have h1 := i3_L (c := c) (k := k) h
  have h2 := ex_L (c := c) (ch := 59) (by decide) h1.2
  unfold i4_F
  exact ⟨Nat.le_trans h1.1 h2.1, h2.2⟩
theorem it_a {c : Nat → Int32} {L o : Nat} {S : Nat → Int32} (hk : nx_I c L o = 108 ∨ nx_I c L o = 99 ∨ nx_I c L o = 102) (h4 : ¬ (i4_F c L (nx_I c L o) o).2 = -1) : it_F c L S o = (i4_F c L (nx_I c L o) o, S) := by
  unfold it_F; rw [if_pos hk, if_neg h4]
theorem it_b {c : Nat → Int32} {L o : Nat} {S : Nat → Int32} (hk : nx_I c L o = 108 ∨ nx_I c L o = 99 ∨ nx_I c L o = 102) (h4 : (i4_F c L (nx_I c L o) o).2 = -1) : it_F c L S o = (((i4_F c L (nx_I c L o) o).1, si_E S (nx_I c L o) (i1_F c L o).1 (nI o)), si_S S (nx_I c L o) (i1_F c L o).1 (i3_F c L (nx_I c L o) o).1) := by
  unfold it_F; rw [if_pos hk, if_pos h4]
theorem it_c {c : Nat → Int32} {L o : Nat} {S : Nat → Int32} (hk : ¬ (nx_I c L o = 108 ∨ nx_I c L o = 99 ∨ nx_I c L o = 102)) : it_F c L S o = ((o, nI o), S) := by
  unfold it_F; rw [if_neg hk]
theorem nI_m1 {o : Nat} (h : o < 2 ^ 31) : ¬ nI o = -1 := fun q => nI_pos h (by rw [q]; decide)
theorem it_L {c : Nat → Int32} {L o : Nat} {S : Nat → Int32} (h100 : L ≤ 100) (h : o < L) : (it_F c L S o).1.1 ≤ L ∧ ((it_F c L S o).1.2 = -1 → o + 1 ≤ (it_F c L S o).1.1) := by
  have h4 := i4_L (c := c) (k := nx_I c L o) h
  by_cases hk : nx_I c L o = 108 ∨ nx_I c L o = 99 ∨ nx_I c L o = 102
  · by_cases h5 : (i4_F c L (nx_I c L o) o).2 = -1
    · rw [it_b hk h5]; dsimp only
      exact ⟨h4.2, fun _ => h4.1⟩
    · rw [it_a hk h5]; dsimp only
      exact ⟨h4.2, fun _ => h4.1⟩
  · rw [it_c hk]; dsimp only
    exact ⟨Nat.le_of_lt h, fun q => absurd q (nI_m1 (by omega))⟩
