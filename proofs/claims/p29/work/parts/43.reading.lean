/-- what an error can be -/
def PE (x : Int32) : Prop := x = -1 ∨ ∃ z : Nat, z ≤ 100 ∧ x = nI z
theorem PE.er {c : Nat → Int32} {L o : Nat} {lo hi mb : Int32} (hL : L ≤ 100) (ho : o ≤ L) : PE (er_9 c L lo hi mb o) := by
  have hf := fi_le (c := c) (mb := mb) ho
  have hr := rv_le (c := c) (mb := mb) ho
  unfold er_9
  split
  · exact Or.inr ⟨_, by omega, rfl⟩
  · split
    · exact Or.inr ⟨_, by omega, rfl⟩
    · exact Or.inl rfl
theorem PE.rn {c : Nat → Int32} {L : Nat} {lo hi mb : Int32} {p : Nat × Int32} (hL : L ≤ 100) (hp : p.1 ≤ L) (h : PE p.2) : PE (rn_F c L lo hi mb p).2.2 := by
  unfold rn_F
  split
  · exact PE.er hL hp
  · exact h
theorem PE.ex {c : Nat → Int32} {L : Nat} {ch : Int32} {p : Nat × Int32} (hL : L ≤ 100) (hp : p.1 ≤ L) (h : PE p.2) : PE (ex_F c L ch p).2 := by
  have := so_L (c := c) hp
  unfold ex_F
  split
  · split
    · exact Or.inl rfl
    · exact Or.inr ⟨_, by omega, rfl⟩
  · exact h
theorem PE.it {c : Nat → Int32} {L o : Nat} {T : Nat → Int32} (hL : L ≤ 100) (ho : o < L) : PE (it_F c L T o).1.2 := by
  have h1 : PE (i1_F c L o).2.2 := PE.rn (p := (o + 1, -1)) hL ho (Or.inl rfl)
  have h2 : PE (i2_F c L o).2 := PE.ex hL (i1_L ho).2 h1
  have h3 : PE (i3_F c L (nx_I c L o) o).2.2 := PE.rn hL (i2_L ho).2 h2
  have h4 : PE (i4_F c L (nx_I c L o) o).2 := PE.ex hL (i3_L ho).2 h3
  by_cases hk : nx_I c L o = 108 ∨ nx_I c L o = 99 ∨ nx_I c L o = 102
  · by_cases z : (i4_F c L (nx_I c L o) o).2 = -1
    · rw [it_b hk z]
      show PE (si_E T (nx_I c L o) (i1_F c L o).1 (nI o))
      unfold si_E
      split
      · exact Or.inl rfl
      · split
        · exact Or.inr ⟨o, by omega, rfl⟩
        · exact Or.inl rfl
    · rw [it_a hk z]; exact h4
  · rw [it_c hk]
    exact Or.inr ⟨o, by omega, rfl⟩
theorem PE.rm {c : Nat → Int32} {L : Nat} (hL : L ≤ 100) : ∀ (f i : Nat) (p : Nat × Int32) (T : Nat → Int32), p.1 ≤ L → PE p.2 → PE (rm_F c L f i p T).2.1.2
  | 0, i, p, T, _, h => h
  | f + 1, i, p, T, hp, h => by
    by_cases q : p.1 < L ∧ p.2 = -1
    · have e2 : rm_F c L (f + 1) i p T = rm_F c L f (i + 1) (so c L (it_F c L T p.1).1.1, (it_F c L T p.1).1.2) (im_S c L T p.1) := if_pos q
      rw [e2]
      have hl := (it_L (c := c) (S := T) hL q.1).1
      have hw := PE.it (c := c) (T := T) hL q.1
      generalize (it_F c L T p.1).1 = r at hl hw ⊢
      exact PE.rm hL f (i + 1) (so c L r.1, r.2) (im_S c L T p.1) (so_L hl) hw
    · rw [rm_x (f + 1) q]; exact h
