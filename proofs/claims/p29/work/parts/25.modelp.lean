theorem va_vv {X : Nat → Nat → Int32} {S T : Nat → Int32} {c : Nat} : va_up (va_up X c S) c T = va_up X c T := by
  funext a
  unfold va_up
  by_cases h1 : a = c <;> simp [h1]
theorem in_ok {x a b : Int32} (h : ¬ in_I x a b = 0) : ¬ x < a ∧ ¬ b < x := by
  unfold in_I at h
  by_cases c : x < a ∨ b < x
  · rw [if_pos c] at h; exact absurd rfl h
  · exact ⟨fun q => c (Or.inl q), fun q => c (Or.inr q)⟩
theorem in_nI {x : Int32} {k : Nat} (h : ¬ in_I x 0 (nI k) = 0) (hk : k < 2 ^ 31 - 1) : ∃ j : Nat, j ≤ k ∧ x = nI j := nI_of2 (nI_toInt (by omega)) (in_ok h).1 (Int32.not_lt.mp (in_ok h).2)
theorem nm_ok {i x : Int32} (h : ¬ nm_I i x = 0) : ∃ k : Nat, k < 6 ∧ i = nI k := by
  unfold nm_I at h
  by_cases c : i < 0 ∨ 6 ≤ i
  · rw [if_pos c] at h; exact absurd rfl h
  · obtain ⟨j, h1, h2⟩ := nI_of2 (x := i) (M := 5) (n := 5) rfl (fun q => c (Or.inl q)) (by
      have h6 : ¬ 6 ≤ i := fun q => c (Or.inr q)
      rw [Int32.le_iff_toInt_le] at h6 ⊢
      have e6 : (6 : Int32).toInt = 6 := by decide
      have e5 : (5 : Int32).toInt = 5 := by decide
      omega)
    exact ⟨j, by omega, h2⟩
