theorem se_o {S : Nat → Int32} {w : Int32} {j : Nat} (h : j < 6 ∨ j = 11 ∨ 17 ≤ j) : (se_S S w).1 j = S j := by
  unfold se_S
  split
  · rw [lp_o h, lp_o h]
  · rw [lp_o h, lp_o h]
theorem mo_o {S : Nat → Int32} {x : Int32} {j : Nat} (h : j < 6 ∨ j = 11 ∨ 17 ≤ j) : mo_S S x j = S j := fi_o h _ _
/-- one command added, from behind -/
def pq_N (V : Nat → Int32) (y : Int32) : Nat → Nat
  | 0 => 0
  | k + 1 => if V k < y then pq_N V y k else k + 1
theorem pq_le {V : Nat → Int32} {y : Int32} : ∀ k : Nat, pq_N V y k ≤ k
  | 0 => Nat.le_refl _
  | k + 1 => by
    unfold pq_N
    split
    · exact Nat.le_succ_of_le (pq_le k)
    · exact Nat.le_refl _
def ca_S (S : Nat → Int32) (x y : Int32) (n u : Nat) : Nat → Int32 := upd (upd (upd (sf_S S 63 (2 * u + 2) (2 * n + 2)) (64 + 2 * u) x) (65 + 2 * u) y) 63 (nI (n + 1))
def cd_S (S : Nat → Int32) : Nat → Int32 := sg_S (upd S 63 (nI (ls_n S 63 - 1))) 63 1 (2 * (ls_n S 63 - 1) + 1)
def ro_S (S : Nat → Int32) : Nat → Int32 := if in_I (am_S (cd_S S) (S 64)) (-20000) 20000 = 0 then cd_S S else mo_S (cd_S S) (S 64)
def rn_S : Nat → (Nat → Int32) → (Nat → Int32)
  | 0, S => S
  | c + 1, S => if ls_n S 63 = 0 then S else rn_S c (ro_S S)
/-- what the ways through the lists need of a row -/
def RI (S : Nat → Int32) : Prop := LK S 21 10 ∧ LK S 42 10 ∧ LK S 63 8 ∧ nz_P S ∧ ¬ S 0 = 0
theorem nz_P.of {S T : Nat → Int32} (h : nz_P S) (e : ∀ j : Nat, 42 ≤ j → j < 63 → T j = S j) (h10 : ls_n S 42 ≤ 10) : nz_P T := by
  intro i hi
  have e0 : ls_n T 42 = ls_n S 42 := by unfold ls_n; rw [e 42 (by omega) (by omega)]
  rw [e0] at hi
  have := h i hi
  unfold ls_P at this ⊢
  rw [e _ (by omega) (by omega), e _ (by omega) (by omega)]
  exact this
theorem cd_o {S : Nat → Int32} {j : Nat} (h : j < 63) : cd_S S j = S j := by
  unfold cd_S sg_S
  rw [if_neg (by omega), ud_ne (by omega)]
theorem RI.cd {S : Nat → Int32} (h : RI S) : RI (cd_S S) := by
  obtain ⟨h1, h2, h3, h4, h5⟩ := h
  refine ⟨h1.of (cd_o (by omega)), h2.of (cd_o (by omega)), ?_, h4.of (fun j _ hj => cd_o hj) h2.1, by rw [cd_o (by omega)]; exact h5⟩
  have hle := h3.1
  have e : cd_S S 63 = nI (ls_n S 63 - 1) := by unfold cd_S; rw [sg_b (by omega), ud_eq]
  have e2 : ls_n (cd_S S) 63 = ls_n S 63 - 1 := by
    show (cd_S S 63).toNatClampNeg = _
    rw [e, nI_clamp (by omega)]
  exact ⟨by omega, by rw [e2]; exact e⟩
theorem RI.mo {S : Nat → Int32} {x : Int32} (h : RI S) : RI (mo_S S x) := by
  obtain ⟨h1, h2, h3, h4, h5⟩ := h
  exact ⟨h1.of (mo_o (by omega)), h2.of (mo_o (by omega)), h3.of (mo_o (by omega)), h4.of (fun j _ hj => mo_o (by omega)) h2.1, by rw [mo_o (by omega)]; exact h5⟩
theorem RI.ro {S : Nat → Int32} (h : RI S) : RI (ro_S S) := by
  unfold ro_S
  split
  · exact h.cd
  · exact h.cd.mo
