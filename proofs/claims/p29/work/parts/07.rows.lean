/-! rows of numbers: gaps and copies; points by place -/
theorem nI_of0 : (0 : Int32) = nI 0 := rfl
theorem at_in {g : Nat → Int32} {n k : Nat} (hk : k < n) (hn : n < 2 ^ 31) : at_I g n (nI k) = g k := by
  unfold at_I
  rw [if_neg (fun h => h.elim (nI_pos (by omega)) (nI_ge hk hn)), nI_clamp (by omega)]
theorem pu_in {ν : Nat → Nat → Int32} {r n k : Nat} {v : Int32} (hk : k < n) (hn : n < 2 ^ 31) : pu_I ν r n (nI k) v = up_2 ν r k v := by
  unfold pu_I
  rw [if_neg (fun h => h.elim (nI_pos (by omega)) (nI_ge hk hn)), nI_clamp (by omega)]
theorem sp_R_atE {Γ : cx_T} {τ : Nat × (Nat → sh_T)} {ν : Nat → Nat → Int32} {r n : Nat} {i : Int32} (h : τ.2 r = .inl (0, n)) (hn : n < 2 ^ 31) {k : Nat} (hi : i = nI k) (hk : k < n) : mt_P Γ mk_R_at [.ref r, .int i] (τ, ν) (fun v μ' => v = some (.int (ν r k)) ∧ μ' = (τ, ν)) := by
  have := sp_R_at (Γ := Γ) (ν := ν) (i := i) h hn
  rw [hi] at this ⊢
  rw [at_in hk hn] at this
  exact this
theorem sp_R_putE {Γ : cx_T} {τ : Nat × (Nat → sh_T)} {ν : Nat → Nat → Int32} {r n : Nat} {i x : Int32} (h : τ.2 r = .inl (0, n)) (hn : n < 2 ^ 31) {k : Nat} (hi : i = nI k) (hk : k < n) : mt_P Γ mk_R_put [.ref r, .int i, .int x] (τ, ν) (fun v μ' => v = none ∧ μ' = (τ, up_2 ν r k x)) := by
  have := sp_R_put (Γ := Γ) (ν := ν) (i := i) (x := x) h hn
  rw [hi] at this ⊢
  rw [pu_in hk hn] at this
  exact this
def og_I (g : Nat → Int32) (k n : Nat) : Nat → Int32 := fun x => if k < x ∧ x ≤ n then g (x - 1) else g x
def cg_I (g : Nat → Int32) (k j : Nat) : Nat → Int32 := fun x => if k ≤ x ∧ x < j then g (x + 1) else g x
theorem up_va {ν : Nat → Nat → Int32} {r j : Nat} {g : Nat → Int32} {v : Int32} : up_2 (va_up ν r g) r j v = va_up ν r (upd g j v) := by
  funext b x
  unfold up_2 va_up upd
  by_cases hb : b = r <;> by_cases hx : x = j <;> simp [hb, hx]
theorem va_id {ν : Nat → Nat → Int32} {r : Nat} : va_up ν r (ν r) = ν := by
  funext b x
  unfold va_up
  by_cases hb : b = r <;> simp [hb]
theorem og_0 {g : Nat → Int32} {n : Nat} : og_I g n n = g := by
  funext x; unfold og_I; rw [if_neg (by omega)]
theorem cg_0 {g : Nat → Int32} {k : Nat} : cg_I g k k = g := by
  funext x; unfold cg_I; rw [if_neg (by omega)]
theorem og_s {g : Nat → Int32} {j n : Nat} (hj : j < n) : upd (og_I g (j + 1) n) (j + 1) (og_I g (j + 1) n j) = og_I g j n := by
  funext x; unfold og_I upd
  by_cases hx : x = j + 1
  · subst hx; rw [if_pos rfl, if_neg (by omega), if_pos (by omega)]; rfl
  · simp [hx]
    by_cases h1 : j + 1 < x ∧ x ≤ n
    · rw [if_pos h1, if_pos (by omega)]
    · rw [if_neg h1, if_neg (by omega)]
theorem cg_s {g : Nat → Int32} {k j : Nat} (hj : k ≤ j) : upd (cg_I g k j) j (cg_I g k j (j + 1)) = cg_I g k (j + 1) := by
  funext x; unfold cg_I upd
  by_cases hx : x = j
  · subst hx; rw [if_pos rfl, if_neg (by omega), if_pos (by omega)]
  · simp [hx]
    by_cases h1 : k ≤ x ∧ x < j
    · rw [if_pos h1, if_pos (by omega)]
    · rw [if_neg h1, if_neg (by omega)]
/-- two rows of a place set anew -/
def m2_N (ν : Nat → Nat → Int32) (q : Nat) (P V : Nat → Int32) : Nat → Nat → Int32 := va_up (va_up ν (q + 1) P) (q + 2) V
theorem m2_0 {ν : Nat → Nat → Int32} {q : Nat} {P V : Nat → Int32} : m2_N ν q P V q = ν q := by
  unfold m2_N; rw [va_up_ne _ _ (by omega), va_up_ne _ _ (by omega)]
theorem m2_1 {ν : Nat → Nat → Int32} {q : Nat} {P V : Nat → Int32} : m2_N ν q P V (q + 1) = P := by
  unfold m2_N; rw [va_up_ne _ _ (by omega), va_up_self]
theorem m2_2 {ν : Nat → Nat → Int32} {q : Nat} {P V : Nat → Int32} : m2_N ν q P V (q + 2) = V := by
  unfold m2_N; rw [va_up_self]
theorem m2_p {ν : Nat → Nat → Int32} {q j : Nat} {P V : Nat → Int32} {x : Int32} : up_2 (m2_N ν q P V) (q + 1) j x = m2_N ν q (upd P j x) V := by
  funext b k
  unfold up_2 m2_N va_up upd
  by_cases h2 : b = q + 2
  · subst h2; simp
  · by_cases h1 : b = q + 1
    · subst h1; by_cases hk : k = j <;> simp [hk]
    · simp [h1, h2]
theorem m2_v {ν : Nat → Nat → Int32} {q j : Nat} {P V : Nat → Int32} {x : Int32} : up_2 (m2_N ν q P V) (q + 2) j x = m2_N ν q P (upd V j x) := by
  funext b k
  unfold up_2 m2_N va_up upd
  by_cases h2 : b = q + 2
  · subst h2; by_cases hk : k = j <;> simp [hk]
  · simp [h2]
theorem m2_id {ν : Nat → Nat → Int32} {q : Nat} : m2_N ν q (ν (q + 1)) (ν (q + 2)) = ν := by
  funext b k
  unfold m2_N va_up
  by_cases h2 : b = q + 2
  · subst h2; simp
  · by_cases h1 : b = q + 1
    · subst h1; simp
    · simp [h1, h2]
set_option maxRecDepth 100000 in
set_option maxHeartbeats 4000000 in
theorem sp_R_copy {Γ : cx_T} {τ : Nat × (Nat → sh_T)} {ν : Nat → Nat → Int32} {a0 a1 n : Nat} (h0 : τ.2 a0 = .inl (0, n)) (h1 : τ.2 a1 = .inl (0, n)) (hn : n < 2 ^ 31) : mt_P Γ mk_R_copy [.ref a0, .ref a1] (τ, ν) (fun v μ' => v = none ∧ μ' = (τ, va_up ν a1 (va_cpy (ν a0) (ν a1) 0 0 n))) := by
  refine mt_of (L := [some (.ref a0), some (.ref a1)]) (by decide +kernel) (by simp [Value.category]) (Nat.le_of_ble_eq_true rfl) (lc_2_2 ()) ?_
  have hm : mn_I (Int32.ofNat n) (Int32.ofNat n) = nI n := by unfold mn_I; split <;> rfl
  refine gg_aldn dc_R_copy_0 rfl rfl ?_
  refine gg_iconst (v := 0) dc_R_copy_1 (by decide) ?_
  refine gg_aldn dc_R_copy_2 rfl rfl ?_
  refine gg_iconst (v := 0) dc_R_copy_3 (by decide) ?_
  refine gg_aldn dc_R_copy_4 rfl rfl ?_
  refine gg_alen dc_R_copy_5 (Or.inl h0) rfl ?_
  refine gg_aldn dc_R_copy_6 rfl rfl ?_
  refine gg_alen dc_R_copy_7 (Or.inl h1) rfl ?_
  refine gg_okS (sp_J_min) dc_R_copy_8 ml_R_7 ce_J_min ⟨Nat.le_of_ble_eq_true rfl, Nat.le_of_ble_eq_true rfl⟩ rfl (Nat.le_of_ble_eq_true rfl) ⟨rfl, rfl⟩ ⟨Nat.le_of_ble_eq_true rfl, Nat.le_of_ble_eq_true rfl⟩ ?_
  refine gg_copy dc_R_copy_11 ac_R h0 h1 (by decide) (by decide) (by rw [hm]; exact nI_pos hn) ?_ ?_ ⟨Nat.le_of_ble_eq_true rfl, Nat.le_of_ble_eq_true rfl⟩ ?_
  · rw [hm, nI_clamp hn]; show 0 + n ≤ n; omega
  · rw [hm, nI_clamp hn]; show 0 + n ≤ n; omega
  rw [hm, nI_clamp hn]
  exact gg_vret dc_R_copy_14 rfl ⟨Nat.le_of_ble_eq_true rfl, Nat.le_of_ble_eq_true rfl⟩ ⟨rfl, rfl⟩
