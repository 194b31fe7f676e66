/-! rows of numbers: gaps and copies; points by place -/
theorem nI_of0 : (0 : Int32) = nI 0 := rfl
theorem at_in {g : Nat → Int32} {n k : Nat} (hk : k < n) (hn : n < 2 ^ 31) : at_I g n (nI k) = g k := by
  unfold at_I
  rw [if_neg (fun h => h.elim (nI_pos (by omega)) (nI_ge hk hn)), nI_clamp (by omega)]
theorem pu_in {ν : Nat → Nat → Int32} {r n k : Nat} {v : Int32} (hk : k < n) (hn : n < 2 ^ 31) : pu_I ν r n (nI k) v = up_2 ν r k v := by
  unfold pu_I
  rw [if_neg (fun h => h.elim (nI_pos (by omega)) (nI_ge hk hn)), nI_clamp (by omega)]
theorem sp_R_atE {Γ : cx_T} {τ : Nat × (Nat → sh_T)} {ν : Nat → Nat → Int32} {r n : Nat} {i : Int32} (h : τ.2 r = .inl (0, n)) (hn : n < 2 ^ 31) {k : Nat} (hi : i = nI k) (hk : k < n) : mt_P Γ mk_R_at [.ref r, .int i] (τ, ν) (fun v μ' => v = some (.int (ν r k)) ∧ μ' = (τ, ν)) := by
  have := sp_R_at (Γ := Γ) (ν := ν) (i := i) h hn
  rw [hi] at this ⊢
  rw [at_in hk hn] at this
  exact this
theorem sp_R_putE {Γ : cx_T} {τ : Nat × (Nat → sh_T)} {ν : Nat → Nat → Int32} {r n : Nat} {i x : Int32} (h : τ.2 r = .inl (0, n)) (hn : n < 2 ^ 31) {k : Nat} (hi : i = nI k) (hk : k < n) : mt_P Γ mk_R_put [.ref r, .int i, .int x] (τ, ν) (fun v μ' => v = none ∧ μ' = (τ, up_2 ν r k x)) := by
  have := sp_R_put (Γ := Γ) (ν := ν) (i := i) (x := x) h hn
  rw [hi] at this ⊢
  rw [pu_in hk hn] at this
  exact this
def og_I (g : Nat → Int32) (k n : Nat) : Nat → Int32 := fun x => if k < x ∧ x ≤ n then g (x - 1) else g x
def cg_I (g : Nat → Int32) (k j : Nat) : Nat → Int32 := fun x => if k ≤ x ∧ x < j then g (x + 1) else g x
theorem up_va {ν : Nat → Nat → Int32} {r j : Nat} {g : Nat → Int32} {v : Int32} : up_2 (va_up ν r g) r j v = va_up ν r (upd g j v) := by
  funext b x
  unfold up_2 va_up upd
  by_cases hb : b = r <;> by_cases hx : x = j <;> simp [hb, hx]
theorem va_id {ν : Nat → Nat → Int32} {r : Nat} : va_up ν r (ν r) = ν := by
  funext b x
  unfold va_up
  by_cases hb : b = r <;> simp [hb]
theorem og_0 {g : Nat → Int32} {n : Nat} : og_I g n n = g := by
  funext x; unfold og_I; rw [if_neg (by omega)]
theorem cg_0 {g : Nat → Int32} {k : Nat} : cg_I g k k = g := by
  funext x; unfold cg_I; rw [if_neg (by omega)]
theorem og_s {g : Nat → Int32} {j n : Nat} (hj : j < n) : upd (og_I g (j + 1) n) (j + 1) (og_I g (j + 1) n j) = og_I g j n := by
  funext x; unfold og_I upd
  by_cases hx : x = j + 1
  · subst hx; rw [if_pos rfl, if_neg (by omega), if_pos (by omega)]; rfl
  · simp [hx]
    by_cases h1 : j + 1 < x ∧ x ≤ n
    · rw [if_pos h1, if_pos (by omega)]
    · rw [if_neg h1, if_neg (by omega)]
theorem cg_s {g : Nat → Int32} {k j : Nat} (hj : k ≤ j) : upd (cg_I g k j) j (cg_I g k j (j + 1)) = cg_I g k (j + 1) := by
  funext x; unfold cg_I upd
  by_cases hx : x = j
  · subst hx; rw [if_pos rfl, if_neg (by omega), if_pos (by omega)]
  · simp [hx]
    by_cases h1 : k ≤ x ∧ x < j
    · rw [if_pos h1, if_pos (by omega)]
    · rw [if_neg h1, if_neg (by omega)]
set_option maxRecDepth 100000 in
set_option maxHeartbeats 4000000 in
theorem sp_R_openGap {Γ : cx_T} {τ : Nat × (Nat → sh_T)} {ν : Nat → Nat → Int32} {r N k n : Nat} (h : τ.2 r = .inl (0, N)) (hN : N < 2 ^ 31) (hk : k ≤ n) (hn : n < N) : mt_P Γ mk_R_openGap [.ref r, .int (nI k), .int (nI n)] (τ, ν) (fun v μ' => v = none ∧ μ' = (τ, va_up ν r (og_I (ν r) k n))) := by
  refine mt_of (L := [some (.ref r), some (.int (nI k)), some (.int (nI n)), none]) (by decide +kernel) (by simp [Value.category]) (Nat.le_of_ble_eq_true rfl) (lc_3_4 ()) ?_
  have loop : ∀ (d j : Nat), k + d = j → j ≤ n → gg_P Γ mk_R_openGap (fun v μ' => v = none ∧ μ' = (τ, va_up ν r (og_I (ν r) k n))) 0 0 2 [some (.ref r), some (.int (nI k)), some (.int (nI n)), some (.int (nI j))] [] (τ, va_up ν r (og_I (ν r) j n)) := by
    intro d
    induction d with
    | zero =>
      intro j hj hjn
      have hj : k = j := by omega
      subst hj
      refine gg_ildn dc_R_openGap_2 rfl rfl ?_
      refine gg_ildn dc_R_openGap_3 rfl rfl ?_
      refine gg_icle dc_R_openGap_4 (fun c_4 => ?_) (fun c_4 => ?_)
      · exact gg_vret dc_R_openGap_25 rfl ⟨Nat.le_of_ble_eq_true rfl, Nat.le_of_ble_eq_true rfl⟩ (⟨rfl, rfl⟩)
      · exact absurd (Int32.le_refl _) c_4
    | succ d ih =>
      intro j0 hj0 hjn
      obtain ⟨j, rfl⟩ : ∃ j, j0 = j + 1 := ⟨j0 - 1, by omega⟩
      refine gg_ildn dc_R_openGap_2 rfl rfl ?_
      refine gg_ildn dc_R_openGap_3 rfl rfl ?_
      refine gg_icle dc_R_openGap_4 (fun c_4 => ?_) (fun c_4 => ?_)
      · exact absurd c_4 (nI_ge (by omega) (by omega))
      · refine gg_aldn dc_R_openGap_7 rfl rfl ?_
        refine gg_ildn dc_R_openGap_8 rfl rfl ?_
        refine gg_aldn dc_R_openGap_9 rfl rfl ?_
        refine gg_ildn dc_R_openGap_10 rfl rfl ?_
        refine gg_iconst (v := 1) dc_R_openGap_11 (by decide) ?_
        refine gg_isub dc_R_openGap_12 ?_
        refine gg_okS (sp_R_atE h (by omega) (nI_pred j) (by omega)) dc_R_openGap_13 ml_R_19 ce_R_at ⟨Nat.le_of_ble_eq_true rfl, Nat.le_of_ble_eq_true rfl⟩ rfl (Nat.le_of_ble_eq_true rfl) ⟨rfl, rfl⟩ ⟨Nat.le_of_ble_eq_true rfl, Nat.le_of_ble_eq_true rfl⟩ ?_
        refine gg_okSv (sp_R_putE h (by omega) rfl (by omega)) dc_R_openGap_16 ml_R_25 ce_R_put ⟨Nat.le_of_ble_eq_true rfl, Nat.le_of_ble_eq_true rfl⟩ rfl (Nat.le_of_ble_eq_true rfl) ⟨rfl, rfl⟩ ⟨Nat.le_of_ble_eq_true rfl, Nat.le_of_ble_eq_true rfl⟩ ?_
        refine gg_iinc (i := 3) dc_R_openGap_19 rfl (Nat.le_of_ble_eq_true rfl) ?_
        dsimp only [List.set]
        rw [show Int32.ofInt (-1) = (-1) from by decide]
        refine gg_goto dc_R_openGap_22 ?_
        have e9 : nI (j + 1) + (-1) = nI j := pk_m1 j
        refine gg_e (ih j (by omega) (by omega)) (by rw [e9]) rfl ?_
        rw [up_va, va_up_self, og_s (by omega)]
  refine gg_ildn dc_R_openGap_0 rfl rfl ?_
  refine gg_istn (i := 3) dc_R_openGap_1 rfl (Nat.le_of_ble_eq_true rfl) ?_
  dsimp only [List.set]
  refine gg_e (loop (n - k) n (by omega) (Nat.le_refl n)) rfl rfl ?_
  rw [og_0, va_id]
set_option maxRecDepth 100000 in
set_option maxHeartbeats 4000000 in
theorem sp_R_closeGap {Γ : cx_T} {τ : Nat × (Nat → sh_T)} {ν : Nat → Nat → Int32} {r N k n : Nat} (h : τ.2 r = .inl (0, N)) (hN : N < 2 ^ 31) (hk : k ≤ n) (hn : n < N) : mt_P Γ mk_R_closeGap [.ref r, .int (nI k), .int (nI (n + 1))] (τ, ν) (fun v μ' => v = none ∧ μ' = (τ, va_up ν r (cg_I (ν r) k n))) := by
  refine mt_of (L := [some (.ref r), some (.int (nI k)), some (.int (nI (n + 1))), none]) (by decide +kernel) (by simp [Value.category]) (Nat.le_of_ble_eq_true rfl) (lc_3_4 ()) ?_
  have loop : ∀ (d j : Nat), j + d = n → k ≤ j → gg_P Γ mk_R_closeGap (fun v μ' => v = none ∧ μ' = (τ, va_up ν r (cg_I (ν r) k n))) 0 0 2 [some (.ref r), some (.int (nI k)), some (.int (nI (n + 1))), some (.int (nI j))] [] (τ, va_up ν r (cg_I (ν r) k j)) := by
    intro d
    induction d with
    | zero =>
      intro j hj hkj
      have hj : j = n := by omega
      subst hj
      refine gg_ildn dc_R_closeGap_2 rfl rfl ?_
      refine gg_ildn dc_R_closeGap_3 rfl rfl ?_
      refine gg_iconst (v := 1) dc_R_closeGap_4 (by decide) ?_
      refine gg_isub dc_R_closeGap_5 ?_
      refine gg_icge dc_R_closeGap_6 (fun c_6 => ?_) (fun c_6 => ?_)
      · exact gg_vret dc_R_closeGap_27 rfl ⟨Nat.le_of_ble_eq_true rfl, Nat.le_of_ble_eq_true rfl⟩ (⟨rfl, rfl⟩)
      · exact absurd (by rw [nI_pred]; exact Int32.le_refl _) c_6
    | succ d ih =>
      intro j hj hkj
      have ih := fun j' (h1 : j' + d = n) => ih j' h1 (by omega)
      refine gg_ildn dc_R_closeGap_2 rfl rfl ?_
      refine gg_ildn dc_R_closeGap_3 rfl rfl ?_
      refine gg_iconst (v := 1) dc_R_closeGap_4 (by decide) ?_
      refine gg_isub dc_R_closeGap_5 ?_
      refine gg_icge dc_R_closeGap_6 (fun c_6 => ?_) (fun c_6 => ?_)
      · exact absurd c_6 (by rw [nI_pred]; exact nI_ge (by omega) (by omega))
      · refine gg_aldn dc_R_closeGap_9 rfl rfl ?_
        refine gg_ildn dc_R_closeGap_10 rfl rfl ?_
        refine gg_aldn dc_R_closeGap_11 rfl rfl ?_
        refine gg_ildn dc_R_closeGap_12 rfl rfl ?_
        refine gg_iconst (v := 1) dc_R_closeGap_13 (by decide) ?_
        refine gg_iadd dc_R_closeGap_14 ?_
        refine gg_okS (sp_R_atE h (by omega) (nI_1 j) (by omega)) dc_R_closeGap_15 ml_R_19 ce_R_at ⟨Nat.le_of_ble_eq_true rfl, Nat.le_of_ble_eq_true rfl⟩ rfl (Nat.le_of_ble_eq_true rfl) ⟨rfl, rfl⟩ ⟨Nat.le_of_ble_eq_true rfl, Nat.le_of_ble_eq_true rfl⟩ ?_
        refine gg_okSv (sp_R_putE h (by omega) rfl (by omega)) dc_R_closeGap_18 ml_R_25 ce_R_put ⟨Nat.le_of_ble_eq_true rfl, Nat.le_of_ble_eq_true rfl⟩ rfl (Nat.le_of_ble_eq_true rfl) ⟨rfl, rfl⟩ ⟨Nat.le_of_ble_eq_true rfl, Nat.le_of_ble_eq_true rfl⟩ ?_
        refine gg_iinc (i := 3) dc_R_closeGap_21 rfl (Nat.le_of_ble_eq_true rfl) ?_
        dsimp only [List.set]
        rw [show Int32.ofInt 1 = 1 from by decide]
        refine gg_goto dc_R_closeGap_24 ?_
        have e9 : nI j + 1 = nI (j + 1) := nI_1 j
        refine gg_e (ih (j + 1) (by omega)) (by rw [e9]) rfl ?_
        rw [up_va, va_up_self, cg_s (by omega)]
  refine gg_ildn dc_R_closeGap_0 rfl rfl ?_
  refine gg_istn (i := 3) dc_R_closeGap_1 rfl (Nat.le_of_ble_eq_true rfl) ?_
  dsimp only [List.set]
  refine gg_e (loop (n - k) k (by omega) (Nat.le_refl k)) rfl rfl ?_
  rw [cg_0, va_id]
set_option maxRecDepth 100000 in
set_option maxHeartbeats 4000000 in
theorem sp_R_copy {Γ : cx_T} {τ : Nat × (Nat → sh_T)} {ν : Nat → Nat → Int32} {a0 a1 n : Nat} (h0 : τ.2 a0 = .inl (0, n)) (h1 : τ.2 a1 = .inl (0, n)) (hn : n < 2 ^ 31) : mt_P Γ mk_R_copy [.ref a0, .ref a1] (τ, ν) (fun v μ' => v = none ∧ μ' = (τ, va_up ν a1 (va_cpy (ν a0) (ν a1) 0 0 n))) := by
  refine mt_of (L := [some (.ref a0), some (.ref a1)]) (by decide +kernel) (by simp [Value.category]) (Nat.le_of_ble_eq_true rfl) (lc_2_2 ()) ?_
  have hm : mn_I (Int32.ofNat n) (Int32.ofNat n) = nI n := by unfold mn_I; split <;> rfl
  refine gg_aldn dc_R_copy_0 rfl rfl ?_
  refine gg_iconst (v := 0) dc_R_copy_1 (by decide) ?_
  refine gg_aldn dc_R_copy_2 rfl rfl ?_
  refine gg_iconst (v := 0) dc_R_copy_3 (by decide) ?_
  refine gg_aldn dc_R_copy_4 rfl rfl ?_
  refine gg_alen dc_R_copy_5 (Or.inl h0) rfl ?_
  refine gg_aldn dc_R_copy_6 rfl rfl ?_
  refine gg_alen dc_R_copy_7 (Or.inl h1) rfl ?_
  refine gg_okS (sp_J_min) dc_R_copy_8 ml_R_7 ce_J_min ⟨Nat.le_of_ble_eq_true rfl, Nat.le_of_ble_eq_true rfl⟩ rfl (Nat.le_of_ble_eq_true rfl) ⟨rfl, rfl⟩ ⟨Nat.le_of_ble_eq_true rfl, Nat.le_of_ble_eq_true rfl⟩ ?_
  refine gg_copy dc_R_copy_11 ac_R h0 h1 (by decide) (by decide) (by rw [hm]; exact nI_pos hn) ?_ ?_ ⟨Nat.le_of_ble_eq_true rfl, Nat.le_of_ble_eq_true rfl⟩ ?_
  · rw [hm, nI_clamp hn]; show 0 + n ≤ n; omega
  · rw [hm, nI_clamp hn]; show 0 + n ≤ n; omega
  rw [hm, nI_clamp hn]
  exact gg_vret dc_R_copy_14 rfl ⟨Nat.le_of_ble_eq_true rfl, Nat.le_of_ble_eq_true rfl⟩ ⟨rfl, rfl⟩
