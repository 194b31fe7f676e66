set_option maxRecDepth 100000 in
set_option maxHeartbeats 4000000 in
theorem sp_F_counter {Γ : cx_T} {τ : Nat × (Nat → sh_T)} {ν : Nat → Nat → Int32} {f : Nat} {X : Nat → Nat → Int32} (hf : sh_F τ.2 f) (h : RL ν f X) {w : Int32} {Q : Option Value → mm_T → Prop}  (hB : in_I w 0 1 = 0 → Q (some (.int (-1000001))) (τ, ν)) (hN : ¬ in_I w 0 1 = 0 → Q (some (.int (if w = 0 then X 1 6 else X 1 7 + X 1 9 + X 1 10 + X 1 11))) (τ, ν)) : mt_P Γ mk_F_counter [.ref f, .int w] (τ, ν) (Q) := by
  refine mt_of (L := [some (.ref f), some (.int w)]) (by decide +kernel) (by simp [Value.category]) (Nat.le_of_ble_eq_true rfl) (lc_2_2 ()) ?_
  obtain ⟨f0, hx, hy, ⟨g, hg, hgi⟩, him, hv, ht⟩ := id hf
  have hX := h.1
  refine gg_ildn dc_F_counter_0 rfl rfl ?_
  refine gg_iflt dc_F_counter_1 (fun c_1 => ?_) (fun c_1 => ?_)
  · refine gg_ldc dc_F_counter_9 lk_F_45 ?_
    exact gg_iret dc_F_counter_11 rfl ⟨Nat.le_of_ble_eq_true rfl, Nat.le_of_ble_eq_true rfl⟩ (hB (in_lo c_1))
  · refine gg_ildn dc_F_counter_4 rfl rfl ?_
    refine gg_iconst (v := 1) dc_F_counter_5 (by decide) ?_
    refine gg_icle dc_F_counter_6 (fun c_6 => ?_) (fun c_6 => ?_)
    · refine gg_ildn dc_F_counter_12 rfl rfl ?_
      refine gg_ifne dc_F_counter_13 (fun c_13 => ?_) (fun c_13 => ?_)
      · refine gg_aldn dc_F_counter_26 rfl rfl ?_
        refine gg_getr dc_F_counter_27 lf_F_10 f0 rfl ?_
        refine gx_axi (k := 9) (s := 7) dc_F_counter_30 lf_F_202 hx.1 hX rfl ⟨Nat.le_of_ble_eq_true rfl, Nat.le_of_ble_eq_true rfl⟩ rfl ?_
        refine gg_aldn dc_F_counter_33 rfl rfl ?_
        refine gg_getr dc_F_counter_34 lf_F_10 f0 rfl ?_
        refine gx_axi (k := 11) (s := 9) dc_F_counter_37 lf_F_205 hx.1 hX rfl ⟨Nat.le_of_ble_eq_true rfl, Nat.le_of_ble_eq_true rfl⟩ rfl ?_
        refine gg_iadd dc_F_counter_40 ?_
        refine gg_aldn dc_F_counter_41 rfl rfl ?_
        refine gg_getr dc_F_counter_42 lf_F_10 f0 rfl ?_
        refine gx_axi (k := 12) (s := 10) dc_F_counter_45 lf_F_101 hx.1 hX rfl ⟨Nat.le_of_ble_eq_true rfl, Nat.le_of_ble_eq_true rfl⟩ rfl ?_
        refine gg_iadd dc_F_counter_48 ?_
        refine gg_aldn dc_F_counter_49 rfl rfl ?_
        refine gg_getr dc_F_counter_50 lf_F_10 f0 rfl ?_
        refine gx_axi (k := 13) (s := 11) dc_F_counter_53 lf_F_208 hx.1 hX rfl ⟨Nat.le_of_ble_eq_true rfl, Nat.le_of_ble_eq_true rfl⟩ rfl ?_
        refine gg_iadd dc_F_counter_56 ?_
        exact gg_iret dc_F_counter_57 rfl ⟨Nat.le_of_ble_eq_true rfl, Nat.le_of_ble_eq_true rfl⟩ ((by have z := hN (in_no c_1 (Int32.not_lt.mpr c_6)); rw [if_neg c_13] at z; exact z))
      · refine gg_aldn dc_F_counter_16 rfl rfl ?_
        refine gg_getr dc_F_counter_17 lf_F_10 f0 rfl ?_
        refine gx_axi (k := 8) (s := 6) dc_F_counter_20 lf_F_136 hx.1 hX rfl ⟨Nat.le_of_ble_eq_true rfl, Nat.le_of_ble_eq_true rfl⟩ rfl ?_
        refine gg_goto dc_F_counter_23 ?_
        exact gg_iret dc_F_counter_57 rfl ⟨Nat.le_of_ble_eq_true rfl, Nat.le_of_ble_eq_true rfl⟩ ((by have z := hN (in_no c_1 (Int32.not_lt.mpr c_6)); rw [if_pos c_13] at z; exact z))
    · refine gg_ldc dc_F_counter_9 lk_F_45 ?_
      exact gg_iret dc_F_counter_11 rfl ⟨Nat.le_of_ble_eq_true rfl, Nat.le_of_ble_eq_true rfl⟩ (hB (in_hi (Int32.not_le.mp c_6)))
set_option maxRecDepth 100000 in
set_option maxHeartbeats 4000000 in
theorem sp_F_flag {Γ : cx_T} {τ : Nat × (Nat → sh_T)} {ν : Nat → Nat → Int32} {f : Nat} {X : Nat → Nat → Int32} (hf : sh_F τ.2 f) (h : RL ν f X) {w : Int32} {Q : Option Value → mm_T → Prop}  (hB : in_I w 0 1 = 0 → Q (some (.int (-1000001))) (τ, ν)) (hI : ¬ in_I w 0 1 = 0 → X 1 18 = 0 → Q (some (.int (-1000009))) (τ, ν)) (hN : ∀ k : Nat, k < 2 → w = nI k → ¬ in_I w 0 1 = 0 → ¬ X 1 18 = 0 → Q (some (.int (X 1 (19 + k)))) (τ, ν)) : mt_P Γ mk_F_flag [.ref f, .int w] (τ, ν) (Q) := by
  refine mt_of (L := [some (.ref f), some (.int w)]) (by decide +kernel) (by simp [Value.category]) (Nat.le_of_ble_eq_true rfl) (lc_2_2 ()) ?_
  obtain ⟨f0, hx, hy, ⟨g, hg, hgi⟩, him, hv, ht⟩ := id hf
  have hX := h.1
  refine gg_ildn dc_F_flag_0 rfl rfl ?_
  refine gg_iflt dc_F_flag_1 (fun c_1 => ?_) (fun c_1 => ?_)
  · refine gg_ldc dc_F_flag_9 lk_F_45 ?_
    exact gg_iret dc_F_flag_11 rfl ⟨Nat.le_of_ble_eq_true rfl, Nat.le_of_ble_eq_true rfl⟩ (hB (in_lo c_1))
  · refine gg_ildn dc_F_flag_4 rfl rfl ?_
    refine gg_iconst (v := 1) dc_F_flag_5 (by decide) ?_
    refine gg_icle dc_F_flag_6 (fun c_6 => ?_) (fun c_6 => ?_)
    · refine gg_aldn dc_F_flag_12 rfl rfl ?_
      refine gg_getr dc_F_flag_13 lf_F_10 f0 rfl ?_
      refine gx_axi (k := 5) (s := 18) dc_F_flag_16 lf_F_73 hx.1 hX rfl ⟨Nat.le_of_ble_eq_true rfl, Nat.le_of_ble_eq_true rfl⟩ rfl ?_
      refine gg_ifne dc_F_flag_19 (fun c_19 => ?_) (fun c_19 => ?_)
      · refine gg_ildn dc_F_flag_25 rfl rfl ?_
        refine gg_ifne dc_F_flag_26 (fun c_26 => ?_) (fun c_26 => ?_)
        · refine gg_aldn dc_F_flag_39 rfl rfl ?_
          refine gg_getr dc_F_flag_40 lf_F_10 f0 rfl ?_
          refine gx_axi (k := 7) (s := 20) dc_F_flag_43 lf_F_187 hx.1 hX rfl ⟨Nat.le_of_ble_eq_true rfl, Nat.le_of_ble_eq_true rfl⟩ rfl ?_
          exact gg_iret dc_F_flag_46 rfl ⟨Nat.le_of_ble_eq_true rfl, Nat.le_of_ble_eq_true rfl⟩ ((by obtain ⟨k, hk, e⟩ := nI_of2 (x := w) (M := 1) (n := 1) rfl c_1 c_6; have z := hN k (by omega) e (in_no c_1 (Int32.not_lt.mpr c_6)) c_19; rw [show k = 1 by rcases (show k = 0 ∨ k = 1 by omega) with r | r; exact absurd (by rw [e, r]; rfl) c_26; exact r] at z; exact z))
        · refine gg_aldn dc_F_flag_29 rfl rfl ?_
          refine gg_getr dc_F_flag_30 lf_F_10 f0 rfl ?_
          refine gx_axi (k := 6) (s := 19) dc_F_flag_33 lf_F_184 hx.1 hX rfl ⟨Nat.le_of_ble_eq_true rfl, Nat.le_of_ble_eq_true rfl⟩ rfl ?_
          refine gg_goto dc_F_flag_36 ?_
          exact gg_iret dc_F_flag_46 rfl ⟨Nat.le_of_ble_eq_true rfl, Nat.le_of_ble_eq_true rfl⟩ ((hN 0 (by omega) c_26 (in_no c_1 (Int32.not_lt.mpr c_6)) c_19))
      · refine gg_ldc dc_F_flag_22 lk_F_132 ?_
        exact gg_iret dc_F_flag_24 rfl ⟨Nat.le_of_ble_eq_true rfl, Nat.le_of_ble_eq_true rfl⟩ ((hI (in_no c_1 (Int32.not_lt.mpr c_6)) c_19))
    · refine gg_ldc dc_F_flag_9 lk_F_45 ?_
      exact gg_iret dc_F_flag_11 rfl ⟨Nat.le_of_ble_eq_true rfl, Nat.le_of_ble_eq_true rfl⟩ (hB (in_hi (Int32.not_le.mp c_6)))
set_option maxRecDepth 100000 in
set_option maxHeartbeats 4000000 in
theorem sp_F_loadAt {Γ : cx_T} {τ : Nat × (Nat → sh_T)} {ν : Nat → Nat → Int32} {f : Nat} {X : Nat → Nat → Int32} (hf : sh_F τ.2 f) (h : RL ν f X) {x : Int32} {Q : Option Value → mm_T → Prop}  (hB : in_I x (-20000) 20000 = 0 → Q (some (.int (-1000001))) (τ, ν)) (hN : ¬ in_I x (-20000) 20000 = 0 → Q (some (.int (lo_S (X 1) x))) (τ, ν)) : mt_P Γ mk_F_loadAt [.ref f, .int x] (τ, ν) (Q) := by
  refine mt_of (L := [some (.ref f), some (.int x)]) (by decide +kernel) (by simp [Value.category]) (Nat.le_of_ble_eq_true rfl) (lc_2_2 ()) ?_
  obtain ⟨f0, hx, hy, ⟨g, hg, hgi⟩, him, hv, ht⟩ := id hf
  have hX := h.1
  refine gg_ildn dc_F_loadAt_0 rfl rfl ?_
  refine gg_okS (sp_F_isPlace) dc_F_loadAt_1 ml_F_58 ce_F_isPlace ⟨Nat.le_of_ble_eq_true rfl, Nat.le_of_ble_eq_true rfl⟩ rfl (Nat.le_of_ble_eq_true rfl) ⟨rfl, rfl⟩ ⟨Nat.le_of_ble_eq_true rfl, Nat.le_of_ble_eq_true rfl⟩ ?_
  refine gg_ifne dc_F_loadAt_4 (fun c_4 => ?_) (fun c_4 => ?_)
  · refine gg_aldn dc_F_loadAt_10 rfl rfl ?_
    refine gg_getr dc_F_loadAt_11 lf_F_10 f0 rfl ?_
    refine gg_ildn dc_F_loadAt_14 rfl rfl ?_
    refine gg_okV (sp_A_loadOn hx hX) dc_F_loadAt_15 ml_F_170 ce_A_loadOn ⟨Nat.le_of_ble_eq_true rfl, Nat.le_of_ble_eq_true rfl⟩ hx.1 rfl rfl (Nat.le_of_ble_eq_true rfl) ⟨rfl, rfl⟩ ⟨Nat.le_of_ble_eq_true rfl, Nat.le_of_ble_eq_true rfl⟩ ?_
    exact gg_iret dc_F_loadAt_18 rfl ⟨Nat.le_of_ble_eq_true rfl, Nat.le_of_ble_eq_true rfl⟩ (hN c_4)
  · refine gg_ldc dc_F_loadAt_7 lk_F_45 ?_
    exact gg_iret dc_F_loadAt_9 rfl ⟨Nat.le_of_ble_eq_true rfl, Nat.le_of_ble_eq_true rfl⟩ (hB c_4)
set_option maxRecDepth 100000 in
set_option maxHeartbeats 4000000 in
theorem sp_F_errorAt {Γ : cx_T} {τ : Nat × (Nat → sh_T)} {ν : Nat → Nat → Int32} {f : Nat} {X : Nat → Nat → Int32} (hf : sh_F τ.2 f) (h : RL ν f X) {x : Int32} {Q : Option Value → mm_T → Prop}  (hB : in_I x (-20000) 20000 = 0 → Q (some (.int (-1000001))) (τ, ν)) (hN : ¬ in_I x (-20000) 20000 = 0 → Q (some (.int (er_S (X 1) x))) (τ, ν)) : mt_P Γ mk_F_errorAt [.ref f, .int x] (τ, ν) (Q) := by
  refine mt_of (L := [some (.ref f), some (.int x)]) (by decide +kernel) (by simp [Value.category]) (Nat.le_of_ble_eq_true rfl) (lc_2_2 ()) ?_
  obtain ⟨f0, hx, hy, ⟨g, hg, hgi⟩, him, hv, ht⟩ := id hf
  have hX := h.1
  refine gg_ildn dc_F_errorAt_0 rfl rfl ?_
  refine gg_okS (sp_F_isPlace) dc_F_errorAt_1 ml_F_58 ce_F_isPlace ⟨Nat.le_of_ble_eq_true rfl, Nat.le_of_ble_eq_true rfl⟩ rfl (Nat.le_of_ble_eq_true rfl) ⟨rfl, rfl⟩ ⟨Nat.le_of_ble_eq_true rfl, Nat.le_of_ble_eq_true rfl⟩ ?_
  refine gg_ifne dc_F_errorAt_4 (fun c_4 => ?_) (fun c_4 => ?_)
  · refine gg_aldn dc_F_errorAt_10 rfl rfl ?_
    refine gg_getr dc_F_errorAt_11 lf_F_10 f0 rfl ?_
    refine gg_getr dc_F_errorAt_14 lf_F_70 hx.1 rfl ?_
    refine gg_ildn dc_F_errorAt_17 rfl rfl ?_
    refine gg_okV (sp_P_vbR hx.2.2.2.2.1 hX.2.2.2.2.2.1) dc_F_errorAt_18 ml_F_173 ce_P_valueBetween ⟨Nat.le_of_ble_eq_true rfl, Nat.le_of_ble_eq_true rfl⟩ hx.2.2.2.2.1.1 rfl rfl (Nat.le_of_ble_eq_true rfl) ⟨rfl, rfl⟩ ⟨Nat.le_of_ble_eq_true rfl, Nat.le_of_ble_eq_true rfl⟩ ?_
    exact gg_iret dc_F_errorAt_21 rfl ⟨Nat.le_of_ble_eq_true rfl, Nat.le_of_ble_eq_true rfl⟩ (hN c_4)
  · refine gg_ldc dc_F_errorAt_7 lk_F_45 ?_
    exact gg_iret dc_F_errorAt_9 rfl ⟨Nat.le_of_ble_eq_true rfl, Nat.le_of_ble_eq_true rfl⟩ (hB c_4)
set_option maxRecDepth 100000 in
set_option maxHeartbeats 4000000 in
theorem sp_F_account {Γ : cx_T} {τ : Nat × (Nat → sh_T)} {ν : Nat → Nat → Int32} {f : Nat} {X : Nat → Nat → Int32} (hf : sh_F τ.2 f) (h : RL ν f X) {i : Int32} {Q : Option Value → mm_T → Prop}  (hB : in_I i 0 5 = 0 → Q (some (.int (-1000001))) (τ, ν)) (hN : ∀ k : Nat, k < 6 → i = nI k → ¬ in_I i 0 5 = 0 → Q (some (.int (X 1 (12 + k)))) (τ, ν)) : mt_P Γ mk_F_account [.ref f, .int i] (τ, ν) (Q) := by
  refine mt_of (L := [some (.ref f), some (.int i)]) (by decide +kernel) (by simp [Value.category]) (Nat.le_of_ble_eq_true rfl) (lc_2_2 ()) ?_
  obtain ⟨f0, hx, hy, ⟨g, hg, hgi⟩, him, hv, ht⟩ := id hf
  have hX := h.1
  refine gg_ildn dc_F_account_0 rfl rfl ?_
  refine gg_iflt dc_F_account_1 (fun c_1 => ?_) (fun c_1 => ?_)
  · refine gg_ldc dc_F_account_10 lk_F_45 ?_
    exact gg_iret dc_F_account_12 rfl ⟨Nat.le_of_ble_eq_true rfl, Nat.le_of_ble_eq_true rfl⟩ (hB (in_lo c_1))
  · refine gg_ildn dc_F_account_4 rfl rfl ?_
    refine gg_bipush (v := 6) dc_F_account_5 (by decide) ?_
    refine gg_iclt dc_F_account_7 (fun c_7 => ?_) (fun c_7 => ?_)
    · refine gg_aldn dc_F_account_13 rfl rfl ?_
      refine gg_getr dc_F_account_14 lf_F_10 f0 rfl ?_
      refine gg_getr dc_F_account_17 lf_F_160 hx.1 rfl ?_
      refine gg_ildn dc_F_account_20 rfl rfl ?_
      refine gg_okS (sp_R_at hx.2.2.1 (by omega)) dc_F_account_21 ml_F_164 ce_R_at ⟨Nat.le_of_ble_eq_true rfl, Nat.le_of_ble_eq_true rfl⟩ rfl (Nat.le_of_ble_eq_true rfl) ⟨rfl, rfl⟩ ⟨Nat.le_of_ble_eq_true rfl, Nat.le_of_ble_eq_true rfl⟩ ?_
      refine gg_iret dc_F_account_24 rfl ⟨Nat.le_of_ble_eq_true rfl, Nat.le_of_ble_eq_true rfl⟩ ?_
      obtain ⟨k, hk, rfl⟩ := nI_of (x := i) c_1
      have hk6 : k < 6 := by
        have z := c_7
        rw [ti_lt, nI_toInt hk] at z
        have z : (k : Int) < 6 := z
        omega
      rw [at_in hk6 (by omega), hX.2.1 k hk6]
      exact hN k hk6 rfl (in_no c_1 (fun z => by rw [ti_lt, nI_toInt hk] at z; have z : (5 : Int) < k := z; omega))
    · refine gg_ldc dc_F_account_10 lk_F_45 ?_
      exact gg_iret dc_F_account_12 rfl ⟨Nat.le_of_ble_eq_true rfl, Nat.le_of_ble_eq_true rfl⟩ ((hB (in_hi (by rw [ti_lt] at c_7 ⊢; have z : ¬ i.toInt < 6 := c_7; show (5 : Int) < _; omega))))
set_option maxRecDepth 100000 in
set_option maxHeartbeats 4000000 in
theorem sp_F_command {Γ : cx_T} {τ : Nat × (Nat → sh_T)} {ν : Nat → Nat → Int32} {f : Nat} {X : Nat → Nat → Int32} (hf : sh_F τ.2 f) (h : RL ν f X) {i w : Int32} {Q : Option Value → mm_T → Prop}  (hB : (i < 0 ∨ in_I w 0 1 = 0) → Q (some (.int (-1000001))) (τ, ν)) (hI : ¬ i < 0 → ¬ in_I w 0 1 = 0 → ¬ i < X 1 63 → Q (some (.int (-1000009))) (τ, ν)) (hN : ∀ k z : Nat, i = nI k → w = nI z → k < ls_n (X 1) 63 → z < 2 → ¬ in_I w 0 1 = 0 → i < X 1 63 → Q (some (.int (X 1 (64 + 2 * k + z)))) (τ, ν)) : mt_P Γ mk_F_command [.ref f, .int i, .int w] (τ, ν) (Q) := by
  refine mt_of (L := [some (.ref f), some (.int i), some (.int w)]) (by decide +kernel) (by simp [Value.category]) (Nat.le_of_ble_eq_true rfl) (lc_3_3 ()) ?_
  obtain ⟨f0, hx, hy, ⟨g, hg, hgi⟩, him, hv, ht⟩ := id hf
  have hX := h.1
  have hC := hX.2.2.2.2.2.2.n (by omega)
  refine gg_ildn dc_F_command_0 rfl rfl ?_
  refine gg_iflt dc_F_command_1 (fun c_1 => ?_) (fun c_1 => ?_)
  · refine gg_ldc dc_F_command_13 lk_F_45 ?_
    exact gg_iret dc_F_command_15 rfl ⟨Nat.le_of_ble_eq_true rfl, Nat.le_of_ble_eq_true rfl⟩ (hB (Or.inl c_1))
  · refine gg_ildn dc_F_command_4 rfl rfl ?_
    refine gg_iflt dc_F_command_5 (fun c_5 => ?_) (fun c_5 => ?_)
    · refine gg_ldc dc_F_command_13 lk_F_45 ?_
      exact gg_iret dc_F_command_15 rfl ⟨Nat.le_of_ble_eq_true rfl, Nat.le_of_ble_eq_true rfl⟩ (hB (Or.inr (in_lo c_5)))
    · refine gg_ildn dc_F_command_8 rfl rfl ?_
      refine gg_iconst (v := 1) dc_F_command_9 (by decide) ?_
      refine gg_icle dc_F_command_10 (fun c_10 => ?_) (fun c_10 => ?_)
      · refine gg_ildn dc_F_command_16 rfl rfl ?_
        refine gg_aldn dc_F_command_17 rfl rfl ?_
        refine gg_getr dc_F_command_18 lf_F_10 f0 rfl ?_
        refine gg_getr dc_F_command_21 lf_F_107 hx.1 rfl ?_
        refine gx_geti dc_F_command_24 lf_F_120 hx.2.2.2.2.2.1 rfl ?_
        refine gx_top ((show _ = X 1 63 from hX.2.2.2.2.2.2.c)) ?_
        refine gg_iclt dc_F_command_27 (fun c_27 => ?_) (fun c_27 => ?_)
        · refine gg_ildn dc_F_command_33 rfl rfl ?_
          obtain ⟨k, hk, rfl⟩ := nI_of (x := i) c_1
          have hk1 : k < ls_n (X 1) 63 := by
            have z := c_27
            rw [hC.2.2.1] at z
            exact (nI_ltI hk (by omega)).mp z
          have hk8 : k < 8 := by omega
          refine gg_ifne dc_F_command_34 (fun c_34 => ?_) (fun c_34 => ?_)
          · refine gg_aldn dc_F_command_51 rfl rfl ?_
            refine gg_getr dc_F_command_52 lf_F_10 f0 rfl ?_
            refine gg_getr dc_F_command_55 lf_F_107 hx.1 rfl ?_
            refine gg_ildn dc_F_command_58 rfl rfl ?_
            refine gg_okV (sp_C_priorityOf hx.2.2.2.2.2 rfl hk8) dc_F_command_59 ml_F_181 ce_C_priorityOf ⟨Nat.le_of_ble_eq_true rfl, Nat.le_of_ble_eq_true rfl⟩ hx.2.2.2.2.2.1 rfl rfl (Nat.le_of_ble_eq_true rfl) ⟨rfl, rfl⟩ ⟨Nat.le_of_ble_eq_true rfl, Nat.le_of_ble_eq_true rfl⟩ ?_
            refine gg_iret dc_F_command_62 rfl ⟨Nat.le_of_ble_eq_true rfl, Nat.le_of_ble_eq_true rfl⟩ ?_
            obtain ⟨z, hz, e⟩ := nI_of2 (x := w) (M := 1) (n := 1) rfl c_5 c_10
            have r : z = 1 := by
              rcases (show z = 0 ∨ z = 1 by omega) with r | r
              · exact absurd (by rw [e, r]; rfl) c_34
              · exact r
            subst r
            rw [(hC.2.2.2 k hk1).2]
            have y := hN k 1 rfl e hk1 (by omega) (in_no c_5 (Int32.not_lt.mpr c_10)) c_27
            rw [show 64 + 2 * k + 1 = 63 + 2 + 2 * k by omega] at y
            exact y
          · refine gg_aldn dc_F_command_37 rfl rfl ?_
            refine gg_getr dc_F_command_38 lf_F_10 f0 rfl ?_
            refine gg_getr dc_F_command_41 lf_F_107 hx.1 rfl ?_
            refine gg_ildn dc_F_command_44 rfl rfl ?_
            refine gg_okV (sp_C_placeOf hx.2.2.2.2.2 rfl hk8) dc_F_command_45 ml_F_178 ce_C_placeOf ⟨Nat.le_of_ble_eq_true rfl, Nat.le_of_ble_eq_true rfl⟩ hx.2.2.2.2.2.1 rfl rfl (Nat.le_of_ble_eq_true rfl) ⟨rfl, rfl⟩ ⟨Nat.le_of_ble_eq_true rfl, Nat.le_of_ble_eq_true rfl⟩ ?_
            refine gg_goto dc_F_command_48 ?_
            refine gg_iret dc_F_command_62 rfl ⟨Nat.le_of_ble_eq_true rfl, Nat.le_of_ble_eq_true rfl⟩ ?_
            rw [(hC.2.2.2 k hk1).1]
            have y := hN k 0 rfl c_34 hk1 (by omega) (in_no c_5 (Int32.not_lt.mpr c_10)) c_27
            rw [show 64 + 2 * k + 0 = 63 + 1 + 2 * k by omega] at y
            exact y
        · refine gg_ldc dc_F_command_30 lk_F_132 ?_
          exact gg_iret dc_F_command_32 rfl ⟨Nat.le_of_ble_eq_true rfl, Nat.le_of_ble_eq_true rfl⟩ ((hI c_1 (in_no c_5 (Int32.not_lt.mpr c_10)) c_27))
      · refine gg_ldc dc_F_command_13 lk_F_45 ?_
        exact gg_iret dc_F_command_15 rfl ⟨Nat.le_of_ble_eq_true rfl, Nat.le_of_ble_eq_true rfl⟩ (hB (Or.inr (in_hi (Int32.not_le.mp c_10))))
def cc_N (X : Nat → Nat → Int32) (k : Nat) : Int32 := match k with
  | 18 => X 0 7
  | 19 => X 0 2
  | 20 => X 0 4
  | k => rd_N (X 1) k
theorem cc_lt {X : Nat → Nat → Int32} {k : Nat} (h : k < 18) : cc_N X k = rd_N (X 1) k := by
  unfold cc_N
  split <;> first | omega | rfl
set_option maxRecDepth 100000 in
set_option maxHeartbeats 4000000 in
theorem sp_F_count {Γ : cx_T} {τ : Nat × (Nat → sh_T)} {ν : Nat → Nat → Int32} {f : Nat} {X : Nat → Nat → Int32} (hf : sh_F τ.2 f) (h : RL ν f X) {i : Int32} {Q : Option Value → mm_T → Prop}  (hB : (i < 0 ∨ 20 < i) → Q (some (.int (-1000001))) (τ, ν)) (hN : ∀ k : Nat, k < 21 → i = nI k → Q (some (.int (cc_N X k))) (τ, ν)) : mt_P Γ mk_F_count [.ref f, .int i] (τ, ν) (Q) := by
  refine mt_of (L := [some (.ref f), some (.int i)]) (by decide +kernel) (by simp [Value.category]) (Nat.le_of_ble_eq_true rfl) (lc_2_2 ()) ?_
  obtain ⟨f0, hx, hy, ⟨g, hg, hgi⟩, him, hv, ht⟩ := id hf
  have hX := h.1
  obtain ⟨L, hL, hT⟩ := h.2.2.2.2
  obtain ⟨k9, n9, hk9, g1, g2, g3, g4⟩ := h.2.2.2.1
  refine gg_ildn dc_F_count_0 rfl rfl ?_
  refine gg_tab [28, 36, 44] dc_F_count_1 (fun i9 t9 hi9 ht9 => ?_) (fun hout => ?_)
  · match i9, ht9 with
    | 0, ht9 =>
      cases ht9
      refine gg_aldn dc_F_count_28 rfl rfl ?_
      refine gg_getr dc_F_count_29 lf_F_37 f0 rfl ?_
      refine gx_geti dc_F_count_32 lf_F_84 ht.1 rfl ?_
      refine gx_top (show ν (f + 124) 1 = X 0 7 by rw [hL, hT.1]) ?_
      exact gg_iret dc_F_count_35 rfl ⟨Nat.le_of_ble_eq_true rfl, Nat.le_of_ble_eq_true rfl⟩ ((hN 18 (by omega) (by rw [ti_eq, hi9]; rfl)))
    | 1, ht9 =>
      cases ht9
      refine gg_aldn dc_F_count_36 rfl rfl ?_
      refine gg_getr dc_F_count_37 lf_F_30 f0 rfl ?_
      refine gx_geti dc_F_count_40 lf_F_153 hv.1 rfl ?_
      refine gx_top (show ν (f + 50) 2 = X 0 2 by rw [g2, g3]) ?_
      exact gg_iret dc_F_count_43 rfl ⟨Nat.le_of_ble_eq_true rfl, Nat.le_of_ble_eq_true rfl⟩ ((hN 19 (by omega) (by rw [ti_eq, hi9]; rfl)))
    | 2, ht9 =>
      cases ht9
      refine gg_aldn dc_F_count_44 rfl rfl ?_
      refine gx_geti dc_F_count_45 lf_F_23 f0 rfl ?_
      refine gx_top (h.2.1.1) ?_
      exact gg_iret dc_F_count_48 rfl ⟨Nat.le_of_ble_eq_true rfl, Nat.le_of_ble_eq_true rfl⟩ ((hN 20 (by omega) (by rw [ti_eq, hi9]; rfl)))
    | n9 + 3, ht9 => exact absurd ht9 (by simp)
  · refine gg_ildn dc_F_count_49 rfl rfl ?_
    refine gg_okS (sp_A_isReading) dc_F_count_50 ml_F_154 ce_A_isReading ⟨Nat.le_of_ble_eq_true rfl, Nat.le_of_ble_eq_true rfl⟩ rfl (Nat.le_of_ble_eq_true rfl) ⟨rfl, rfl⟩ ⟨Nat.le_of_ble_eq_true rfl, Nat.le_of_ble_eq_true rfl⟩ ?_
    refine gg_ifeq dc_F_count_53 (fun c_53 => ?_) (fun c_53 => ?_)
    · refine gg_ldc dc_F_count_67 lk_F_45 ?_
      refine gg_iret dc_F_count_69 rfl ⟨Nat.le_of_ble_eq_true rfl, Nat.le_of_ble_eq_true rfl⟩ ?_
      refine hB ?_
      by_cases z : i < 0
      · exact Or.inl z
      · have y : 17 < i := Classical.not_not.mp fun y => by
          rw [if_neg (fun u => u.elim z y)] at c_53
          exact absurd c_53 (by decide)
        refine Or.inr ?_
        rw [ti_lt] at y ⊢
        have y : (17 : Int) < _ := y
        show (20 : Int) < _
        rcases hout with u | u <;> omega
    · obtain ⟨k, hk, rfl⟩ := nI_of (x := i) (fun z => c_53 (if_pos (Or.inl z)))
      have hk18 : k < 18 := by
        have z : ¬ 17 < nI k := fun z => c_53 (if_pos (Or.inr z))
        rw [ti_lt, nI_toInt hk] at z
        have z : ¬ (17 : Int) < k := z
        omega
      refine gg_aldn dc_F_count_56 rfl rfl ?_
      refine gg_getr dc_F_count_57 lf_F_10 f0 rfl ?_
      refine gg_ildn dc_F_count_60 rfl rfl ?_
      refine gg_okV (sp_A_reading hx hX rfl hk18) dc_F_count_61 ml_F_157 ce_A_reading ⟨Nat.le_of_ble_eq_true rfl, Nat.le_of_ble_eq_true rfl⟩ hx.1 rfl rfl (Nat.le_of_ble_eq_true rfl) ⟨rfl, rfl⟩ ⟨Nat.le_of_ble_eq_true rfl, Nat.le_of_ble_eq_true rfl⟩ ?_
      refine gg_goto dc_F_count_64 ?_
      exact gg_iret dc_F_count_69 rfl ⟨Nat.le_of_ble_eq_true rfl, Nat.le_of_ble_eq_true rfl⟩ ((by have z := hN k (by omega) rfl; rw [cc_lt hk18] at z; exact z))
