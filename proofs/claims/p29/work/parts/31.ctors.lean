theorem mx_0 {n : Nat} (h : n < 2 ^ 31) : mx_I 0 (nI n) = nI n := by
  unfold mx_I
  by_cases c : n = 0
  · subst c; rw [if_neg (by decide)]; rfl
  · exact if_pos (show (0 : Int32) < nI n from nI_lt (a := 0) (by omega) h)
set_option maxRecDepth 100000 in
set_option maxHeartbeats 4000000 in
theorem sp_Q_init {Γ : cx_T} {ν : Nat → Nat → Int32} {sh : Nat → sh_T} {ci n q : Nat} (hci : ci = 1 ∨ ci = 2) (h0 : sh q = .inr (.inr (ci, [some none, some none, none]))) (hn : n ≤ 10) : mt_P Γ mk_Q_init [.ref q, .int (nI n)] ((q + 1, sh), ν) (fun v μ' => ∃ (sh' : Nat → sh_T) (ν' : Nat → Nat → Int32), v = none ∧ μ' = ((q + 3, sh'), ν') ∧ sh_Pl sh' ci n q ∧ ν' q 2 = 0 ∧ ∀ c : Nat, c < q → sh' c = sh c ∧ ν' c = ν c) := by
  refine mt_of (L := [some (.ref q), some (.int (nI n)), none]) (by decide +kernel) (by simp [Value.category]) (Nat.le_of_ble_eq_true rfl) (lc_2_3 ()) ?_
  refine gg_aldn dc_Q_init_0 rfl rfl ?_
  refine gg_obj dc_Q_init_1 oi_Q ⟨Nat.le_of_ble_eq_true rfl, Nat.le_of_ble_eq_true rfl⟩ ?_
  refine gg_iconst (v := 0) dc_Q_init_4 (by decide) ?_
  refine gg_ildn dc_Q_init_5 rfl rfl ?_
  refine gg_okS (sp_J_max) dc_Q_init_6 ml_Q_7 ce_J_max ⟨Nat.le_of_ble_eq_true rfl, Nat.le_of_ble_eq_true rfl⟩ rfl (Nat.le_of_ble_eq_true rfl) ⟨rfl, rfl⟩ ⟨Nat.le_of_ble_eq_true rfl, Nat.le_of_ble_eq_true rfl⟩ ?_
  refine gx_top (mx_0 (n := n) (by omega)) ?_
  refine gg_istn (i := 2) dc_Q_init_9 rfl (Nat.le_of_ble_eq_true rfl) rfl ?_
  dsimp only [List.set]
  refine gg_aldn dc_Q_init_10 rfl rfl ?_
  refine gg_ildn dc_Q_init_11 rfl rfl ?_
  refine gg_newI (n := n) dc_Q_init_12 aw_int (⟨nI_pos (by omega), nI_clamp (by omega), by omega⟩) (⟨by show 0 + 1 ≤ 2; omega, by show 0 + n ≤ 20; omega⟩) ?_
  refine gg_putr dc_Q_init_14 rfl (lr_Q_13 hci) (show _ = ((.inr (.inr (ci, [some none, some none, none]))) : sh_T) from by simp [va_up, h0, Nat.add_assoc]) (Nat.le_of_ble_eq_true rfl) ?_
  refine gg_aldn dc_Q_init_17 rfl rfl ?_
  refine gg_ildn dc_Q_init_18 rfl rfl ?_
  refine gg_newI (n := n) dc_Q_init_19 aw_int (⟨nI_pos (by omega), nI_clamp (by omega), by omega⟩) (⟨by show 0 + 1 + 1 ≤ 2; omega, by show 0 + n + n ≤ 20; omega⟩) ?_
  refine gg_putr dc_Q_init_21 rfl (lr_Q_19 hci) (show _ = ((.inr (.inr (ci, [some (some (q + 1)), some none, none]))) : sh_T) from by simp [va_up, h0, Nat.add_assoc]) (Nat.le_of_ble_eq_true rfl) ?_
  refine gg_aldn dc_Q_init_24 rfl rfl ?_
  refine gg_iconst (v := 0) dc_Q_init_25 (by decide) ?_
  refine gg_puti dc_Q_init_26 (lp_Q_22 hci) (show _ = ((.inr (.inr (ci, [some (some (q + 1)), some (some (q + 2)), none]))) : sh_T) from by simp [va_up, h0, Nat.add_assoc]) rfl ?_
  exact gg_vret dc_Q_init_29 rfl ⟨by show 0 + 1 + 1 ≤ 2; omega, by show 0 + n + n ≤ 20; omega⟩ (⟨_, _, rfl, rfl, ⟨by simp [va_up, Nat.add_assoc], by simp [va_up, Nat.add_assoc], by simp [va_up, Nat.add_assoc]⟩, by simp [up_2, va_up, Nat.add_assoc], fun c hc => ⟨by simp [Nat.add_assoc, va_up, show c ≠ q by omega, show c ≠ q + 1 by omega, show c ≠ q + 2 by omega], by funext j; simp [Nat.add_assoc, va_up, up_2, show c ≠ q by omega, show c ≠ q + 1 by omega, show c ≠ q + 2 by omega]⟩⟩)
set_option maxRecDepth 100000 in
set_option maxHeartbeats 4000000 in
theorem sp_P_init {Γ : cx_T} {ν : Nat → Nat → Int32} {sh : Nat → sh_T} {q : Nat} (h0 : sh q = .inr (.inr (2, [some none, some none, none]))) : mt_P Γ mk_P_init [.ref q] ((q + 1, sh), ν) (fun v μ' => ∃ (sh' : Nat → sh_T) (ν' : Nat → Nat → Int32), v = none ∧ μ' = ((q + 3, sh'), ν') ∧ sh_Pt sh' q ∧ ν' q 2 = 0 ∧ ∀ c : Nat, c < q → sh' c = sh c ∧ ν' c = ν c) := by
  refine mt_of (L := [some (.ref q)]) (by decide +kernel) (by simp [Value.category]) (Nat.le_of_ble_eq_true rfl) (lc_1_1 ()) ?_
  refine gg_aldn dc_P_init_0 rfl rfl ?_
  refine gg_bipush (v := 10) dc_P_init_1 (by decide) ?_
  refine gg_callI (As := [.int 10]) (sp_Q_init (n := 10) (Or.inr rfl) h0 (by omega)) dc_P_init_3 ml_P_5 ce_Q_init ⟨Nat.le_of_ble_eq_true rfl, Nat.le_of_ble_eq_true rfl⟩ rfl (Nat.le_of_ble_eq_true rfl) ⟨Nat.le_of_ble_eq_true rfl, Nat.le_of_ble_eq_true rfl⟩ ?_
  rintro v9 μ9 ⟨sh1, ν1, rfl, rfl, hp, hn, hk⟩
  dsimp only [Option.toList, List.nil_append]
  exact gg_vret dc_P_init_6 rfl ⟨Nat.le_of_ble_eq_true rfl, Nat.le_of_ble_eq_true rfl⟩ (⟨_, _, rfl, rfl, hp, hn, hk⟩)
set_option maxRecDepth 100000 in
set_option maxHeartbeats 4000000 in
theorem sp_C_init {Γ : cx_T} {ν : Nat → Nat → Int32} {sh : Nat → sh_T} {q : Nat} (h0 : sh q = .inr (.inr (1, [some none, some none, none]))) : mt_P Γ mk_C_init [.ref q] ((q + 1, sh), ν) (fun v μ' => ∃ (sh' : Nat → sh_T) (ν' : Nat → Nat → Int32), v = none ∧ μ' = ((q + 3, sh'), ν') ∧ sh_Cm sh' q ∧ ν' q 2 = 0 ∧ ∀ c : Nat, c < q → sh' c = sh c ∧ ν' c = ν c) := by
  refine mt_of (L := [some (.ref q)]) (by decide +kernel) (by simp [Value.category]) (Nat.le_of_ble_eq_true rfl) (lc_1_1 ()) ?_
  refine gg_aldn dc_C_init_0 rfl rfl ?_
  refine gg_bipush (v := 8) dc_C_init_1 (by decide) ?_
  refine gg_callI (As := [.int 8]) (sp_Q_init (n := 8) (Or.inl rfl) h0 (by omega)) dc_C_init_3 ml_C_3 ce_Q_init ⟨Nat.le_of_ble_eq_true rfl, Nat.le_of_ble_eq_true rfl⟩ rfl (Nat.le_of_ble_eq_true rfl) ⟨Nat.le_of_ble_eq_true rfl, Nat.le_of_ble_eq_true rfl⟩ ?_
  rintro v9 μ9 ⟨sh1, ν1, rfl, rfl, hp, hn, hk⟩
  dsimp only [Option.toList, List.nil_append]
  exact gg_vret dc_C_init_6 rfl ⟨Nat.le_of_ble_eq_true rfl, Nat.le_of_ble_eq_true rfl⟩ (⟨_, _, rfl, rfl, hp, hn, hk⟩)
set_option maxRecDepth 100000 in
set_option maxHeartbeats 4000000 in
theorem sp_T_init {Γ : cx_T} {ν : Nat → Nat → Int32} {sh : Nat → sh_T} {q : Nat} (h0 : sh q = .inr (.inr (4, [some none, none, none, none]))) : mt_P Γ mk_T_init [.ref q] ((q + 1, sh), ν) (fun v μ' => ∃ (sh' : Nat → sh_T) (ν' : Nat → Nat → Int32), v = none ∧ μ' = ((q + 2, sh'), ν') ∧ sh_Tx sh' q ∧ ν' q 1 = 0 ∧ ∀ c : Nat, c < q → sh' c = sh c ∧ ν' c = ν c) := by
  refine mt_of (L := [some (.ref q)]) (by decide +kernel) (by simp [Value.category]) (Nat.le_of_ble_eq_true rfl) (lc_1_1 ()) ?_
  refine gg_aldn dc_T_init_0 rfl rfl ?_
  refine gg_obj dc_T_init_1 oi_T ⟨Nat.le_of_ble_eq_true rfl, Nat.le_of_ble_eq_true rfl⟩ ?_
  refine gg_aldn dc_T_init_4 rfl rfl ?_
  refine gg_bipush (v := 100) dc_T_init_5 (by decide) ?_
  refine gg_newI (n := 100) dc_T_init_7 aw_int (by decide) ⟨Nat.le_of_ble_eq_true rfl, Nat.le_of_ble_eq_true rfl⟩ ?_
  refine gg_putr dc_T_init_9 rfl lr_T_11 (show _ = ((.inr (.inr (4, [some none, none, none, none]))) : sh_T) from by simp [va_up, h0, Nat.add_assoc]) (Nat.le_of_ble_eq_true rfl) ?_
  refine gg_aldn dc_T_init_12 rfl rfl ?_
  refine gg_iconst (v := 0) dc_T_init_13 (by decide) ?_
  refine gg_puti dc_T_init_14 lp_T_15 (show _ = ((.inr (.inr (4, [some (some (q + 1)), none, none, none]))) : sh_T) from by simp [va_up, h0, Nat.add_assoc]) rfl ?_
  refine gg_aldn dc_T_init_17 rfl rfl ?_
  refine gg_iconst (v := 0) dc_T_init_18 (by decide) ?_
  refine gg_puti dc_T_init_19 lp_T_19 (show _ = ((.inr (.inr (4, [some (some (q + 1)), none, none, none]))) : sh_T) from by simp [va_up, h0, Nat.add_assoc]) rfl ?_
  refine gg_aldn dc_T_init_22 rfl rfl ?_
  refine gg_iconst (v := (-1)) dc_T_init_23 (by decide) ?_
  refine gg_puti dc_T_init_24 lp_T_22 (show _ = ((.inr (.inr (4, [some (some (q + 1)), none, none, none]))) : sh_T) from by simp [va_up, h0, Nat.add_assoc]) rfl ?_
  exact gg_vret dc_T_init_27 rfl ⟨Nat.le_of_ble_eq_true rfl, Nat.le_of_ble_eq_true rfl⟩ (⟨_, _, rfl, rfl, ⟨by simp [va_up, Nat.add_assoc], by simp [va_up, Nat.add_assoc]⟩, by simp [up_2, va_up, Nat.add_assoc], fun c hc => ⟨by simp [Nat.add_assoc, va_up, show c ≠ q by omega, show c ≠ q + 1 by omega], by funext j; simp [Nat.add_assoc, va_up, up_2, show c ≠ q by omega, show c ≠ q + 1 by omega]⟩⟩)
