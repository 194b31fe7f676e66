def I0_S : Nat → Int32 := upd (upd (upd (upd (fun _ => 0) 0 4) 1 100) 2 100) 3 10
theorem I0_z {j : Nat} (h : 4 ≤ j) : I0_S j = 0 := by
  unfold I0_S; rw [ud_ne (by omega), ud_ne (by omega), ud_ne (by omega), ud_ne (by omega)]
theorem sh_Pt.cg {sh sh' : Nat → sh_T} {q : Nat} (h : sh_Pt sh q) (e : ∀ c : Nat, q ≤ c → c < q + 3 → sh' c = sh c) : sh_Pt sh' q := ⟨by rw [e q (by omega) (by omega)]; exact h.1, by rw [e _ (by omega) (by omega)]; exact h.2.1, by rw [e _ (by omega) (by omega)]; exact h.2.2⟩
theorem sh_Cm.cg {sh sh' : Nat → sh_T} {q : Nat} (h : sh_Cm sh q) (e : ∀ c : Nat, q ≤ c → c < q + 3 → sh' c = sh c) : sh_Cm sh' q := ⟨by rw [e q (by omega) (by omega)]; exact h.1, by rw [e _ (by omega) (by omega)]; exact h.2.1, by rw [e _ (by omega) (by omega)]; exact h.2.2⟩
theorem sh_X.cg {sh sh' : Nat → sh_T} {a : Nat} (h : sh_X sh a) (e : ∀ c : Nat, a ≤ c → c < a + 12 → sh' c = sh c) : sh_X sh' a := ⟨by rw [e a (by omega) (by omega)]; exact h.1, by rw [e _ (by omega) (by omega)]; exact h.2.1, by rw [e _ (by omega) (by omega)]; exact h.2.2.1, h.2.2.2.1.cg fun c h1 h2 => e c (by omega) (by omega), h.2.2.2.2.1.cg fun c h1 h2 => e c (by omega) (by omega), h.2.2.2.2.2.cg fun c h1 h2 => e c (by omega) (by omega)⟩
theorem PR.z {ν : Nat → Nat → Int32} {q b N : Nat} {S : Nat → Int32} (h : ν q 2 = 0) (hS : S b = 0) : PR ν q S b N := ⟨0, Nat.zero_le _, h, hS, fun i hi => absurd hi (Nat.not_lt_zero _)⟩
set_option maxRecDepth 100000 in
set_option maxHeartbeats 4000000 in
theorem sp_A_init {Γ : cx_T} {ν : Nat → Nat → Int32} {sh : Nat → sh_T} {a : Nat} (h0 : sh a = .inr (.inr (0, [some none, some none, some none, some none, some none, none, none, none, none, none, none, none, none, none]))) (hz : ∀ j : Nat, ν a j = 0) : mt_P Γ mk_A_init [.ref a] ((a + 1, sh), ν) (fun v μ' => ∃ (sh' : Nat → sh_T) (ν' : Nat → Nat → Int32), v = none ∧ μ' = ((a + 12, sh'), ν') ∧ sh_X sh' a ∧ AX ν' a I0_S ∧ ∀ c : Nat, c < a → sh' c = sh c ∧ ν' c = ν c) := by
  refine mt_of (L := [some (.ref a)]) (by decide +kernel) (by simp [Value.category]) (Nat.le_of_ble_eq_true rfl) (lc_1_1 ()) ?_
  refine gg_aldn dc_A_init_0 rfl rfl ?_
  refine gg_obj dc_A_init_1 oi_A ⟨Nat.le_of_ble_eq_true rfl, Nat.le_of_ble_eq_true rfl⟩ ?_
  refine gg_aldn dc_A_init_4 rfl rfl ?_
  refine gg_bipush (v := 6) dc_A_init_5 (by decide) ?_
  refine gg_newI (n := 6) dc_A_init_7 aw_int (by decide) ⟨Nat.le_of_ble_eq_true rfl, Nat.le_of_ble_eq_true rfl⟩ ?_
  refine gg_dup dc_A_init_9 rfl ?_
  refine gg_iconst (v := 0) dc_A_init_10 (by decide) ?_
  refine gg_iconst (v := 4) dc_A_init_11 (by decide) ?_
  refine gx_iastK (k := 0) dc_A_init_12 (show _ = ((.inl (0, 6)) : sh_T) from by simp [va_up, h0, Nat.add_assoc]) ⟨rfl, by omega, by omega⟩ ?_
  refine gg_dup dc_A_init_13 rfl ?_
  refine gg_iconst (v := 1) dc_A_init_14 (by decide) ?_
  refine gg_bipush (v := 100) dc_A_init_15 (by decide) ?_
  refine gx_iastK (k := 1) dc_A_init_17 (show _ = ((.inl (0, 6)) : sh_T) from by simp [va_up, h0, Nat.add_assoc]) ⟨rfl, by omega, by omega⟩ ?_
  refine gg_dup dc_A_init_18 rfl ?_
  refine gg_iconst (v := 2) dc_A_init_19 (by decide) ?_
  refine gg_bipush (v := 100) dc_A_init_20 (by decide) ?_
  refine gx_iastK (k := 2) dc_A_init_22 (show _ = ((.inl (0, 6)) : sh_T) from by simp [va_up, h0, Nat.add_assoc]) ⟨rfl, by omega, by omega⟩ ?_
  refine gg_dup dc_A_init_23 rfl ?_
  refine gg_iconst (v := 3) dc_A_init_24 (by decide) ?_
  refine gg_bipush (v := 10) dc_A_init_25 (by decide) ?_
  refine gx_iastK (k := 3) dc_A_init_27 (show _ = ((.inl (0, 6)) : sh_T) from by simp [va_up, h0, Nat.add_assoc]) ⟨rfl, by omega, by omega⟩ ?_
  refine gg_dup dc_A_init_28 rfl ?_
  refine gg_iconst (v := 4) dc_A_init_29 (by decide) ?_
  refine gg_iconst (v := 0) dc_A_init_30 (by decide) ?_
  refine gx_iastK (k := 4) dc_A_init_31 (show _ = ((.inl (0, 6)) : sh_T) from by simp [va_up, h0, Nat.add_assoc]) ⟨rfl, by omega, by omega⟩ ?_
  refine gg_dup dc_A_init_32 rfl ?_
  refine gg_iconst (v := 5) dc_A_init_33 (by decide) ?_
  refine gg_iconst (v := 0) dc_A_init_34 (by decide) ?_
  refine gx_iastK (k := 5) dc_A_init_35 (show _ = ((.inl (0, 6)) : sh_T) from by simp [va_up, h0, Nat.add_assoc]) ⟨rfl, by omega, by omega⟩ ?_
  refine gg_putr dc_A_init_36 rfl lr_A_9 (show _ = ((.inr (.inr (0, [some none, some none, some none, some none, some none, none, none, none, none, none, none, none, none, none]))) : sh_T) from by simp [va_up, h0, Nat.add_assoc]) (Nat.le_of_ble_eq_true rfl) ?_
  refine gg_aldn dc_A_init_39 rfl rfl ?_
  refine gg_bipush (v := 6) dc_A_init_40 (by decide) ?_
  refine gg_newI (n := 6) dc_A_init_42 aw_int (by decide) ⟨Nat.le_of_ble_eq_true rfl, Nat.le_of_ble_eq_true rfl⟩ ?_
  refine gg_putr dc_A_init_44 rfl lr_A_15 (show _ = ((.inr (.inr (0, [some (some (a + 1)), some none, some none, some none, some none, none, none, none, none, none, none, none, none, none]))) : sh_T) from by simp [va_up, h0, Nat.add_assoc]) (Nat.le_of_ble_eq_true rfl) ?_
  refine gg_aldn dc_A_init_47 rfl rfl ?_
  refine gg_new dc_A_init_48 nw_A_18 ⟨Nat.le_of_ble_eq_true rfl, Nat.le_of_ble_eq_true rfl⟩ ?_
  refine gg_dup dc_A_init_51 rfl ?_
  refine gg_callI (As := []) (sp_P_init (by simp [va_up])) dc_A_init_52 ml_A_20 ce_P_init ⟨Nat.le_of_ble_eq_true rfl, Nat.le_of_ble_eq_true rfl⟩ rfl (Nat.le_of_ble_eq_true rfl) ⟨Nat.le_of_ble_eq_true rfl, Nat.le_of_ble_eq_true rfl⟩ ?_
  rintro v9 μ9 ⟨sh1, ν1, rfl, rfl, hp1, hn1, hk1⟩
  dsimp only [Option.toList, List.nil_append]
  have e10 : sh1 a = .inr (.inr (0, [some (some (a + 1)), some (some (a + 2)), some none, some none, some none, none, none, none, none, none, none, none, none, none])) := by rw [(hk1 a (by omega)).1]; simp [va_up, h0, Nat.add_assoc]
  have e11 : sh1 (a + 1) = .inl (0, 6) := by rw [(hk1 (a + 1) (by omega)).1]; simp [va_up, Nat.add_assoc]
  have e12 : sh1 (a + 2) = .inl (0, 6) := by rw [(hk1 (a + 2) (by omega)).1]; simp [va_up, Nat.add_assoc]
  have m10 : ∀ j : Nat, ν1 a j = 0 := by intro j; rw [(hk1 a (by omega)).2]; simp [va_up, up_2, hz, Nat.add_assoc]
  have m11 : ν1 (a + 1) = I0_S := by rw [(hk1 (a + 1) (by omega)).2]; funext j; simp [va_up, up_2, Nat.add_assoc]; unfold I0_S upd; repeat' split <;> simp_all
  have m12 : ∀ j : Nat, ν1 (a + 2) j = 0 := by intro j; rw [(hk1 (a + 2) (by omega)).2]; simp [va_up, up_2, Nat.add_assoc]
  have f1 : ∀ c : Nat, c < a → sh1 c = sh c ∧ ν1 c = ν c := fun c hc => ⟨by rw [(hk1 c (by omega)).1]; simp [va_up, show c ≠ a by omega, show c ≠ a + 1 by omega, show c ≠ a + 2 by omega, show c ≠ a + 3 by omega, show c ≠ a + 6 by omega, show c ≠ a + 9 by omega, Nat.add_assoc], by rw [(hk1 c (by omega)).2]; funext j; simp [va_up, up_2, show c ≠ a by omega, show c ≠ a + 1 by omega, show c ≠ a + 2 by omega, show c ≠ a + 3 by omega, show c ≠ a + 6 by omega, show c ≠ a + 9 by omega, Nat.add_assoc]⟩
  refine gg_putr dc_A_init_55 rfl lr_A_21 (e10) (Nat.le_of_ble_eq_true rfl) ?_
  refine gg_aldn dc_A_init_58 rfl rfl ?_
  refine gg_new dc_A_init_59 nw_A_18 ⟨Nat.le_of_ble_eq_true rfl, Nat.le_of_ble_eq_true rfl⟩ ?_
  refine gg_dup dc_A_init_62 rfl ?_
  refine gg_callI (As := []) (sp_P_init (by simp [va_up])) dc_A_init_63 ml_A_20 ce_P_init ⟨Nat.le_of_ble_eq_true rfl, Nat.le_of_ble_eq_true rfl⟩ rfl (Nat.le_of_ble_eq_true rfl) ⟨Nat.le_of_ble_eq_true rfl, Nat.le_of_ble_eq_true rfl⟩ ?_
  rintro v9 μ9 ⟨sh2, ν2, rfl, rfl, hp2, hn2, hk2⟩
  dsimp only [Option.toList, List.nil_append]
  have e20 : sh2 a = .inr (.inr (0, [some (some (a + 1)), some (some (a + 2)), some (some (a + 3)), some none, some none, none, none, none, none, none, none, none, none, none])) := by rw [(hk2 a (by omega)).1]; simp [va_up, e10, Nat.add_assoc]
  have e21 : sh2 (a + 1) = .inl (0, 6) := by rw [(hk2 (a + 1) (by omega)).1]; simp [va_up, e11, Nat.add_assoc]
  have e22 : sh2 (a + 2) = .inl (0, 6) := by rw [(hk2 (a + 2) (by omega)).1]; simp [va_up, e12, Nat.add_assoc]
  have m20 : ∀ j : Nat, ν2 a j = 0 := by intro j; rw [(hk2 a (by omega)).2]; simp [va_up, up_2, m10, Nat.add_assoc]
  have m21 : ν2 (a + 1) = I0_S := by rw [(hk2 (a + 1) (by omega)).2]; funext j; simp [va_up, up_2, m11, Nat.add_assoc]
  have m22 : ∀ j : Nat, ν2 (a + 2) j = 0 := by intro j; rw [(hk2 (a + 2) (by omega)).2]; simp [va_up, up_2, m12, Nat.add_assoc]
  have hq2 : sh_Pt sh2 (a + 3) := sh_Pt.cg (q := a + 3) hp1 (fun c h1 h2 => by rw [(hk2 c (by omega)).1]; simp [va_up, show c ≠ a by omega, show c ≠ a + 6 by omega, show c ≠ a + 9 by omega, Nat.add_assoc])
  have g2 : ν2 (a + 3) 2 = 0 := by rw [(hk2 (a + 3) (by omega)).2]; simp [va_up, Nat.add_assoc]; exact hn1
  have f2 : ∀ c : Nat, c < a → sh2 c = sh c ∧ ν2 c = ν c := fun c hc => ⟨by rw [(hk2 c (by omega)).1]; simp [va_up, show c ≠ a by omega, show c ≠ a + 1 by omega, show c ≠ a + 2 by omega, show c ≠ a + 3 by omega, show c ≠ a + 6 by omega, show c ≠ a + 9 by omega, Nat.add_assoc, (f1 c hc).1], by rw [(hk2 c (by omega)).2]; funext j; simp [va_up, up_2, show c ≠ a by omega, show c ≠ a + 1 by omega, show c ≠ a + 2 by omega, show c ≠ a + 3 by omega, show c ≠ a + 6 by omega, show c ≠ a + 9 by omega, Nat.add_assoc, (f1 c hc).2]⟩
  refine gg_putr dc_A_init_66 rfl lr_A_25 (e20) (Nat.le_of_ble_eq_true rfl) ?_
  refine gg_aldn dc_A_init_69 rfl rfl ?_
  refine gg_new dc_A_init_70 nw_A_28 ⟨Nat.le_of_ble_eq_true rfl, Nat.le_of_ble_eq_true rfl⟩ ?_
  refine gg_dup dc_A_init_73 rfl ?_
  refine gg_callI (As := []) (sp_C_init (by simp [va_up])) dc_A_init_74 ml_A_30 ce_C_init ⟨Nat.le_of_ble_eq_true rfl, Nat.le_of_ble_eq_true rfl⟩ rfl (Nat.le_of_ble_eq_true rfl) ⟨Nat.le_of_ble_eq_true rfl, Nat.le_of_ble_eq_true rfl⟩ ?_
  rintro v9 μ9 ⟨sh3, ν3, rfl, rfl, hp3, hn3, hk3⟩
  dsimp only [Option.toList, List.nil_append]
  have e30 : sh3 a = .inr (.inr (0, [some (some (a + 1)), some (some (a + 2)), some (some (a + 3)), some (some (a + 6)), some none, none, none, none, none, none, none, none, none, none])) := by rw [(hk3 a (by omega)).1]; simp [va_up, e20, Nat.add_assoc]
  have e31 : sh3 (a + 1) = .inl (0, 6) := by rw [(hk3 (a + 1) (by omega)).1]; simp [va_up, e21, Nat.add_assoc]
  have e32 : sh3 (a + 2) = .inl (0, 6) := by rw [(hk3 (a + 2) (by omega)).1]; simp [va_up, e22, Nat.add_assoc]
  have m30 : ∀ j : Nat, ν3 a j = 0 := by intro j; rw [(hk3 a (by omega)).2]; simp [va_up, up_2, m20, Nat.add_assoc]
  have m31 : ν3 (a + 1) = I0_S := by rw [(hk3 (a + 1) (by omega)).2]; funext j; simp [va_up, up_2, m21, Nat.add_assoc]
  have m32 : ∀ j : Nat, ν3 (a + 2) j = 0 := by intro j; rw [(hk3 (a + 2) (by omega)).2]; simp [va_up, up_2, m22, Nat.add_assoc]
  have hq3 : sh_Pt sh3 (a + 3) := hq2.cg (fun c h1 h2 => by rw [(hk3 c (by omega)).1]; simp [va_up, show c ≠ a by omega, show c ≠ a + 6 by omega, show c ≠ a + 9 by omega, Nat.add_assoc])
  have g3 : ν3 (a + 3) 2 = 0 := by rw [(hk3 (a + 3) (by omega)).2]; simp [va_up, Nat.add_assoc]; exact g2
  have hr3 : sh_Pt sh3 (a + 6) := sh_Pt.cg (q := a + 6) hp2 (fun c h1 h2 => by rw [(hk3 c (by omega)).1]; simp [va_up, show c ≠ a by omega, show c ≠ a + 9 by omega, Nat.add_assoc])
  have g6 : ν3 (a + 6) 2 = 0 := by rw [(hk3 (a + 6) (by omega)).2]; simp [va_up, Nat.add_assoc]; exact hn2
  have f3 : ∀ c : Nat, c < a → sh3 c = sh c ∧ ν3 c = ν c := fun c hc => ⟨by rw [(hk3 c (by omega)).1]; simp [va_up, show c ≠ a by omega, show c ≠ a + 1 by omega, show c ≠ a + 2 by omega, show c ≠ a + 3 by omega, show c ≠ a + 6 by omega, show c ≠ a + 9 by omega, Nat.add_assoc, (f2 c hc).1], by rw [(hk3 c (by omega)).2]; funext j; simp [va_up, up_2, show c ≠ a by omega, show c ≠ a + 1 by omega, show c ≠ a + 2 by omega, show c ≠ a + 3 by omega, show c ≠ a + 6 by omega, show c ≠ a + 9 by omega, Nat.add_assoc, (f2 c hc).2]⟩
  refine gg_putr dc_A_init_77 rfl lr_A_31 (e30) (Nat.le_of_ble_eq_true rfl) ?_
  refine gg_vret dc_A_init_80 rfl ⟨Nat.le_of_ble_eq_true rfl, Nat.le_of_ble_eq_true rfl⟩ ?_
  refine ⟨_, _, rfl, rfl, ⟨by simp [va_up, Nat.add_assoc], by simp [va_up, e31, Nat.add_assoc], by simp [va_up, e32, Nat.add_assoc], hq3.cg (fun c h1 h2 => by simp [va_up, show c ≠ a by omega]), hr3.cg (fun c h1 h2 => by simp [va_up, show c ≠ a by omega]), sh_Cm.cg (q := a + 9) hp3 (fun c h1 h2 => by simp [va_up, show c ≠ a by omega])⟩, ⟨fun j hj => by rw [m31], fun j hj => by rw [m32, I0_z (by omega)], fun k h5 h14 => ?_, Or.inl (I0_z (by omega)), PR.z g3 (I0_z (by omega)), PR.z g6 (I0_z (by omega)), PR.z hn3 (I0_z (by omega))⟩, fun c hc => ⟨by simp [va_up, show c ≠ a by omega, (f3 c hc).1], (f3 c hc).2⟩⟩
  have hi := ax_ix_lt h5 h14
  rw [m30, I0_z (by omega)]
