set_option maxRecDepth 100000 in
set_option maxHeartbeats 4000000 in
theorem sp_F_setFlag {Γ : cx_T} {τ : Nat × (Nat → sh_T)} {ν : Nat → Nat → Int32} {f : Nat} {X : Nat → Nat → Int32} (hf : sh_F τ.2 f) (h : RL ν f X) {x y : Int32} {Q : Option Value → mm_T → Prop}  (hB : (in_I x (-20000) 20000 = 0 ∨ in_I y (-20000) 20000 = 0 ∨ y ≤ x) → Q (some (.int (-1000001))) (τ, ν)) (hN : ¬ in_I x (-20000) 20000 = 0 → ¬ in_I y (-20000) 20000 = 0 → x < y → ∀ ν' : Nat → Nat → Int32, RF ν f (va_up (nt_X X) 1 (upd (upd (upd (X 1) 18 1) 19 x) 20 y)) ν' → Q (some (.int (X 1 18))) (τ, ν')) : mt_P Γ mk_F_setFlag [.ref f, .int x, .int y] (τ, ν) (Q) := by
  refine mt_of (L := [some (.ref f), some (.int x), some (.int y), none]) (by decide +kernel) (by simp [Value.category]) (Nat.le_of_ble_eq_true rfl) (lc_3_4 ()) ?_
  obtain ⟨f0, hx, hy, ⟨g, hg, hgi⟩, him, hv, ht⟩ := id hf
  have hX := h.1
  refine gg_ildn dc_F_setFlag_0 rfl rfl ?_
  refine gg_okS (sp_F_isPlace) dc_F_setFlag_1 ml_F_58 ce_F_isPlace ⟨Nat.le_of_ble_eq_true rfl, Nat.le_of_ble_eq_true rfl⟩ rfl (Nat.le_of_ble_eq_true rfl) ⟨rfl, rfl⟩ ⟨Nat.le_of_ble_eq_true rfl, Nat.le_of_ble_eq_true rfl⟩ ?_
  refine gg_ifeq dc_F_setFlag_4 (fun c_4 => ?_) (fun c_4 => ?_)
  · refine gg_ldc dc_F_setFlag_19 lk_F_45 ?_
    exact gg_iret dc_F_setFlag_21 rfl ⟨Nat.le_of_ble_eq_true rfl, Nat.le_of_ble_eq_true rfl⟩ ((hB (Or.inl c_4)))
  · refine gg_ildn dc_F_setFlag_7 rfl rfl ?_
    refine gg_okS (sp_F_isPlace) dc_F_setFlag_8 ml_F_58 ce_F_isPlace ⟨Nat.le_of_ble_eq_true rfl, Nat.le_of_ble_eq_true rfl⟩ rfl (Nat.le_of_ble_eq_true rfl) ⟨rfl, rfl⟩ ⟨Nat.le_of_ble_eq_true rfl, Nat.le_of_ble_eq_true rfl⟩ ?_
    refine gg_ifeq dc_F_setFlag_11 (fun c_11 => ?_) (fun c_11 => ?_)
    · refine gg_ldc dc_F_setFlag_19 lk_F_45 ?_
      exact gg_iret dc_F_setFlag_21 rfl ⟨Nat.le_of_ble_eq_true rfl, Nat.le_of_ble_eq_true rfl⟩ ((hB (Or.inr (Or.inl c_11))))
    · refine gg_ildn dc_F_setFlag_14 rfl rfl ?_
      refine gg_ildn dc_F_setFlag_15 rfl rfl ?_
      refine gg_icgt dc_F_setFlag_16 (fun c_16 => ?_) (fun c_16 => ?_)
      · refine gg_aldn dc_F_setFlag_22 rfl rfl ?_
        refine gg_getr dc_F_setFlag_23 lf_F_10 f0 rfl ?_
        refine gx_axi (k := 5) (s := 18) dc_F_setFlag_26 lf_F_73 hx.1 hX rfl ⟨Nat.le_of_ble_eq_true rfl, Nat.le_of_ble_eq_true rfl⟩ rfl ?_
        refine gg_ifeq dc_F_setFlag_29 (fun c_29 => ?_) (fun c_29 => ?_)
        · refine gg_iconst (v := 0) dc_F_setFlag_36 (by decide) ?_
          have hX0 : X 1 18 = 0 ∨ X 1 18 = 1 := hX.2.2.2.1
          refine gg_istn (i := 3) dc_F_setFlag_37 rfl (Nat.le_of_ble_eq_true rfl) rfl ?_
          dsimp only [List.set]
          refine gg_aldn dc_F_setFlag_38 rfl rfl ?_
          refine gg_getr dc_F_setFlag_39 lf_F_30 f0 rfl ?_
          refine gg_aldn dc_F_setFlag_42 rfl rfl ?_
          refine gg_getr dc_F_setFlag_43 lf_F_10 f0 rfl ?_
          refine gg_callV (sp_F_push hf (RF.id h)) dc_F_setFlag_46 ml_F_50 ce_S_push ⟨Nat.le_of_ble_eq_true rfl, Nat.le_of_ble_eq_true rfl⟩ hv.1 rfl rfl (Nat.le_of_ble_eq_true rfl) ⟨Nat.le_of_ble_eq_true rfl, Nat.le_of_ble_eq_true rfl⟩ ?_
          rintro v μ9 ⟨ν2, rfl, rfl, h2, hk2⟩
          dsimp only [Option.toList, List.cons_append, List.nil_append]
          have hX : AX ν2 (f + 1) (X 1) := by
            have := h2.ax
            rw [nt_o (by omega) (by omega)] at this
            exact this
          refine gg_aldn dc_F_setFlag_49 rfl rfl ?_
          refine gg_getr dc_F_setFlag_50 lf_F_10 f0 rfl ?_
          refine gg_ildn dc_F_setFlag_53 rfl rfl ?_
          refine gg_ildn dc_F_setFlag_54 rfl rfl ?_
          refine gg_callV (sp_A_placeFlag hx hX) dc_F_setFlag_55 ml_F_77 ce_A_placeFlag ⟨Nat.le_of_ble_eq_true rfl, Nat.le_of_ble_eq_true rfl⟩ hx.1 rfl rfl (Nat.le_of_ble_eq_true rfl) ⟨Nat.le_of_ble_eq_true rfl, Nat.le_of_ble_eq_true rfl⟩ ?_
          rintro v μ9 ⟨ν3, rfl, rfl, hX3, hF3⟩
          dsimp only [Option.toList, List.cons_append, List.nil_append]
          have h3 := h2.row hX3 hF3
          refine gg_ildn dc_F_setFlag_58 rfl rfl ?_
          exact gg_iret dc_F_setFlag_59 rfl ⟨Nat.le_of_ble_eq_true rfl, Nat.le_of_ble_eq_true rfl⟩ ((by have z := hN c_4 c_11 c_16 ν3 h3; rw [c_29] at z; exact z))
        · refine gg_iconst (v := 1) dc_F_setFlag_32 (by decide) ?_
          refine gg_goto dc_F_setFlag_33 ?_
          have hX0 : X 1 18 = 0 ∨ X 1 18 = 1 := hX.2.2.2.1
          refine gg_istn (i := 3) dc_F_setFlag_37 rfl (Nat.le_of_ble_eq_true rfl) rfl ?_
          dsimp only [List.set]
          refine gg_aldn dc_F_setFlag_38 rfl rfl ?_
          refine gg_getr dc_F_setFlag_39 lf_F_30 f0 rfl ?_
          refine gg_aldn dc_F_setFlag_42 rfl rfl ?_
          refine gg_getr dc_F_setFlag_43 lf_F_10 f0 rfl ?_
          refine gg_callV (sp_F_push hf (RF.id h)) dc_F_setFlag_46 ml_F_50 ce_S_push ⟨Nat.le_of_ble_eq_true rfl, Nat.le_of_ble_eq_true rfl⟩ hv.1 rfl rfl (Nat.le_of_ble_eq_true rfl) ⟨Nat.le_of_ble_eq_true rfl, Nat.le_of_ble_eq_true rfl⟩ ?_
          rintro v μ9 ⟨ν2, rfl, rfl, h2, hk2⟩
          dsimp only [Option.toList, List.cons_append, List.nil_append]
          have hX : AX ν2 (f + 1) (X 1) := by
            have := h2.ax
            rw [nt_o (by omega) (by omega)] at this
            exact this
          refine gg_aldn dc_F_setFlag_49 rfl rfl ?_
          refine gg_getr dc_F_setFlag_50 lf_F_10 f0 rfl ?_
          refine gg_ildn dc_F_setFlag_53 rfl rfl ?_
          refine gg_ildn dc_F_setFlag_54 rfl rfl ?_
          refine gg_callV (sp_A_placeFlag hx hX) dc_F_setFlag_55 ml_F_77 ce_A_placeFlag ⟨Nat.le_of_ble_eq_true rfl, Nat.le_of_ble_eq_true rfl⟩ hx.1 rfl rfl (Nat.le_of_ble_eq_true rfl) ⟨Nat.le_of_ble_eq_true rfl, Nat.le_of_ble_eq_true rfl⟩ ?_
          rintro v μ9 ⟨ν3, rfl, rfl, hX3, hF3⟩
          dsimp only [Option.toList, List.cons_append, List.nil_append]
          have h3 := h2.row hX3 hF3
          refine gg_ildn dc_F_setFlag_58 rfl rfl ?_
          exact gg_iret dc_F_setFlag_59 rfl ⟨Nat.le_of_ble_eq_true rfl, Nat.le_of_ble_eq_true rfl⟩ ((by have z := hN c_4 c_11 c_16 ν3 h3; rw [hX0.resolve_left c_29] at z; exact z))
      · refine gg_ldc dc_F_setFlag_19 lk_F_45 ?_
        exact gg_iret dc_F_setFlag_21 rfl ⟨Nat.le_of_ble_eq_true rfl, Nat.le_of_ble_eq_true rfl⟩ ((hB (Or.inr (Or.inr (Int32.not_lt.mp c_16)))))
set_option maxRecDepth 100000 in
set_option maxHeartbeats 4000000 in
theorem sp_F_moveTo {Γ : cx_T} {τ : Nat × (Nat → sh_T)} {ν : Nat → Nat → Int32} {f : Nat} {X : Nat → Nat → Int32} (hf : sh_F τ.2 f) (h : RL ν f X) {x : Int32} {Q : Option Value → mm_T → Prop}  (hB : in_I x (-20000) 20000 = 0 → Q (some (.int (-1000001))) (τ, ν)) (hI : ¬ in_I x (-20000) 20000 = 0 → in_I (ai_S (X 1) x) (-20000) 20000 = 0 → Q (some (.int (-1000002))) (τ, ν)) (hN : ¬ in_I x (-20000) 20000 = 0 → ¬ in_I (ai_S (X 1) x) (-20000) 20000 = 0 → ∀ ν' : Nat → Nat → Int32, RF ν f (va_up (nt_X X) 1 ((tv_S (X 1) x).1)) ν' → Q (some (.int ((tv_S (X 1) x).1 10 - X 1 10))) (τ, ν')) : mt_P Γ mk_F_moveTo [.ref f, .int x] (τ, ν) (Q) := by
  refine mt_of (L := [some (.ref f), some (.int x), none]) (by decide +kernel) (by simp [Value.category]) (Nat.le_of_ble_eq_true rfl) (lc_2_3 ()) ?_
  obtain ⟨f0, hx, hy, ⟨g, hg, hgi⟩, him, hv, ht⟩ := id hf
  have hX := h.1
  refine gg_ildn dc_F_moveTo_0 rfl rfl ?_
  refine gg_okS (sp_F_isPlace) dc_F_moveTo_1 ml_F_58 ce_F_isPlace ⟨Nat.le_of_ble_eq_true rfl, Nat.le_of_ble_eq_true rfl⟩ rfl (Nat.le_of_ble_eq_true rfl) ⟨rfl, rfl⟩ ⟨Nat.le_of_ble_eq_true rfl, Nat.le_of_ble_eq_true rfl⟩ ?_
  refine gg_ifne dc_F_moveTo_4 (fun c_4 => ?_) (fun c_4 => ?_)
  · refine gg_aldn dc_F_moveTo_10 rfl rfl ?_
    refine gg_getr dc_F_moveTo_11 lf_F_10 f0 rfl ?_
    refine gg_ildn dc_F_moveTo_14 rfl rfl ?_
    refine gg_okV (sp_A_refuses hx hX) dc_F_moveTo_15 ml_F_97 ce_A_refuses ⟨Nat.le_of_ble_eq_true rfl, Nat.le_of_ble_eq_true rfl⟩ hx.1 rfl rfl (Nat.le_of_ble_eq_true rfl) ⟨rfl, rfl⟩ ⟨Nat.le_of_ble_eq_true rfl, Nat.le_of_ble_eq_true rfl⟩ ?_
    refine gg_ifeq dc_F_moveTo_18 (fun c_18 => ?_) (fun c_18 => ?_)
    · refine gg_aldn dc_F_moveTo_24 rfl rfl ?_
      refine gg_getr dc_F_moveTo_25 lf_F_10 f0 rfl ?_
      refine gx_axi (k := 12) (s := 10) dc_F_moveTo_28 lf_F_101 hx.1 hX rfl ⟨Nat.le_of_ble_eq_true rfl, Nat.le_of_ble_eq_true rfl⟩ rfl ?_
      refine gg_istn (i := 2) dc_F_moveTo_31 rfl (Nat.le_of_ble_eq_true rfl) rfl ?_
      dsimp only [List.set]
      refine gg_aldn dc_F_moveTo_32 rfl rfl ?_
      refine gg_getr dc_F_moveTo_33 lf_F_30 f0 rfl ?_
      refine gg_aldn dc_F_moveTo_36 rfl rfl ?_
      refine gg_getr dc_F_moveTo_37 lf_F_10 f0 rfl ?_
      refine gg_callV (sp_F_push hf (RF.id h)) dc_F_moveTo_40 ml_F_50 ce_S_push ⟨Nat.le_of_ble_eq_true rfl, Nat.le_of_ble_eq_true rfl⟩ hv.1 rfl rfl (Nat.le_of_ble_eq_true rfl) ⟨Nat.le_of_ble_eq_true rfl, Nat.le_of_ble_eq_true rfl⟩ ?_
      rintro v μ9 ⟨ν2, rfl, rfl, h2, hk2⟩
      dsimp only [Option.toList, List.cons_append, List.nil_append]
      have hX : AX ν2 (f + 1) (X 1) := by
        have := h2.ax
        rw [nt_o (by omega) (by omega)] at this
        exact this
      refine gg_aldn dc_F_moveTo_43 rfl rfl ?_
      refine gg_getr dc_F_moveTo_44 lf_F_10 f0 rfl ?_
      refine gg_ildn dc_F_moveTo_47 rfl rfl ?_
      refine gg_callV (sp_A_travel hx hX) dc_F_moveTo_48 ml_F_104 ce_A_travel ⟨Nat.le_of_ble_eq_true rfl, Nat.le_of_ble_eq_true rfl⟩ hx.1 rfl rfl (Nat.le_of_ble_eq_true rfl) ⟨Nat.le_of_ble_eq_true rfl, Nat.le_of_ble_eq_true rfl⟩ ?_
      rintro v μ9 ⟨ν3, rfl, rfl, hX3, hF3⟩
      dsimp only [Option.toList, List.cons_append, List.nil_append]
      have h3 := h2.row hX3 hF3
      refine gg_pop dc_F_moveTo_51 rfl ?_
      replace hX := hX3
      refine gg_aldn dc_F_moveTo_52 rfl rfl ?_
      refine gg_getr dc_F_moveTo_53 lf_F_10 f0 rfl ?_
      refine gx_axi (k := 12) (s := 10) dc_F_moveTo_56 lf_F_101 hx.1 hX rfl ⟨Nat.le_of_ble_eq_true rfl, Nat.le_of_ble_eq_true rfl⟩ rfl ?_
      refine gg_ildn dc_F_moveTo_59 rfl rfl ?_
      refine gg_isub dc_F_moveTo_60 ?_
      exact gg_iret dc_F_moveTo_61 rfl ⟨Nat.le_of_ble_eq_true rfl, Nat.le_of_ble_eq_true rfl⟩ ((hN c_4 (it_0 c_18) ν3 h3))
    · refine gg_ldc dc_F_moveTo_21 lk_F_100 ?_
      exact gg_iret dc_F_moveTo_23 rfl ⟨Nat.le_of_ble_eq_true rfl, Nat.le_of_ble_eq_true rfl⟩ ((hI c_4 (it_1 c_18)))
  · refine gg_ldc dc_F_moveTo_7 lk_F_45 ?_
    exact gg_iret dc_F_moveTo_9 rfl ⟨Nat.le_of_ble_eq_true rfl, Nat.le_of_ble_eq_true rfl⟩ ((hB (by first | exact c_4 | exact Classical.not_not.mp c_4)))
set_option maxRecDepth 100000 in
set_option maxHeartbeats 4000000 in
theorem sp_F_addCommand {Γ : cx_T} {τ : Nat × (Nat → sh_T)} {ν : Nat → Nat → Int32} {f : Nat} {X : Nat → Nat → Int32} (hf : sh_F τ.2 f) (h : RL ν f X) {x y : Int32} {Q : Option Value → mm_T → Prop}  (hB : (in_I x (-20000) 20000 = 0 ∨ in_I y 0 9 = 0) → Q (some (.int (-1000001))) (τ, ν)) (hC : ¬ in_I x (-20000) 20000 = 0 → ¬ in_I y 0 9 = 0 → ¬ ls_n (X 1) 63 < 8 → Q (some (.int (-1000003))) (τ, ν)) (hN : ¬ in_I x (-20000) 20000 = 0 → ¬ in_I y 0 9 = 0 → ls_n (X 1) 63 < 8 → ∀ ν' : Nat → Nat → Int32, RF ν f (va_up (nt_X X) 1 (ci_S (X 1) x y)) ν' → Q (some (.int (ci_S (X 1) x y 63))) (τ, ν')) : mt_P Γ mk_F_addCommand [.ref f, .int x, .int y] (τ, ν) (Q) := by
  refine mt_of (L := [some (.ref f), some (.int x), some (.int y)]) (by decide +kernel) (by simp [Value.category]) (Nat.le_of_ble_eq_true rfl) (lc_3_3 ()) ?_
  obtain ⟨f0, hx, hy, ⟨g, hg, hgi⟩, him, hv, ht⟩ := id hf
  have hX := h.1
  have hC63 := hX.2.2.2.2.2.2.n (by omega)
  refine gg_ildn dc_F_addCommand_0 rfl rfl ?_
  refine gg_okS (sp_F_isPlace) dc_F_addCommand_1 ml_F_58 ce_F_isPlace ⟨Nat.le_of_ble_eq_true rfl, Nat.le_of_ble_eq_true rfl⟩ rfl (Nat.le_of_ble_eq_true rfl) ⟨rfl, rfl⟩ ⟨Nat.le_of_ble_eq_true rfl, Nat.le_of_ble_eq_true rfl⟩ ?_
  refine gg_ifeq dc_F_addCommand_4 (fun c_4 => ?_) (fun c_4 => ?_)
  · refine gg_ldc dc_F_addCommand_17 lk_F_45 ?_
    exact gg_iret dc_F_addCommand_19 rfl ⟨Nat.le_of_ble_eq_true rfl, Nat.le_of_ble_eq_true rfl⟩ ((hB (Or.inl c_4)))
  · refine gg_ildn dc_F_addCommand_7 rfl rfl ?_
    refine gg_iflt dc_F_addCommand_8 (fun c_8 => ?_) (fun c_8 => ?_)
    · refine gg_ldc dc_F_addCommand_17 lk_F_45 ?_
      exact gg_iret dc_F_addCommand_19 rfl ⟨Nat.le_of_ble_eq_true rfl, Nat.le_of_ble_eq_true rfl⟩ ((hB (Or.inr (in_lo c_8))))
    · refine gg_ildn dc_F_addCommand_11 rfl rfl ?_
      refine gg_bipush (v := 9) dc_F_addCommand_12 (by decide) ?_
      refine gg_icle dc_F_addCommand_14 (fun c_14 => ?_) (fun c_14 => ?_)
      · refine gg_aldn dc_F_addCommand_20 rfl rfl ?_
        refine gg_getr dc_F_addCommand_21 lf_F_10 f0 rfl ?_
        refine gg_getr dc_F_addCommand_24 lf_F_107 hx.1 rfl ?_
        refine gg_okU (sp_C_isFull hx.2.2.2.2.2 hC63.2.1 hC63.1) dc_F_addCommand_27 ml_F_111 ce_Q_isFull_C ⟨Nat.le_of_ble_eq_true rfl, Nat.le_of_ble_eq_true rfl⟩ hx.2.2.2.2.2.1 rfl rfl (Nat.le_of_ble_eq_true rfl) ⟨rfl, rfl⟩ ⟨Nat.le_of_ble_eq_true rfl, Nat.le_of_ble_eq_true rfl⟩ ?_
        refine gg_ifeq dc_F_addCommand_30 (fun c_30 => ?_) (fun c_30 => ?_)
        · have h8 : ls_n (X 1) 63 < 8 := Classical.not_not.mp fun z => by rw [if_neg z] at c_30; exact absurd c_30 (by decide)
          refine gg_aldn dc_F_addCommand_36 rfl rfl ?_
          refine gg_getr dc_F_addCommand_37 lf_F_30 f0 rfl ?_
          refine gg_aldn dc_F_addCommand_40 rfl rfl ?_
          refine gg_getr dc_F_addCommand_41 lf_F_10 f0 rfl ?_
          refine gg_callV (sp_F_push hf (RF.id h)) dc_F_addCommand_44 ml_F_50 ce_S_push ⟨Nat.le_of_ble_eq_true rfl, Nat.le_of_ble_eq_true rfl⟩ hv.1 rfl rfl (Nat.le_of_ble_eq_true rfl) ⟨Nat.le_of_ble_eq_true rfl, Nat.le_of_ble_eq_true rfl⟩ ?_
          rintro v μ9 ⟨ν2, rfl, rfl, h2, hk2⟩
          dsimp only [Option.toList, List.cons_append, List.nil_append]
          have hX : AX ν2 (f + 1) (X 1) := by
            have := h2.ax
            rw [nt_o (by omega) (by omega)] at this
            exact this
          refine gg_aldn dc_F_addCommand_47 rfl rfl ?_
          refine gg_getr dc_F_addCommand_48 lf_F_10 f0 rfl ?_
          refine gg_getr dc_F_addCommand_51 lf_F_107 hx.1 rfl ?_
          refine gg_ildn dc_F_addCommand_54 rfl rfl ?_
          refine gg_ildn dc_F_addCommand_55 rfl rfl ?_
          refine gg_callV (sp_C_insR hx.2.2.2.2.2 hX.2.2.2.2.2.2 h8) dc_F_addCommand_56 ml_F_117 ce_C_insert ⟨Nat.le_of_ble_eq_true rfl, Nat.le_of_ble_eq_true rfl⟩ hx.2.2.2.2.2.1 rfl rfl (Nat.le_of_ble_eq_true rfl) ⟨Nat.le_of_ble_eq_true rfl, Nat.le_of_ble_eq_true rfl⟩ ?_
          rintro v μ9 ⟨ν3, rfl, rfl, hR3, ho3⟩
          dsimp only [Option.toList, List.cons_append, List.nil_append]
          have hX3 := hX.cm hR3 ho3 (fun j hj => rw_o (by omega))
          have h3 := h2.row hX3 (fr_pt ho3 (by omega))
          refine gg_aldn dc_F_addCommand_59 rfl rfl ?_
          refine gg_getr dc_F_addCommand_60 lf_F_10 f0 rfl ?_
          refine gg_getr dc_F_addCommand_63 lf_F_107 hx.1 rfl ?_
          refine gx_geti dc_F_addCommand_66 lf_F_120 hx.2.2.2.2.2.1 rfl ?_
          refine gx_top (hR3.c) ?_
          exact gg_iret dc_F_addCommand_69 rfl ⟨Nat.le_of_ble_eq_true rfl, Nat.le_of_ble_eq_true rfl⟩ ((hN c_4 (in_no c_8 (Int32.not_lt.mpr c_14)) h8 ν3 h3))
        · refine gg_ldc dc_F_addCommand_33 lk_F_83 ?_
          exact gg_iret dc_F_addCommand_35 rfl ⟨Nat.le_of_ble_eq_true rfl, Nat.le_of_ble_eq_true rfl⟩ ((hC c_4 (in_no c_8 (Int32.not_lt.mpr c_14)) (fun z => c_30 (by rw [if_pos z]))))
      · refine gg_ldc dc_F_addCommand_17 lk_F_45 ?_
        exact gg_iret dc_F_addCommand_19 rfl ⟨Nat.le_of_ble_eq_true rfl, Nat.le_of_ble_eq_true rfl⟩ ((hB (Or.inr (in_hi (Int32.not_le.mp c_14)))))
set_option maxRecDepth 100000 in
set_option maxHeartbeats 4000000 in
theorem sp_F_correct {Γ : cx_T} {τ : Nat × (Nat → sh_T)} {ν : Nat → Nat → Int32} {f : Nat} {X : Nat → Nat → Int32} (hf : sh_F τ.2 f) (h : RL ν f X) {x : Int32} {Q : Option Value → mm_T → Prop}  (hB : in_I x (-9999) 9999 = 0 → Q (some (.int (-1000001))) (τ, ν)) (hI : ¬ in_I x (-9999) 9999 = 0 → in_I (X 1 6 - x) (-99999) 99999 = 0 → Q (some (.int (-1000002))) (τ, ν)) (hN : ¬ in_I x (-9999) 9999 = 0 → ¬ in_I (X 1 6 - x) (-99999) 99999 = 0 → ∀ ν' : Nat → Nat → Int32, RF ν f (va_up (nt_X X) 1 (upd (upd (X 1) 6 (X 1 6 - x)) 11 (X 1 11 - x))) ν' → Q (some (.int (X 1 6 - x))) (τ, ν')) : mt_P Γ mk_F_correct [.ref f, .int x] (τ, ν) (Q) := by
  refine mt_of (L := [some (.ref f), some (.int x), none]) (by decide +kernel) (by simp [Value.category]) (Nat.le_of_ble_eq_true rfl) (lc_2_3 ()) ?_
  obtain ⟨f0, hx, hy, ⟨g, hg, hgi⟩, him, hv, ht⟩ := id hf
  have hX := h.1
  refine gg_ildn dc_F_correct_0 rfl rfl ?_
  refine gg_sipush (v := (-9999)) dc_F_correct_1 (by decide) ?_
  refine gg_iclt dc_F_correct_4 (fun c_4 => ?_) (fun c_4 => ?_)
  · refine gg_ldc dc_F_correct_14 lk_F_45 ?_
    exact gg_iret dc_F_correct_16 rfl ⟨Nat.le_of_ble_eq_true rfl, Nat.le_of_ble_eq_true rfl⟩ ((hB (in_lo c_4)))
  · refine gg_ildn dc_F_correct_7 rfl rfl ?_
    refine gg_sipush (v := 9999) dc_F_correct_8 (by decide) ?_
    refine gg_icle dc_F_correct_11 (fun c_11 => ?_) (fun c_11 => ?_)
    · refine gg_aldn dc_F_correct_17 rfl rfl ?_
      refine gg_getr dc_F_correct_18 lf_F_10 f0 rfl ?_
      refine gx_axi (k := 8) (s := 6) dc_F_correct_21 lf_F_136 hx.1 hX rfl ⟨Nat.le_of_ble_eq_true rfl, Nat.le_of_ble_eq_true rfl⟩ rfl ?_
      refine gg_ildn dc_F_correct_24 rfl rfl ?_
      refine gg_isub dc_F_correct_25 ?_
      refine gg_istn (i := 2) dc_F_correct_26 rfl (Nat.le_of_ble_eq_true rfl) rfl ?_
      dsimp only [List.set]
      refine gg_ildn dc_F_correct_27 rfl rfl ?_
      refine gg_ldc dc_F_correct_28 lk_F_143 ?_
      refine gg_iclt dc_F_correct_30 (fun c_30 => ?_) (fun c_30 => ?_)
      · refine gg_ldc dc_F_correct_39 lk_F_100 ?_
        exact gg_iret dc_F_correct_41 rfl ⟨Nat.le_of_ble_eq_true rfl, Nat.le_of_ble_eq_true rfl⟩ ((hI (in_no c_4 (Int32.not_lt.mpr c_11)) (in_lo c_30)))
      · refine gg_ildn dc_F_correct_33 rfl rfl ?_
        refine gg_ldc dc_F_correct_34 lk_F_144 ?_
        refine gg_icle dc_F_correct_36 (fun c_36 => ?_) (fun c_36 => ?_)
        · refine gg_aldn dc_F_correct_42 rfl rfl ?_
          refine gg_getr dc_F_correct_43 lf_F_30 f0 rfl ?_
          refine gg_aldn dc_F_correct_46 rfl rfl ?_
          refine gg_getr dc_F_correct_47 lf_F_10 f0 rfl ?_
          refine gg_callV (sp_F_push hf (RF.id h)) dc_F_correct_50 ml_F_50 ce_S_push ⟨Nat.le_of_ble_eq_true rfl, Nat.le_of_ble_eq_true rfl⟩ hv.1 rfl rfl (Nat.le_of_ble_eq_true rfl) ⟨Nat.le_of_ble_eq_true rfl, Nat.le_of_ble_eq_true rfl⟩ ?_
          rintro v μ9 ⟨ν2, rfl, rfl, h2, hk2⟩
          dsimp only [Option.toList, List.cons_append, List.nil_append]
          have hX : AX ν2 (f + 1) (X 1) := by
            have := h2.ax
            rw [nt_o (by omega) (by omega)] at this
            exact this
          refine gg_aldn dc_F_correct_53 rfl rfl ?_
          refine gg_getr dc_F_correct_54 lf_F_10 f0 rfl ?_
          refine gg_ildn dc_F_correct_57 rfl rfl ?_
          refine gg_ineg dc_F_correct_58 ?_
          refine gg_callV (sp_A_moveCounterAlone hx hX) dc_F_correct_59 ml_F_139 ce_A_moveCounterAlone ⟨Nat.le_of_ble_eq_true rfl, Nat.le_of_ble_eq_true rfl⟩ hx.1 rfl rfl (Nat.le_of_ble_eq_true rfl) ⟨Nat.le_of_ble_eq_true rfl, Nat.le_of_ble_eq_true rfl⟩ ?_
          rintro v μ9 ⟨ν3, rfl, rfl, hX3, hF3⟩
          dsimp only [Option.toList, List.cons_append, List.nil_append]
          have er : upd (upd (X 1) 6 (X 1 6 + -x)) 11 (X 1 11 + -x) = upd (upd (X 1) 6 (X 1 6 - x)) 11 (X 1 11 - x) := by rw [← Int32.sub_eq_add_neg, ← Int32.sub_eq_add_neg]
          rw [er] at hX3
          have h3 := h2.row hX3 hF3
          replace hX := hX3
          refine gg_aldn dc_F_correct_62 rfl rfl ?_
          refine gg_getr dc_F_correct_63 lf_F_10 f0 rfl ?_
          refine gx_axi (k := 8) (s := 6) dc_F_correct_66 lf_F_136 hx.1 hX rfl ⟨Nat.le_of_ble_eq_true rfl, Nat.le_of_ble_eq_true rfl⟩ rfl ?_
          exact gg_iret dc_F_correct_69 rfl ⟨Nat.le_of_ble_eq_true rfl, Nat.le_of_ble_eq_true rfl⟩ ((hN (in_no c_4 (Int32.not_lt.mpr c_11)) (in_no c_30 (Int32.not_lt.mpr c_36)) ν3 h3))
        · refine gg_ldc dc_F_correct_39 lk_F_100 ?_
          exact gg_iret dc_F_correct_41 rfl ⟨Nat.le_of_ble_eq_true rfl, Nat.le_of_ble_eq_true rfl⟩ ((hI (in_no c_4 (Int32.not_lt.mpr c_11)) (in_hi (Int32.not_le.mp c_36))))
    · refine gg_ldc dc_F_correct_14 lk_F_45 ?_
      exact gg_iret dc_F_correct_16 rfl ⟨Nat.le_of_ble_eq_true rfl, Nat.le_of_ble_eq_true rfl⟩ ((hB (in_hi (Int32.not_le.mp c_11))))
