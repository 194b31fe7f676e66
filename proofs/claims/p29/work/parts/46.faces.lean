set_option maxRecDepth 100000 in
set_option maxHeartbeats 4000000 in
theorem sp_F_setNumber {Γ : cx_T} {τ : Nat × (Nat → sh_T)} {ν : Nat → Nat → Int32} {f : Nat} {X : Nat → Nat → Int32} (hf : sh_F τ.2 f) (h : RL ν f X) {i x : Int32} {Q : Option Value → mm_T → Prop} (hs : st_P Γ τ ν) (hB : nm_I i x = 0 → Q (some (.int (-1000001))) (τ, ν)) (hN : ∀ k : Nat, k < 6 → i = nI k → ¬ nm_I i x = 0 → ∀ ν' : Nat → Nat → Int32, RF ν f (va_up (nt_X X) 1 (upd (X 1) k x)) ν' → Q (some (.int (X 1 k))) (τ, ν')) : mt_P Γ mk_F_setNumber [.ref f, .int i, .int x] (τ, ν) (Q) := by
  refine mt_of (L := [some (.ref f), some (.int i), some (.int x), none]) (by decide +kernel) (by simp [Value.category]) (Nat.le_of_ble_eq_true rfl) (lc_3_4 ()) ?_
  obtain ⟨f0, hx, hy, ⟨g, hg, hgi⟩, him, hv, ht⟩ := id hf
  have hX := h.1
  refine gg_ildn dc_F_setNumber_0 rfl rfl ?_
  refine gg_ildn dc_F_setNumber_1 rfl rfl ?_
  refine gg_okS (sp_A_isNumberInRange hs) dc_F_setNumber_2 ml_F_41 ce_A_isNumberInRange ⟨Nat.le_of_ble_eq_true rfl, Nat.le_of_ble_eq_true rfl⟩ rfl (Nat.le_of_ble_eq_true rfl) ⟨rfl, rfl⟩ ⟨Nat.le_of_ble_eq_true rfl, Nat.le_of_ble_eq_true rfl⟩ ?_
  refine gg_ifne dc_F_setNumber_5 (fun c_5 => ?_) (fun c_5 => ?_)
  · obtain ⟨k, hk, rfl⟩ := nm_ok (i := i) (x := x) (by rw [← nv_nm]; exact c_5)
    refine gg_aldn dc_F_setNumber_11 rfl rfl ?_
    refine gg_getr dc_F_setNumber_12 lf_F_10 f0 rfl ?_
    refine gg_ildn dc_F_setNumber_15 rfl rfl ?_
    refine gg_okV (sp_A_number hx hX rfl hk) dc_F_setNumber_16 ml_F_46 ce_A_number ⟨Nat.le_of_ble_eq_true rfl, Nat.le_of_ble_eq_true rfl⟩ hx.1 rfl rfl (Nat.le_of_ble_eq_true rfl) ⟨rfl, rfl⟩ ⟨Nat.le_of_ble_eq_true rfl, Nat.le_of_ble_eq_true rfl⟩ ?_
    refine gg_istn (i := 3) dc_F_setNumber_19 rfl (Nat.le_of_ble_eq_true rfl) rfl ?_
    dsimp only [List.set]
    refine gg_aldn dc_F_setNumber_20 rfl rfl ?_
    refine gg_getr dc_F_setNumber_21 lf_F_30 f0 rfl ?_
    refine gg_aldn dc_F_setNumber_24 rfl rfl ?_
    refine gg_getr dc_F_setNumber_25 lf_F_10 f0 rfl ?_
    refine gg_callV (sp_F_push hf (RF.id h)) dc_F_setNumber_28 ml_F_50 ce_S_push ⟨Nat.le_of_ble_eq_true rfl, Nat.le_of_ble_eq_true rfl⟩ hv.1 rfl rfl (Nat.le_of_ble_eq_true rfl) ⟨Nat.le_of_ble_eq_true rfl, Nat.le_of_ble_eq_true rfl⟩ ?_
    rintro v μ9 ⟨ν2, rfl, rfl, h2, hk2⟩
    dsimp only [Option.toList, List.cons_append, List.nil_append]
    have hX : AX ν2 (f + 1) (X 1) := by
      have := h2.ax
      rw [nt_o (by omega) (by omega)] at this
      exact this
    refine gg_aldn dc_F_setNumber_31 rfl rfl ?_
    refine gg_getr dc_F_setNumber_32 lf_F_10 f0 rfl ?_
    refine gg_ildn dc_F_setNumber_35 rfl rfl ?_
    refine gg_ildn dc_F_setNumber_36 rfl rfl ?_
    refine gg_callV (sp_A_changeNumber hx hX rfl hk) dc_F_setNumber_37 ml_F_54 ce_A_changeNumber ⟨Nat.le_of_ble_eq_true rfl, Nat.le_of_ble_eq_true rfl⟩ hx.1 rfl rfl (Nat.le_of_ble_eq_true rfl) ⟨Nat.le_of_ble_eq_true rfl, Nat.le_of_ble_eq_true rfl⟩ ?_
    rintro v μ9 ⟨ν3, rfl, rfl, hX3, hF3⟩
    dsimp only [Option.toList, List.cons_append, List.nil_append]
    have h3 := h2.row hX3 hF3
    refine gg_ildn dc_F_setNumber_40 rfl rfl ?_
    exact gg_iret dc_F_setNumber_41 rfl ⟨Nat.le_of_ble_eq_true rfl, Nat.le_of_ble_eq_true rfl⟩ ((hN k hk rfl (by rw [← nv_nm]; exact c_5) ν3 h3))
  · refine gg_ldc dc_F_setNumber_8 lk_F_45 ?_
    exact gg_iret dc_F_setNumber_10 rfl ⟨Nat.le_of_ble_eq_true rfl, Nat.le_of_ble_eq_true rfl⟩ ((hB (by rw [← nv_nm]; exact c_5)))
set_option maxRecDepth 100000 in
set_option maxHeartbeats 4000000 in
theorem sp_F_setPointL {Γ : cx_T} {τ : Nat × (Nat → sh_T)} {ν : Nat → Nat → Int32} {f : Nat} {X : Nat → Nat → Int32} (hf : sh_F τ.2 f) (h : RL ν f X) {x y e : Int32} {Q : Option Value → mm_T → Prop} (hne : ∀ i : Nat, i < ls_n (X 1) 21 → ¬ ls_V (X 1) 21 i = e) (hI : y = e → ha_S (X 1) 21 x = 0 → Q (some (.int (-1000002))) (τ, ν)) (hR : y = e → ¬ ha_S (X 1) 21 x = 0 → ∀ ν' : Nat → Nat → Int32, RF ν f (va_up (nt_X X) 1 (rp_S (X 1) 21 x)) ν' → Q (some (.int ((if ha_S (X 1) 21 x = 0 then e else ls_V (X 1) 21 (ut_S (X 1) 21 x - 1))))) (τ, ν')) (hC : ¬ y = e → hr_I (X 1) 21 x = 0 → Q (some (.int (-1000003))) (τ, ν)) (hN : ¬ y = e → ¬ hr_I (X 1) 21 x = 0 → ∀ ν' : Nat → Nat → Int32, RF ν f (va_up (nt_X X) 1 (pp_S (X 1) 21 x y)) ν' → Q (some (.int ((if ha_S (X 1) 21 x = 0 then e else ls_V (X 1) 21 (ut_S (X 1) 21 x - 1))))) (τ, ν')) : mt_P Γ mk_F_setPoint [.ref f, .ref (f + 1 + 3), .int x, .int y, .int e] (τ, ν) (Q) := by
  refine mt_of (L := [some (.ref f), some (.ref (f + 1 + 3)), some (.int x), some (.int y), some (.int e), none]) (by decide +kernel) (by simp [Value.category]) (Nat.le_of_ble_eq_true rfl) (lc_5_6 ()) ?_
  obtain ⟨f0, hx, hy, ⟨g, hg, hgi⟩, him, hv, ht⟩ := id hf
  have hX := h.1
  have hK := hX.2.2.2.2.1.n (by omega)
  have hva : (if ha_S (X 1) 21 x = 0 then e else pk_I (ut_S (X 1) 21 x) (ls_V (X 1) 21) e) = (if ha_S (X 1) 21 x = 0 then e else ls_V (X 1) 21 (ut_S (X 1) 21 x - 1)) := by
    by_cases c : ha_S (X 1) 21 x = 0
    · rw [if_pos c, if_pos c]
    · obtain ⟨k, hk, hp⟩ := ha_k c
      rw [if_neg c, if_neg c, hk]; rfl
  have hve : (if ha_S (X 1) 21 x = 0 then e else ls_V (X 1) 21 (ut_S (X 1) 21 x - 1)) = e ↔ ha_S (X 1) 21 x = 0 := by
    by_cases c : ha_S (X 1) 21 x = 0
    · rw [if_pos c]
      exact ⟨fun _ => c, fun _ => rfl⟩
    · rw [if_neg c]
      have hu : ut_S (X 1) 21 x ≤ ls_n (X 1) 21 := ut_S_le
      obtain ⟨k, hk, hp⟩ := ha_k c
      exact ⟨fun z => absurd z (hne _ (by omega)), fun z => absurd z c⟩
  refine gg_aldn dc_F_setPoint_0 rfl rfl ?_
  refine gg_ildn dc_F_setPoint_1 rfl rfl ?_
  refine gg_ild dc_F_setPoint_2 rfl ?_
  refine gg_okV (sp_P_vaR hx.2.2.2.1 hX.2.2.2.2.1) dc_F_setPoint_4 ml_F_211 ce_P_valueAt ⟨Nat.le_of_ble_eq_true rfl, Nat.le_of_ble_eq_true rfl⟩ hx.2.2.2.1.1 rfl rfl (Nat.le_of_ble_eq_true rfl) ⟨rfl, rfl⟩ ⟨Nat.le_of_ble_eq_true rfl, Nat.le_of_ble_eq_true rfl⟩ ?_
  refine gx_top (hva) ?_
  refine gg_ist (i := 5) dc_F_setPoint_7 (Nat.le_of_ble_eq_true rfl) rfl ?_
  dsimp only [List.set]
  refine gg_ildn dc_F_setPoint_9 rfl rfl ?_
  refine gg_ild dc_F_setPoint_10 rfl ?_
  refine gg_icne dc_F_setPoint_12 (fun c_12 => ?_) (fun c_12 => ?_)
  · refine gg_aldn dc_F_setPoint_44 rfl rfl ?_
    refine gg_ildn dc_F_setPoint_45 rfl rfl ?_
    refine gg_okV (sp_P_haR hx.2.2.2.1 hX.2.2.2.2.1) dc_F_setPoint_46 ml_F_218 ce_P_hasRoomFor ⟨Nat.le_of_ble_eq_true rfl, Nat.le_of_ble_eq_true rfl⟩ hx.2.2.2.1.1 rfl rfl (Nat.le_of_ble_eq_true rfl) ⟨rfl, rfl⟩ ⟨Nat.le_of_ble_eq_true rfl, Nat.le_of_ble_eq_true rfl⟩ ?_
    refine gg_ifne dc_F_setPoint_49 (fun c_49 => ?_) (fun c_49 => ?_)
    · refine gg_aldn dc_F_setPoint_55 rfl rfl ?_
      refine gg_getr dc_F_setPoint_56 lf_F_30 f0 rfl ?_
      refine gg_aldn dc_F_setPoint_59 rfl rfl ?_
      refine gg_getr dc_F_setPoint_60 lf_F_10 f0 rfl ?_
      refine gg_callV (sp_F_push hf (RF.id h)) dc_F_setPoint_63 ml_F_50 ce_S_push ⟨Nat.le_of_ble_eq_true rfl, Nat.le_of_ble_eq_true rfl⟩ hv.1 rfl rfl (Nat.le_of_ble_eq_true rfl) ⟨Nat.le_of_ble_eq_true rfl, Nat.le_of_ble_eq_true rfl⟩ ?_
      rintro v μ9 ⟨ν2, rfl, rfl, h2, hk2⟩
      dsimp only [Option.toList, List.cons_append, List.nil_append]
      have hX : AX ν2 (f + 1) (X 1) := by
        have := h2.ax
        rw [nt_o (by omega) (by omega)] at this
        exact this
      refine gg_aldn dc_F_setPoint_66 rfl rfl ?_
      refine gg_ildn dc_F_setPoint_67 rfl rfl ?_
      refine gg_ildn dc_F_setPoint_68 rfl rfl ?_
      refine gg_callV (sp_P_putR hx.2.2.2.1 (S := X 1) hX.2.2.2.2.1 (hr_o c_49)) dc_F_setPoint_69 ml_F_221 ce_P_put ⟨Nat.le_of_ble_eq_true rfl, Nat.le_of_ble_eq_true rfl⟩ hx.2.2.2.1.1 rfl rfl (Nat.le_of_ble_eq_true rfl) ⟨Nat.le_of_ble_eq_true rfl, Nat.le_of_ble_eq_true rfl⟩ ?_
      rintro v μ9 ⟨ν3, rfl, rfl, hR3, ho3⟩
      dsimp only [Option.toList, List.cons_append, List.nil_append]
      have hX3 := hX.ld hR3 ho3 (fun j hj => pp_o (hr_o c_49) hK.1 (by omega))
      have h3 := h2.row hX3 (fr_p3 ho3)
      refine gg_ild dc_F_setPoint_72 rfl ?_
      exact gg_iret dc_F_setPoint_74 rfl ⟨Nat.le_of_ble_eq_true rfl, Nat.le_of_ble_eq_true rfl⟩ ((hN c_12 c_49 ν3 h3))
    · refine gg_ldc dc_F_setPoint_52 lk_F_83 ?_
      exact gg_iret dc_F_setPoint_54 rfl ⟨Nat.le_of_ble_eq_true rfl, Nat.le_of_ble_eq_true rfl⟩ ((hC c_12 c_49))
  · refine gg_ild dc_F_setPoint_15 rfl ?_
    refine gg_ild dc_F_setPoint_17 rfl ?_
    refine gg_icne dc_F_setPoint_19 (fun c_19 => ?_) (fun c_19 => ?_)
    · refine gg_aldn dc_F_setPoint_25 rfl rfl ?_
      refine gg_getr dc_F_setPoint_26 lf_F_30 f0 rfl ?_
      refine gg_aldn dc_F_setPoint_29 rfl rfl ?_
      refine gg_getr dc_F_setPoint_30 lf_F_10 f0 rfl ?_
      refine gg_callV (sp_F_push hf (RF.id h)) dc_F_setPoint_33 ml_F_50 ce_S_push ⟨Nat.le_of_ble_eq_true rfl, Nat.le_of_ble_eq_true rfl⟩ hv.1 rfl rfl (Nat.le_of_ble_eq_true rfl) ⟨Nat.le_of_ble_eq_true rfl, Nat.le_of_ble_eq_true rfl⟩ ?_
      rintro v μ9 ⟨ν2, rfl, rfl, h2, hk2⟩
      dsimp only [Option.toList, List.cons_append, List.nil_append]
      have hX : AX ν2 (f + 1) (X 1) := by
        have := h2.ax
        rw [nt_o (by omega) (by omega)] at this
        exact this
      refine gg_aldn dc_F_setPoint_36 rfl rfl ?_
      refine gg_ildn dc_F_setPoint_37 rfl rfl ?_
      refine gg_callV (sp_P_removeR hx.2.2.2.1 (S := X 1) hX.2.2.2.2.1 (fun z => c_19 (hve.mpr z))) dc_F_setPoint_38 ml_F_215 ce_P_remove ⟨Nat.le_of_ble_eq_true rfl, Nat.le_of_ble_eq_true rfl⟩ hx.2.2.2.1.1 rfl rfl (Nat.le_of_ble_eq_true rfl) ⟨Nat.le_of_ble_eq_true rfl, Nat.le_of_ble_eq_true rfl⟩ ?_
      rintro v μ9 ⟨ν3, rfl, rfl, hR3, ho3⟩
      dsimp only [Option.toList, List.cons_append, List.nil_append]
      have hX3 := hX.ld hR3 ho3 (fun j hj => rp_o hK.1 (by omega))
      have h3 := h2.row hX3 (fr_p3 ho3)
      refine gg_ild dc_F_setPoint_41 rfl ?_
      exact gg_iret dc_F_setPoint_43 rfl ⟨Nat.le_of_ble_eq_true rfl, Nat.le_of_ble_eq_true rfl⟩ ((hR (by first | exact c_12 | exact Classical.not_not.mp c_12) (fun z => c_19 (hve.mpr z)) ν3 h3))
    · refine gg_ldc dc_F_setPoint_22 lk_F_100 ?_
      exact gg_iret dc_F_setPoint_24 rfl ⟨Nat.le_of_ble_eq_true rfl, Nat.le_of_ble_eq_true rfl⟩ ((hI (by first | exact c_12 | exact Classical.not_not.mp c_12) (hve.mp (by first | exact c_19 | exact Classical.not_not.mp c_19))))
set_option maxRecDepth 100000 in
set_option maxHeartbeats 4000000 in
theorem sp_F_setPointC {Γ : cx_T} {τ : Nat × (Nat → sh_T)} {ν : Nat → Nat → Int32} {f : Nat} {X : Nat → Nat → Int32} (hf : sh_F τ.2 f) (h : RL ν f X) {x y e : Int32} {Q : Option Value → mm_T → Prop} (hne : ∀ i : Nat, i < ls_n (X 1) 42 → ¬ ls_V (X 1) 42 i = e) (hI : y = e → ha_S (X 1) 42 x = 0 → Q (some (.int (-1000002))) (τ, ν)) (hR : y = e → ¬ ha_S (X 1) 42 x = 0 → ∀ ν' : Nat → Nat → Int32, RF ν f (va_up (nt_X X) 1 (rp_S (X 1) 42 x)) ν' → Q (some (.int ((if ha_S (X 1) 42 x = 0 then e else ls_V (X 1) 42 (ut_S (X 1) 42 x - 1))))) (τ, ν')) (hC : ¬ y = e → hr_I (X 1) 42 x = 0 → Q (some (.int (-1000003))) (τ, ν)) (hN : ¬ y = e → ¬ hr_I (X 1) 42 x = 0 → ∀ ν' : Nat → Nat → Int32, RF ν f (va_up (nt_X X) 1 (pp_S (X 1) 42 x y)) ν' → Q (some (.int ((if ha_S (X 1) 42 x = 0 then e else ls_V (X 1) 42 (ut_S (X 1) 42 x - 1))))) (τ, ν')) : mt_P Γ mk_F_setPoint [.ref f, .ref (f + 1 + 6), .int x, .int y, .int e] (τ, ν) (Q) := by
  refine mt_of (L := [some (.ref f), some (.ref (f + 1 + 6)), some (.int x), some (.int y), some (.int e), none]) (by decide +kernel) (by simp [Value.category]) (Nat.le_of_ble_eq_true rfl) (lc_5_6 ()) ?_
  obtain ⟨f0, hx, hy, ⟨g, hg, hgi⟩, him, hv, ht⟩ := id hf
  have hX := h.1
  have hK := hX.2.2.2.2.2.1.n (by omega)
  have hva : (if ha_S (X 1) 42 x = 0 then e else pk_I (ut_S (X 1) 42 x) (ls_V (X 1) 42) e) = (if ha_S (X 1) 42 x = 0 then e else ls_V (X 1) 42 (ut_S (X 1) 42 x - 1)) := by
    by_cases c : ha_S (X 1) 42 x = 0
    · rw [if_pos c, if_pos c]
    · obtain ⟨k, hk, hp⟩ := ha_k c
      rw [if_neg c, if_neg c, hk]; rfl
  have hve : (if ha_S (X 1) 42 x = 0 then e else ls_V (X 1) 42 (ut_S (X 1) 42 x - 1)) = e ↔ ha_S (X 1) 42 x = 0 := by
    by_cases c : ha_S (X 1) 42 x = 0
    · rw [if_pos c]
      exact ⟨fun _ => c, fun _ => rfl⟩
    · rw [if_neg c]
      have hu : ut_S (X 1) 42 x ≤ ls_n (X 1) 42 := ut_S_le
      obtain ⟨k, hk, hp⟩ := ha_k c
      exact ⟨fun z => absurd z (hne _ (by omega)), fun z => absurd z c⟩
  refine gg_aldn dc_F_setPoint_0 rfl rfl ?_
  refine gg_ildn dc_F_setPoint_1 rfl rfl ?_
  refine gg_ild dc_F_setPoint_2 rfl ?_
  refine gg_okV (sp_P_vaR hx.2.2.2.2.1 hX.2.2.2.2.2.1) dc_F_setPoint_4 ml_F_211 ce_P_valueAt ⟨Nat.le_of_ble_eq_true rfl, Nat.le_of_ble_eq_true rfl⟩ hx.2.2.2.2.1.1 rfl rfl (Nat.le_of_ble_eq_true rfl) ⟨rfl, rfl⟩ ⟨Nat.le_of_ble_eq_true rfl, Nat.le_of_ble_eq_true rfl⟩ ?_
  refine gx_top (hva) ?_
  refine gg_ist (i := 5) dc_F_setPoint_7 (Nat.le_of_ble_eq_true rfl) rfl ?_
  dsimp only [List.set]
  refine gg_ildn dc_F_setPoint_9 rfl rfl ?_
  refine gg_ild dc_F_setPoint_10 rfl ?_
  refine gg_icne dc_F_setPoint_12 (fun c_12 => ?_) (fun c_12 => ?_)
  · refine gg_aldn dc_F_setPoint_44 rfl rfl ?_
    refine gg_ildn dc_F_setPoint_45 rfl rfl ?_
    refine gg_okV (sp_P_haR hx.2.2.2.2.1 hX.2.2.2.2.2.1) dc_F_setPoint_46 ml_F_218 ce_P_hasRoomFor ⟨Nat.le_of_ble_eq_true rfl, Nat.le_of_ble_eq_true rfl⟩ hx.2.2.2.2.1.1 rfl rfl (Nat.le_of_ble_eq_true rfl) ⟨rfl, rfl⟩ ⟨Nat.le_of_ble_eq_true rfl, Nat.le_of_ble_eq_true rfl⟩ ?_
    refine gg_ifne dc_F_setPoint_49 (fun c_49 => ?_) (fun c_49 => ?_)
    · refine gg_aldn dc_F_setPoint_55 rfl rfl ?_
      refine gg_getr dc_F_setPoint_56 lf_F_30 f0 rfl ?_
      refine gg_aldn dc_F_setPoint_59 rfl rfl ?_
      refine gg_getr dc_F_setPoint_60 lf_F_10 f0 rfl ?_
      refine gg_callV (sp_F_push hf (RF.id h)) dc_F_setPoint_63 ml_F_50 ce_S_push ⟨Nat.le_of_ble_eq_true rfl, Nat.le_of_ble_eq_true rfl⟩ hv.1 rfl rfl (Nat.le_of_ble_eq_true rfl) ⟨Nat.le_of_ble_eq_true rfl, Nat.le_of_ble_eq_true rfl⟩ ?_
      rintro v μ9 ⟨ν2, rfl, rfl, h2, hk2⟩
      dsimp only [Option.toList, List.cons_append, List.nil_append]
      have hX : AX ν2 (f + 1) (X 1) := by
        have := h2.ax
        rw [nt_o (by omega) (by omega)] at this
        exact this
      refine gg_aldn dc_F_setPoint_66 rfl rfl ?_
      refine gg_ildn dc_F_setPoint_67 rfl rfl ?_
      refine gg_ildn dc_F_setPoint_68 rfl rfl ?_
      refine gg_callV (sp_P_putR hx.2.2.2.2.1 (S := X 1) hX.2.2.2.2.2.1 (hr_o c_49)) dc_F_setPoint_69 ml_F_221 ce_P_put ⟨Nat.le_of_ble_eq_true rfl, Nat.le_of_ble_eq_true rfl⟩ hx.2.2.2.2.1.1 rfl rfl (Nat.le_of_ble_eq_true rfl) ⟨Nat.le_of_ble_eq_true rfl, Nat.le_of_ble_eq_true rfl⟩ ?_
      rintro v μ9 ⟨ν3, rfl, rfl, hR3, ho3⟩
      dsimp only [Option.toList, List.cons_append, List.nil_append]
      have hX3 := hX.cb hR3 ho3 (fun j hj => pp_o (hr_o c_49) hK.1 (by omega))
      have h3 := h2.row hX3 (fr_p6 ho3)
      refine gg_ild dc_F_setPoint_72 rfl ?_
      exact gg_iret dc_F_setPoint_74 rfl ⟨Nat.le_of_ble_eq_true rfl, Nat.le_of_ble_eq_true rfl⟩ ((hN c_12 c_49 ν3 h3))
    · refine gg_ldc dc_F_setPoint_52 lk_F_83 ?_
      exact gg_iret dc_F_setPoint_54 rfl ⟨Nat.le_of_ble_eq_true rfl, Nat.le_of_ble_eq_true rfl⟩ ((hC c_12 c_49))
  · refine gg_ild dc_F_setPoint_15 rfl ?_
    refine gg_ild dc_F_setPoint_17 rfl ?_
    refine gg_icne dc_F_setPoint_19 (fun c_19 => ?_) (fun c_19 => ?_)
    · refine gg_aldn dc_F_setPoint_25 rfl rfl ?_
      refine gg_getr dc_F_setPoint_26 lf_F_30 f0 rfl ?_
      refine gg_aldn dc_F_setPoint_29 rfl rfl ?_
      refine gg_getr dc_F_setPoint_30 lf_F_10 f0 rfl ?_
      refine gg_callV (sp_F_push hf (RF.id h)) dc_F_setPoint_33 ml_F_50 ce_S_push ⟨Nat.le_of_ble_eq_true rfl, Nat.le_of_ble_eq_true rfl⟩ hv.1 rfl rfl (Nat.le_of_ble_eq_true rfl) ⟨Nat.le_of_ble_eq_true rfl, Nat.le_of_ble_eq_true rfl⟩ ?_
      rintro v μ9 ⟨ν2, rfl, rfl, h2, hk2⟩
      dsimp only [Option.toList, List.cons_append, List.nil_append]
      have hX : AX ν2 (f + 1) (X 1) := by
        have := h2.ax
        rw [nt_o (by omega) (by omega)] at this
        exact this
      refine gg_aldn dc_F_setPoint_36 rfl rfl ?_
      refine gg_ildn dc_F_setPoint_37 rfl rfl ?_
      refine gg_callV (sp_P_removeR hx.2.2.2.2.1 (S := X 1) hX.2.2.2.2.2.1 (fun z => c_19 (hve.mpr z))) dc_F_setPoint_38 ml_F_215 ce_P_remove ⟨Nat.le_of_ble_eq_true rfl, Nat.le_of_ble_eq_true rfl⟩ hx.2.2.2.2.1.1 rfl rfl (Nat.le_of_ble_eq_true rfl) ⟨Nat.le_of_ble_eq_true rfl, Nat.le_of_ble_eq_true rfl⟩ ?_
      rintro v μ9 ⟨ν3, rfl, rfl, hR3, ho3⟩
      dsimp only [Option.toList, List.cons_append, List.nil_append]
      have hX3 := hX.cb hR3 ho3 (fun j hj => rp_o hK.1 (by omega))
      have h3 := h2.row hX3 (fr_p6 ho3)
      refine gg_ild dc_F_setPoint_41 rfl ?_
      exact gg_iret dc_F_setPoint_43 rfl ⟨Nat.le_of_ble_eq_true rfl, Nat.le_of_ble_eq_true rfl⟩ ((hR (by first | exact c_12 | exact Classical.not_not.mp c_12) (fun z => c_19 (hve.mpr z)) ν3 h3))
    · refine gg_ldc dc_F_setPoint_22 lk_F_100 ?_
      exact gg_iret dc_F_setPoint_24 rfl ⟨Nat.le_of_ble_eq_true rfl, Nat.le_of_ble_eq_true rfl⟩ ((hI (by first | exact c_12 | exact Classical.not_not.mp c_12) (hve.mp (by first | exact c_19 | exact Classical.not_not.mp c_19))))
set_option maxRecDepth 100000 in
set_option maxHeartbeats 4000000 in
theorem sp_F_setLoad {Γ : cx_T} {τ : Nat × (Nat → sh_T)} {ν : Nat → Nat → Int32} {f : Nat} {X : Nat → Nat → Int32} (hf : sh_F τ.2 f) (h : RL ν f X) {x y : Int32} {Q : Option Value → mm_T → Prop} (hne : ∀ i : Nat, i < ls_n (X 1) 21 → ¬ ls_V (X 1) 21 i = (-1)) (hB : (in_I x (-20000) 20000 = 0 ∨ in_I y (-1) 200 = 0) → Q (some (.int (-1000001))) (τ, ν)) (hI : ¬ in_I x (-20000) 20000 = 0 → ¬ in_I y (-1) 200 = 0 → y = (-1) → ha_S (X 1) 21 x = 0 → Q (some (.int (-1000002))) (τ, ν)) (hR : ¬ in_I x (-20000) 20000 = 0 → ¬ in_I y (-1) 200 = 0 → y = (-1) → ¬ ha_S (X 1) 21 x = 0 → ∀ ν' : Nat → Nat → Int32, RF ν f (va_up (nt_X X) 1 (rp_S (X 1) 21 x)) ν' → Q (some (.int ((if ha_S (X 1) 21 x = 0 then (-1) else ls_V (X 1) 21 (ut_S (X 1) 21 x - 1))))) (τ, ν')) (hC : ¬ in_I x (-20000) 20000 = 0 → ¬ in_I y (-1) 200 = 0 → ¬ y = (-1) → hr_I (X 1) 21 x = 0 → Q (some (.int (-1000003))) (τ, ν)) (hN : ¬ in_I x (-20000) 20000 = 0 → ¬ in_I y (-1) 200 = 0 → ¬ y = (-1) → ¬ hr_I (X 1) 21 x = 0 → ∀ ν' : Nat → Nat → Int32, RF ν f (va_up (nt_X X) 1 (pp_S (X 1) 21 x y)) ν' → Q (some (.int ((if ha_S (X 1) 21 x = 0 then (-1) else ls_V (X 1) 21 (ut_S (X 1) 21 x - 1))))) (τ, ν')) : mt_P Γ mk_F_setLoad [.ref f, .int x, .int y] (τ, ν) (Q) := by
  refine mt_of (L := [some (.ref f), some (.int x), some (.int y)]) (by decide +kernel) (by simp [Value.category]) (Nat.le_of_ble_eq_true rfl) (lc_3_3 ()) ?_
  obtain ⟨f0, hx, hy, ⟨g, hg, hgi⟩, him, hv, ht⟩ := id hf
  have hX := h.1
  refine gg_ildn dc_F_setLoad_0 rfl rfl ?_
  refine gg_okS (sp_F_isPlace) dc_F_setLoad_1 ml_F_58 ce_F_isPlace ⟨Nat.le_of_ble_eq_true rfl, Nat.le_of_ble_eq_true rfl⟩ rfl (Nat.le_of_ble_eq_true rfl) ⟨rfl, rfl⟩ ⟨Nat.le_of_ble_eq_true rfl, Nat.le_of_ble_eq_true rfl⟩ ?_
  refine gg_ifeq dc_F_setLoad_4 (fun c_4 => ?_) (fun c_4 => ?_)
  · refine gg_ldc dc_F_setLoad_19 lk_F_45 ?_
    exact gg_iret dc_F_setLoad_21 rfl ⟨Nat.le_of_ble_eq_true rfl, Nat.le_of_ble_eq_true rfl⟩ ((hB (Or.inl c_4)))
  · refine gg_ildn dc_F_setLoad_7 rfl rfl ?_
    refine gg_iconst (v := (-1)) dc_F_setLoad_8 (by decide) ?_
    refine gg_iclt dc_F_setLoad_9 (fun c_9 => ?_) (fun c_9 => ?_)
    · refine gg_ldc dc_F_setLoad_19 lk_F_45 ?_
      exact gg_iret dc_F_setLoad_21 rfl ⟨Nat.le_of_ble_eq_true rfl, Nat.le_of_ble_eq_true rfl⟩ ((hB (Or.inr (in_lo c_9))))
    · refine gg_ildn dc_F_setLoad_12 rfl rfl ?_
      refine gg_sipush (v := 200) dc_F_setLoad_13 (by decide) ?_
      refine gg_icle dc_F_setLoad_16 (fun c_16 => ?_) (fun c_16 => ?_)
      · refine gg_aldn dc_F_setLoad_22 rfl rfl ?_
        refine gg_aldn dc_F_setLoad_23 rfl rfl ?_
        refine gg_getr dc_F_setLoad_24 lf_F_10 f0 rfl ?_
        refine gg_getr dc_F_setLoad_27 lf_F_62 hx.1 rfl ?_
        refine gg_ildn dc_F_setLoad_30 rfl rfl ?_
        refine gg_ildn dc_F_setLoad_31 rfl rfl ?_
        refine gg_iconst (v := (-1)) dc_F_setLoad_32 (by decide) ?_
        refine gg_callV (sp_F_setPointL (Q := fun v μ9 => ∃ (r : Int32) (ν9 : Nat → Nat → Int32), v = some (.int r) ∧ μ9 = (τ, ν9) ∧ Q v μ9) hf h hne (fun a b => ⟨_, _, rfl, rfl, hI c_4 (in_no c_9 (Int32.not_lt.mpr c_16)) a b⟩) (fun a b ν9 r9 => ⟨_, _, rfl, rfl, hR c_4 (in_no c_9 (Int32.not_lt.mpr c_16)) a b ν9 r9⟩) (fun a b => ⟨_, _, rfl, rfl, hC c_4 (in_no c_9 (Int32.not_lt.mpr c_16)) a b⟩) (fun a b ν9 r9 => ⟨_, _, rfl, rfl, hN c_4 (in_no c_9 (Int32.not_lt.mpr c_16)) a b ν9 r9⟩)) dc_F_setLoad_33 ml_F_66 ce_F_setPoint ⟨Nat.le_of_ble_eq_true rfl, Nat.le_of_ble_eq_true rfl⟩ f0 rfl rfl (Nat.le_of_ble_eq_true rfl) ⟨Nat.le_of_ble_eq_true rfl, Nat.le_of_ble_eq_true rfl⟩ ?_
        rintro v μ9 ⟨r9, ν9, rfl, rfl, hQ9⟩
        dsimp only [Option.toList, List.cons_append, List.nil_append]
        exact gg_iret dc_F_setLoad_36 rfl ⟨Nat.le_of_ble_eq_true rfl, Nat.le_of_ble_eq_true rfl⟩ (hQ9)
      · refine gg_ldc dc_F_setLoad_19 lk_F_45 ?_
        exact gg_iret dc_F_setLoad_21 rfl ⟨Nat.le_of_ble_eq_true rfl, Nat.le_of_ble_eq_true rfl⟩ ((hB (Or.inr (in_hi (Int32.not_le.mp c_16)))))
set_option maxRecDepth 100000 in
set_option maxHeartbeats 4000000 in
theorem sp_F_setComb {Γ : cx_T} {τ : Nat × (Nat → sh_T)} {ν : Nat → Nat → Int32} {f : Nat} {X : Nat → Nat → Int32} (hf : sh_F τ.2 f) (h : RL ν f X) {x y : Int32} {Q : Option Value → mm_T → Prop} (hne : ∀ i : Nat, i < ls_n (X 1) 42 → ¬ ls_V (X 1) 42 i = 100) (hB : (in_I x (-20000) 20000 = 0 ∨ in_I y (-99) 100 = 0) → Q (some (.int (-1000001))) (τ, ν)) (hI : ¬ in_I x (-20000) 20000 = 0 → ¬ in_I y (-99) 100 = 0 → y = 100 → ha_S (X 1) 42 x = 0 → Q (some (.int (-1000002))) (τ, ν)) (hR : ¬ in_I x (-20000) 20000 = 0 → ¬ in_I y (-99) 100 = 0 → y = 100 → ¬ ha_S (X 1) 42 x = 0 → ∀ ν' : Nat → Nat → Int32, RF ν f (va_up (nt_X X) 1 (rp_S (X 1) 42 x)) ν' → Q (some (.int ((if ha_S (X 1) 42 x = 0 then 100 else ls_V (X 1) 42 (ut_S (X 1) 42 x - 1))))) (τ, ν')) (hC : ¬ in_I x (-20000) 20000 = 0 → ¬ in_I y (-99) 100 = 0 → ¬ y = 100 → hr_I (X 1) 42 x = 0 → Q (some (.int (-1000003))) (τ, ν)) (hN : ¬ in_I x (-20000) 20000 = 0 → ¬ in_I y (-99) 100 = 0 → ¬ y = 100 → ¬ hr_I (X 1) 42 x = 0 → ∀ ν' : Nat → Nat → Int32, RF ν f (va_up (nt_X X) 1 (pp_S (X 1) 42 x y)) ν' → Q (some (.int ((if ha_S (X 1) 42 x = 0 then 100 else ls_V (X 1) 42 (ut_S (X 1) 42 x - 1))))) (τ, ν')) : mt_P Γ mk_F_setComb [.ref f, .int x, .int y] (τ, ν) (Q) := by
  refine mt_of (L := [some (.ref f), some (.int x), some (.int y)]) (by decide +kernel) (by simp [Value.category]) (Nat.le_of_ble_eq_true rfl) (lc_3_3 ()) ?_
  obtain ⟨f0, hx, hy, ⟨g, hg, hgi⟩, him, hv, ht⟩ := id hf
  have hX := h.1
  refine gg_ildn dc_F_setComb_0 rfl rfl ?_
  refine gg_okS (sp_F_isPlace) dc_F_setComb_1 ml_F_58 ce_F_isPlace ⟨Nat.le_of_ble_eq_true rfl, Nat.le_of_ble_eq_true rfl⟩ rfl (Nat.le_of_ble_eq_true rfl) ⟨rfl, rfl⟩ ⟨Nat.le_of_ble_eq_true rfl, Nat.le_of_ble_eq_true rfl⟩ ?_
  refine gg_ifeq dc_F_setComb_4 (fun c_4 => ?_) (fun c_4 => ?_)
  · refine gg_ldc dc_F_setComb_19 lk_F_45 ?_
    exact gg_iret dc_F_setComb_21 rfl ⟨Nat.le_of_ble_eq_true rfl, Nat.le_of_ble_eq_true rfl⟩ ((hB (Or.inl c_4)))
  · refine gg_ildn dc_F_setComb_7 rfl rfl ?_
    refine gg_bipush (v := (-99)) dc_F_setComb_8 (by decide) ?_
    refine gg_iclt dc_F_setComb_10 (fun c_10 => ?_) (fun c_10 => ?_)
    · refine gg_ldc dc_F_setComb_19 lk_F_45 ?_
      exact gg_iret dc_F_setComb_21 rfl ⟨Nat.le_of_ble_eq_true rfl, Nat.le_of_ble_eq_true rfl⟩ ((hB (Or.inr (in_lo c_10))))
    · refine gg_ildn dc_F_setComb_13 rfl rfl ?_
      refine gg_bipush (v := 100) dc_F_setComb_14 (by decide) ?_
      refine gg_icle dc_F_setComb_16 (fun c_16 => ?_) (fun c_16 => ?_)
      · refine gg_aldn dc_F_setComb_22 rfl rfl ?_
        refine gg_aldn dc_F_setComb_23 rfl rfl ?_
        refine gg_getr dc_F_setComb_24 lf_F_10 f0 rfl ?_
        refine gg_getr dc_F_setComb_27 lf_F_70 hx.1 rfl ?_
        refine gg_ildn dc_F_setComb_30 rfl rfl ?_
        refine gg_ildn dc_F_setComb_31 rfl rfl ?_
        refine gg_bipush (v := 100) dc_F_setComb_32 (by decide) ?_
        refine gg_callV (sp_F_setPointC (Q := fun v μ9 => ∃ (r : Int32) (ν9 : Nat → Nat → Int32), v = some (.int r) ∧ μ9 = (τ, ν9) ∧ Q v μ9) hf h hne (fun a b => ⟨_, _, rfl, rfl, hI c_4 (in_no c_10 (Int32.not_lt.mpr c_16)) a b⟩) (fun a b ν9 r9 => ⟨_, _, rfl, rfl, hR c_4 (in_no c_10 (Int32.not_lt.mpr c_16)) a b ν9 r9⟩) (fun a b => ⟨_, _, rfl, rfl, hC c_4 (in_no c_10 (Int32.not_lt.mpr c_16)) a b⟩) (fun a b ν9 r9 => ⟨_, _, rfl, rfl, hN c_4 (in_no c_10 (Int32.not_lt.mpr c_16)) a b ν9 r9⟩)) dc_F_setComb_34 ml_F_66 ce_F_setPoint ⟨Nat.le_of_ble_eq_true rfl, Nat.le_of_ble_eq_true rfl⟩ f0 rfl rfl (Nat.le_of_ble_eq_true rfl) ⟨Nat.le_of_ble_eq_true rfl, Nat.le_of_ble_eq_true rfl⟩ ?_
        rintro v μ9 ⟨r9, ν9, rfl, rfl, hQ9⟩
        dsimp only [Option.toList, List.cons_append, List.nil_append]
        exact gg_iret dc_F_setComb_37 rfl ⟨Nat.le_of_ble_eq_true rfl, Nat.le_of_ble_eq_true rfl⟩ (hQ9)
      · refine gg_ldc dc_F_setComb_19 lk_F_45 ?_
        exact gg_iret dc_F_setComb_21 rfl ⟨Nat.le_of_ble_eq_true rfl, Nat.le_of_ble_eq_true rfl⟩ ((hB (Or.inr (in_hi (Int32.not_le.mp c_16)))))
