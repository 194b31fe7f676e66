theorem sp_P_isAtN {Γ : cx_T} {τ : Nat × (Nat → sh_T)} {ν : Nat → Nat → Int32} {q k : Nat} {x : Int32} (hq : sh_Pt τ.2 q) (hk : k < 10) (hp : ¬ ν (q + 1) k = x) : mt_P Γ mk_P_isAt [.ref q, .int (nI k), .int x] (τ, ν) (fun v μ' => v = some (.int 0) ∧ μ' = (τ, ν)) := by
  have h := sp_P_isAtK (Γ := Γ) (ν := ν) (x := x) hq hk
  rw [if_neg hp] at h
  exact h
theorem sp_P_isAtY {Γ : cx_T} {τ : Nat × (Nat → sh_T)} {ν : Nat → Nat → Int32} {q k : Nat} {x : Int32} (hq : sh_Pt τ.2 q) (hk : k < 10) (hp : ν (q + 1) k = x) : mt_P Γ mk_P_isAt [.ref q, .int (nI k), .int x] (τ, ν) (fun v μ' => v = some (.int 1) ∧ μ' = (τ, ν)) := by
  have h := sp_P_isAtK (Γ := Γ) (ν := ν) (x := x) hq hk
  rw [if_pos hp] at h
  exact h
theorem ha_s {k : Nat} {P : Nat → Int32} {x : Int32} : ha_N (k + 1) P x = if P k = x then 1 else 0 := rfl
def cp_N (f g : Nat → Int32) (n : Nat) : Nat → Int32 := fun k => if k < n then f k else g k
theorem cp_va (f g : Nat → Int32) (n : Nat) : va_cpy f g 0 0 n = cp_N f g n := by
  funext k; unfold va_cpy cp_N; simp
def pr_N (R : Nat → Int32) (p : Int32) : Nat → Nat → Nat
  | 0, i => i
  | d + 1, i => if R i < p then i else pr_N R p d (i + 1)
theorem pr_le (R : Nat → Int32) (p : Int32) : ∀ (d i : Nat), i ≤ pr_N R p d i ∧ pr_N R p d i ≤ i + d
  | 0, i => ⟨Nat.le_refl _, Nat.le_refl _⟩
  | d + 1, i => by
    unfold pr_N
    split
    · omega
    · have := pr_le R p d (i + 1)
      omega
theorem pr_s {P : Nat → Int32} {x : Int32} {d i : Nat} (h : ¬ P i < x) : pr_N P x (d + 1) i = pr_N P x d (i + 1) := by
  show (if P i < x then _ else _) = _
  rw [if_neg h]
theorem pr_e {P : Nat → Int32} {x : Int32} {d i : Nat} (h : P i < x) : pr_N P x (d + 1) i = i := by
  show (if P i < x then _ else _) = _
  rw [if_pos h]
set_option maxRecDepth 100000 in
set_option maxHeartbeats 4000000 in
theorem sp_Q_insertAt {Γ : cx_T} {τ : Nat × (Nat → sh_T)} {ν : Nat → Nat → Int32} {ci N q n : Nat} (hci : ci = 1 ∨ ci = 2) (hq : sh_Pl τ.2 ci N q) (hn : ν q 2 = nI n) (hN : N < 2 ^ 31) {u : Nat} {x y : Int32} (hu : u ≤ n) (hlt : n < N) : mt_P Γ mk_Q_insertAt [.ref q, .int (nI u), .int x, .int y] (τ, ν) (fun v μ' => v = none ∧ μ' = (τ, pt_set ν q (nI (n + 1)) (in_F (ν (q + 1)) u n x) (in_F (ν (q + 2)) u n y))) := by
  refine mt_of (L := [some (.ref q), some (.int (nI u)), some (.int x), some (.int y), none]) (by decide +kernel) (by simp [Value.category]) (Nat.le_of_ble_eq_true rfl) (lc_4_5 ()) ?_
  obtain ⟨h0, h1, h2⟩ := id hq
  have loop : ∀ (d j : Nat), u + d = j → j ≤ n → gg_P Γ mk_Q_insertAt (fun v μ' => v = none ∧ μ' = (τ, pt_set ν q (nI (n + 1)) (in_F (ν (q + 1)) u n x) (in_F (ν (q + 2)) u n y))) 0 0 6 [some (.ref q), some (.int (nI u)), some (.int x), some (.int y), some (.int (nI j))] [] (τ, m2_N ν q (og_I (ν (q + 1)) j n) (og_I (ν (q + 2)) j n)) := by
    intro d
    induction d with
    | zero =>
      intro j hj hjn
      have hj : u = j := by omega
      subst hj
      refine gg_ild dc_Q_insertAt_6 rfl ?_
      refine gg_ildn dc_Q_insertAt_8 rfl rfl ?_
      refine gg_icle dc_Q_insertAt_9 (fun c_9 => ?_) (fun c_9 => ?_)
      · refine gg_aldn dc_Q_insertAt_58 rfl rfl ?_
        refine gg_getr dc_Q_insertAt_59 (lf_Q_13 hci) h0 rfl ?_
        refine gg_ildn dc_Q_insertAt_62 rfl rfl ?_
        refine gg_ildn dc_Q_insertAt_63 rfl rfl ?_
        refine gg_okSv (sp_R_putE h1 (by omega) rfl (by omega)) dc_Q_insertAt_64 ml_Q_36 ce_R_put ⟨Nat.le_of_ble_eq_true rfl, Nat.le_of_ble_eq_true rfl⟩ rfl (Nat.le_of_ble_eq_true rfl) ⟨rfl, rfl⟩ ⟨Nat.le_of_ble_eq_true rfl, Nat.le_of_ble_eq_true rfl⟩ ?_
        rw [m2_p]
        refine gg_aldn dc_Q_insertAt_67 rfl rfl ?_
        refine gg_getr dc_Q_insertAt_68 (lf_Q_19 hci) h0 rfl ?_
        refine gg_ildn dc_Q_insertAt_71 rfl rfl ?_
        refine gg_ildn dc_Q_insertAt_72 rfl rfl ?_
        refine gg_okSv (sp_R_putE h2 (by omega) rfl (by omega)) dc_Q_insertAt_73 ml_Q_36 ce_R_put ⟨Nat.le_of_ble_eq_true rfl, Nat.le_of_ble_eq_true rfl⟩ rfl (Nat.le_of_ble_eq_true rfl) ⟨rfl, rfl⟩ ⟨Nat.le_of_ble_eq_true rfl, Nat.le_of_ble_eq_true rfl⟩ ?_
        rw [m2_v]
        refine gg_aldn dc_Q_insertAt_76 rfl rfl ?_
        refine gg_dup dc_Q_insertAt_77 rfl ?_
        refine gx_geti dc_Q_insertAt_78 (lf_Q_22 hci) h0 rfl ?_
        refine gx_top (show m2_N ν q _ _ q 2 = nI n by rw [m2_0]; exact hn) ?_
        refine gg_iconst (v := 1) dc_Q_insertAt_81 (by decide) ?_
        refine gg_iadd dc_Q_insertAt_82 ?_
        refine gg_puti dc_Q_insertAt_83 (lp_Q_22 hci) h0 rfl ?_
        exact gg_vret dc_Q_insertAt_86 rfl ⟨Nat.le_of_ble_eq_true rfl, Nat.le_of_ble_eq_true rfl⟩ (⟨rfl, by rw [nI_1, m2_s]; rfl⟩)
      · exact absurd (Int32.le_refl _) c_9
    | succ d ih =>
      intro j0 hj0 hjn
      obtain ⟨j, rfl⟩ : ∃ j, j0 = j + 1 := ⟨j0 - 1, by omega⟩
      refine gg_ild dc_Q_insertAt_6 rfl ?_
      refine gg_ildn dc_Q_insertAt_8 rfl rfl ?_
      refine gg_icle dc_Q_insertAt_9 (fun c_9 => ?_) (fun c_9 => ?_)
      · exact absurd c_9 (nI_ge (by omega) (by omega))
      · refine gg_aldn dc_Q_insertAt_12 rfl rfl ?_
        refine gg_getr dc_Q_insertAt_13 (lf_Q_13 hci) h0 rfl ?_
        refine gg_ild dc_Q_insertAt_16 rfl ?_
        refine gg_aldn dc_Q_insertAt_18 rfl rfl ?_
        refine gg_getr dc_Q_insertAt_19 (lf_Q_13 hci) h0 rfl ?_
        refine gg_ild dc_Q_insertAt_22 rfl ?_
        refine gg_iconst (v := 1) dc_Q_insertAt_24 (by decide) ?_
        refine gg_isub dc_Q_insertAt_25 ?_
        refine gg_okS (sp_R_atE h1 (by omega) (nI_pred j) (by omega)) dc_Q_insertAt_26 ml_Q_32 ce_R_at ⟨Nat.le_of_ble_eq_true rfl, Nat.le_of_ble_eq_true rfl⟩ rfl (Nat.le_of_ble_eq_true rfl) ⟨rfl, rfl⟩ ⟨Nat.le_of_ble_eq_true rfl, Nat.le_of_ble_eq_true rfl⟩ ?_
        refine gg_okSv (sp_R_putE h1 (by omega) rfl (by omega)) dc_Q_insertAt_29 ml_Q_36 ce_R_put ⟨Nat.le_of_ble_eq_true rfl, Nat.le_of_ble_eq_true rfl⟩ rfl (Nat.le_of_ble_eq_true rfl) ⟨rfl, rfl⟩ ⟨Nat.le_of_ble_eq_true rfl, Nat.le_of_ble_eq_true rfl⟩ ?_
        rw [m2_1, m2_p, og_s (by omega)]
        refine gg_aldn dc_Q_insertAt_32 rfl rfl ?_
        refine gg_getr dc_Q_insertAt_33 (lf_Q_19 hci) h0 rfl ?_
        refine gg_ild dc_Q_insertAt_36 rfl ?_
        refine gg_aldn dc_Q_insertAt_38 rfl rfl ?_
        refine gg_getr dc_Q_insertAt_39 (lf_Q_19 hci) h0 rfl ?_
        refine gg_ild dc_Q_insertAt_42 rfl ?_
        refine gg_iconst (v := 1) dc_Q_insertAt_44 (by decide) ?_
        refine gg_isub dc_Q_insertAt_45 ?_
        refine gg_okS (sp_R_atE h2 (by omega) (nI_pred j) (by omega)) dc_Q_insertAt_46 ml_Q_32 ce_R_at ⟨Nat.le_of_ble_eq_true rfl, Nat.le_of_ble_eq_true rfl⟩ rfl (Nat.le_of_ble_eq_true rfl) ⟨rfl, rfl⟩ ⟨Nat.le_of_ble_eq_true rfl, Nat.le_of_ble_eq_true rfl⟩ ?_
        refine gg_okSv (sp_R_putE h2 (by omega) rfl (by omega)) dc_Q_insertAt_49 ml_Q_36 ce_R_put ⟨Nat.le_of_ble_eq_true rfl, Nat.le_of_ble_eq_true rfl⟩ rfl (Nat.le_of_ble_eq_true rfl) ⟨rfl, rfl⟩ ⟨Nat.le_of_ble_eq_true rfl, Nat.le_of_ble_eq_true rfl⟩ ?_
        rw [m2_2, m2_v, og_s (by omega)]
        refine gg_iinc (i := 4) dc_Q_insertAt_52 rfl (Nat.le_of_ble_eq_true rfl) rfl ?_
        dsimp only [List.set]
        rw [show Int32.ofInt (-1) = (-1) from by decide]
        refine gg_goto dc_Q_insertAt_55 ?_
        have e9 : nI (j + 1) + (-1) = nI j := pk_m1 j
        refine gg_e (ih j (by omega) (by omega)) (by rw [e9]) rfl rfl
  refine gg_aldn dc_Q_insertAt_0 rfl rfl ?_
  refine gx_geti dc_Q_insertAt_1 (lf_Q_22 hci) h0 rfl ?_
  refine gx_top (hn) ?_
  refine gg_ist (i := 4) dc_Q_insertAt_4 (Nat.le_of_ble_eq_true rfl) rfl ?_
  dsimp only [List.set]
  refine gg_e (loop (n - u) n (by omega) (Nat.le_refl n)) rfl rfl ?_
  rw [og_0, og_0, m2_id]
set_option maxRecDepth 100000 in
set_option maxHeartbeats 4000000 in
theorem sp_Q_removeAt {Γ : cx_T} {τ : Nat × (Nat → sh_T)} {ν : Nat → Nat → Int32} {ci N q n : Nat} (hci : ci = 1 ∨ ci = 2) (hq : sh_Pl τ.2 ci N q) (hn : ν q 2 = nI (n + 1)) (hN : N < 2 ^ 31) {u : Nat} (hu : u ≤ n) (hlt : n < N) : mt_P Γ mk_Q_removeAt [.ref q, .int (nI u)] (τ, ν) (fun v μ' => v = none ∧ μ' = (τ, pt_set ν q (nI n) (cg_I (ν (q + 1)) u n) (cg_I (ν (q + 2)) u n))) := by
  refine mt_of (L := [some (.ref q), some (.int (nI u)), none]) (by decide +kernel) (by simp [Value.category]) (Nat.le_of_ble_eq_true rfl) (lc_2_3 ()) ?_
  obtain ⟨h0, h1, h2⟩ := id hq
  have loop : ∀ (d j : Nat), j + d = n → u ≤ j → gg_P Γ mk_Q_removeAt (fun v μ' => v = none ∧ μ' = (τ, pt_set ν q (nI n) (cg_I (ν (q + 1)) u n) (cg_I (ν (q + 2)) u n))) 0 0 2 [some (.ref q), some (.int (nI u)), some (.int (nI j))] [] (τ, m2_N ν q (cg_I (ν (q + 1)) u j) (cg_I (ν (q + 2)) u j)) := by
    intro d
    induction d with
    | zero =>
      intro j hj hkj
      have hj : n = j := by omega
      subst hj
      refine gg_ildn dc_Q_removeAt_2 rfl rfl ?_
      refine gg_aldn dc_Q_removeAt_3 rfl rfl ?_
      refine gx_geti dc_Q_removeAt_4 (lf_Q_22 hci) h0 rfl ?_
      refine gx_top (show m2_N ν q _ _ q 2 = nI (n + 1) by rw [m2_0]; exact hn) ?_
      refine gg_iconst (v := 1) dc_Q_removeAt_7 (by decide) ?_
      refine gg_isub dc_Q_removeAt_8 ?_
      refine gx_top (nI_pred n) ?_
      refine gg_icge dc_Q_removeAt_9 (fun c_9 => ?_) (fun c_9 => ?_)
      · refine gg_aldn dc_Q_removeAt_54 rfl rfl ?_
        refine gg_dup dc_Q_removeAt_55 rfl ?_
        refine gx_geti dc_Q_removeAt_56 (lf_Q_22 hci) h0 rfl ?_
        refine gx_top (show m2_N ν q _ _ q 2 = nI (n + 1) by rw [m2_0]; exact hn) ?_
        refine gg_iconst (v := 1) dc_Q_removeAt_59 (by decide) ?_
        refine gg_isub dc_Q_removeAt_60 ?_
        refine gg_puti dc_Q_removeAt_61 (lp_Q_22 hci) h0 rfl ?_
        exact gg_vret dc_Q_removeAt_64 rfl ⟨Nat.le_of_ble_eq_true rfl, Nat.le_of_ble_eq_true rfl⟩ (⟨rfl, by rw [nI_pred, m2_s]⟩)
      · exact absurd (Int32.le_refl _) c_9
    | succ d ih =>
      intro j hj hkj
      refine gg_ildn dc_Q_removeAt_2 rfl rfl ?_
      refine gg_aldn dc_Q_removeAt_3 rfl rfl ?_
      refine gx_geti dc_Q_removeAt_4 (lf_Q_22 hci) h0 rfl ?_
      refine gx_top (show m2_N ν q _ _ q 2 = nI (n + 1) by rw [m2_0]; exact hn) ?_
      refine gg_iconst (v := 1) dc_Q_removeAt_7 (by decide) ?_
      refine gg_isub dc_Q_removeAt_8 ?_
      refine gx_top (nI_pred n) ?_
      refine gg_icge dc_Q_removeAt_9 (fun c_9 => ?_) (fun c_9 => ?_)
      · exact absurd c_9 (nI_ge (by omega) (by omega))
      · refine gg_aldn dc_Q_removeAt_12 rfl rfl ?_
        refine gg_getr dc_Q_removeAt_13 (lf_Q_13 hci) h0 rfl ?_
        refine gg_ildn dc_Q_removeAt_16 rfl rfl ?_
        refine gg_aldn dc_Q_removeAt_17 rfl rfl ?_
        refine gg_getr dc_Q_removeAt_18 (lf_Q_13 hci) h0 rfl ?_
        refine gg_ildn dc_Q_removeAt_21 rfl rfl ?_
        refine gg_iconst (v := 1) dc_Q_removeAt_22 (by decide) ?_
        refine gg_iadd dc_Q_removeAt_23 ?_
        refine gg_okS (sp_R_atE h1 (by omega) (nI_1 j) (by omega)) dc_Q_removeAt_24 ml_Q_32 ce_R_at ⟨Nat.le_of_ble_eq_true rfl, Nat.le_of_ble_eq_true rfl⟩ rfl (Nat.le_of_ble_eq_true rfl) ⟨rfl, rfl⟩ ⟨Nat.le_of_ble_eq_true rfl, Nat.le_of_ble_eq_true rfl⟩ ?_
        refine gg_okSv (sp_R_putE h1 (by omega) rfl (by omega)) dc_Q_removeAt_27 ml_Q_36 ce_R_put ⟨Nat.le_of_ble_eq_true rfl, Nat.le_of_ble_eq_true rfl⟩ rfl (Nat.le_of_ble_eq_true rfl) ⟨rfl, rfl⟩ ⟨Nat.le_of_ble_eq_true rfl, Nat.le_of_ble_eq_true rfl⟩ ?_
        rw [m2_1, m2_p, cg_s (by omega)]
        refine gg_aldn dc_Q_removeAt_30 rfl rfl ?_
        refine gg_getr dc_Q_removeAt_31 (lf_Q_19 hci) h0 rfl ?_
        refine gg_ildn dc_Q_removeAt_34 rfl rfl ?_
        refine gg_aldn dc_Q_removeAt_35 rfl rfl ?_
        refine gg_getr dc_Q_removeAt_36 (lf_Q_19 hci) h0 rfl ?_
        refine gg_ildn dc_Q_removeAt_39 rfl rfl ?_
        refine gg_iconst (v := 1) dc_Q_removeAt_40 (by decide) ?_
        refine gg_iadd dc_Q_removeAt_41 ?_
        refine gg_okS (sp_R_atE h2 (by omega) (nI_1 j) (by omega)) dc_Q_removeAt_42 ml_Q_32 ce_R_at ⟨Nat.le_of_ble_eq_true rfl, Nat.le_of_ble_eq_true rfl⟩ rfl (Nat.le_of_ble_eq_true rfl) ⟨rfl, rfl⟩ ⟨Nat.le_of_ble_eq_true rfl, Nat.le_of_ble_eq_true rfl⟩ ?_
        refine gg_okSv (sp_R_putE h2 (by omega) rfl (by omega)) dc_Q_removeAt_45 ml_Q_36 ce_R_put ⟨Nat.le_of_ble_eq_true rfl, Nat.le_of_ble_eq_true rfl⟩ rfl (Nat.le_of_ble_eq_true rfl) ⟨rfl, rfl⟩ ⟨Nat.le_of_ble_eq_true rfl, Nat.le_of_ble_eq_true rfl⟩ ?_
        rw [m2_2, m2_v, cg_s (by omega)]
        refine gg_iinc (i := 2) dc_Q_removeAt_48 rfl (Nat.le_of_ble_eq_true rfl) rfl ?_
        dsimp only [List.set]
        rw [show Int32.ofInt 1 = 1 from by decide]
        refine gg_goto dc_Q_removeAt_51 ?_
        have e9 : nI j + 1 = nI (j + 1) := nI_1 j
        refine gg_e (ih (j + 1) (by omega) (by omega)) (by rw [e9]) rfl rfl
  refine gg_ildn dc_Q_removeAt_0 rfl rfl ?_
  refine gg_istn (i := 2) dc_Q_removeAt_1 rfl (Nat.le_of_ble_eq_true rfl) rfl ?_
  dsimp only [List.set]
  refine gg_e (loop (n - u) u (by omega) (Nat.le_refl u)) rfl rfl ?_
  rw [cg_0, cg_0, m2_id]
set_option maxRecDepth 100000 in
set_option maxHeartbeats 4000000 in
theorem sp_P_putN {Γ : cx_T} {τ : Nat × (Nat → sh_T)} {ν : Nat → Nat → Int32} {q n : Nat} {x : Int32} (hq : sh_Pt τ.2 q) (hn : ν q 2 = nI n) (h10 : n ≤ 10) {d : Int32} (hh : ha_N (ut_N (ν (q + 1)) x n 0) (ν (q + 1)) x = 0) (hlt : n < 10) : mt_P Γ mk_P_put [.ref q, .int x, .int d] (τ, ν) (fun v μ' => v = none ∧ μ' = (τ, pt_set ν q (nI (n + 1)) (in_F (ν (q + 1)) (ut_N (ν (q + 1)) x n 0) n x) (in_F (ν (q + 2)) (ut_N (ν (q + 1)) x n 0) n d))) := by
  refine mt_of (L := [some (.ref q), some (.int x), some (.int d), none]) (by decide +kernel) (by simp [Value.category]) (Nat.le_of_ble_eq_true rfl) (lc_3_4 ()) ?_
  obtain ⟨h0, h1, h2⟩ := id hq
  have hle := (ut_le (ν (q + 1)) x n 0).2
  rcases hu : ut_N (ν (q + 1)) x n 0 with _ | k
  · refine gg_aldn dc_P_put_0 rfl rfl ?_
    refine gg_ildn dc_P_put_1 rfl rfl ?_
    refine gg_okV (sp_P_lu0 hq hn h10 hu) dc_P_put_2 ml_P_11 ce_P_lastUpTo ⟨Nat.le_of_ble_eq_true rfl, Nat.le_of_ble_eq_true rfl⟩ h0 rfl rfl (Nat.le_of_ble_eq_true rfl) ⟨rfl, rfl⟩ ⟨Nat.le_of_ble_eq_true rfl, Nat.le_of_ble_eq_true rfl⟩ ?_
    refine gg_istn (i := 3) dc_P_put_5 rfl (Nat.le_of_ble_eq_true rfl) rfl ?_
    dsimp only [List.set]
    refine gg_aldn dc_P_put_6 rfl rfl ?_
    refine gg_ildn dc_P_put_7 rfl rfl ?_
    refine gg_ildn dc_P_put_8 rfl rfl ?_
    refine gg_okV (sp_P_isAt0) dc_P_put_9 ml_P_15 ce_P_isAt ⟨Nat.le_of_ble_eq_true rfl, Nat.le_of_ble_eq_true rfl⟩ h0 rfl rfl (Nat.le_of_ble_eq_true rfl) ⟨rfl, rfl⟩ ⟨Nat.le_of_ble_eq_true rfl, Nat.le_of_ble_eq_true rfl⟩ ?_
    refine gg_ifeq dc_P_put_12 (fun c_12 => ?_) (fun c_12 => ?_)
    · refine gg_aldn dc_P_put_27 rfl rfl ?_
      refine gg_ildn dc_P_put_28 rfl rfl ?_
      refine gg_iconst (v := 1) dc_P_put_29 (by decide) ?_
      refine gg_iadd dc_P_put_30 ?_
      refine gx_top (show (-1 : Int32) + 1 = nI 0 by decide) ?_
      refine gg_ildn dc_P_put_31 rfl rfl ?_
      refine gg_ildn dc_P_put_32 rfl rfl ?_
      refine gg_okUv (sp_Q_insertAt (Or.inr rfl) (show sh_Pl τ.2 2 10 q from hq) hn (by omega) (show 0 ≤ n by omega) hlt) dc_P_put_33 ml_P_52 ce_Q_insertAt_P ⟨Nat.le_of_ble_eq_true rfl, Nat.le_of_ble_eq_true rfl⟩ h0 rfl rfl (Nat.le_of_ble_eq_true rfl) ⟨rfl, rfl⟩ ⟨Nat.le_of_ble_eq_true rfl, Nat.le_of_ble_eq_true rfl⟩ ?_
      exact gg_vret dc_P_put_36 rfl ⟨Nat.le_of_ble_eq_true rfl, Nat.le_of_ble_eq_true rfl⟩ (⟨rfl, rfl⟩)
    · exact absurd rfl c_12
  · have hk : k < n := by omega
    have hp : ¬ ν (q + 1) k = x := fun e => by rw [hu, ha_s, if_pos e] at hh; exact absurd hh (by decide)
    refine gg_aldn dc_P_put_0 rfl rfl ?_
    refine gg_ildn dc_P_put_1 rfl rfl ?_
    refine gg_okV (sp_P_luK hq hn h10 hu) dc_P_put_2 ml_P_11 ce_P_lastUpTo ⟨Nat.le_of_ble_eq_true rfl, Nat.le_of_ble_eq_true rfl⟩ h0 rfl rfl (Nat.le_of_ble_eq_true rfl) ⟨rfl, rfl⟩ ⟨Nat.le_of_ble_eq_true rfl, Nat.le_of_ble_eq_true rfl⟩ ?_
    refine gg_istn (i := 3) dc_P_put_5 rfl (Nat.le_of_ble_eq_true rfl) rfl ?_
    dsimp only [List.set]
    refine gg_aldn dc_P_put_6 rfl rfl ?_
    refine gg_ildn dc_P_put_7 rfl rfl ?_
    refine gg_ildn dc_P_put_8 rfl rfl ?_
    refine gg_okV (sp_P_isAtN hq (by omega) hp) dc_P_put_9 ml_P_15 ce_P_isAt ⟨Nat.le_of_ble_eq_true rfl, Nat.le_of_ble_eq_true rfl⟩ h0 rfl rfl (Nat.le_of_ble_eq_true rfl) ⟨rfl, rfl⟩ ⟨Nat.le_of_ble_eq_true rfl, Nat.le_of_ble_eq_true rfl⟩ ?_
    refine gg_ifeq dc_P_put_12 (fun c_12 => ?_) (fun c_12 => ?_)
    · refine gg_aldn dc_P_put_27 rfl rfl ?_
      refine gg_ildn dc_P_put_28 rfl rfl ?_
      refine gg_iconst (v := 1) dc_P_put_29 (by decide) ?_
      refine gg_iadd dc_P_put_30 ?_
      refine gx_top (nI_1 k) ?_
      refine gg_ildn dc_P_put_31 rfl rfl ?_
      refine gg_ildn dc_P_put_32 rfl rfl ?_
      refine gg_okUv (sp_Q_insertAt (Or.inr rfl) (show sh_Pl τ.2 2 10 q from hq) hn (by omega) (show (k + 1) ≤ n by omega) hlt) dc_P_put_33 ml_P_52 ce_Q_insertAt_P ⟨Nat.le_of_ble_eq_true rfl, Nat.le_of_ble_eq_true rfl⟩ h0 rfl rfl (Nat.le_of_ble_eq_true rfl) ⟨rfl, rfl⟩ ⟨Nat.le_of_ble_eq_true rfl, Nat.le_of_ble_eq_true rfl⟩ ?_
      exact gg_vret dc_P_put_36 rfl ⟨Nat.le_of_ble_eq_true rfl, Nat.le_of_ble_eq_true rfl⟩ (⟨rfl, rfl⟩)
    · exact absurd rfl c_12
set_option maxRecDepth 100000 in
set_option maxHeartbeats 4000000 in
theorem sp_P_putY {Γ : cx_T} {τ : Nat × (Nat → sh_T)} {ν : Nat → Nat → Int32} {q n : Nat} {x : Int32} (hq : sh_Pt τ.2 q) (hn : ν q 2 = nI n) (h10 : n ≤ 10) {d : Int32} {k : Nat} (hu : ut_N (ν (q + 1)) x n 0 = k + 1) (hp : ν (q + 1) k = x) : mt_P Γ mk_P_put [.ref q, .int x, .int d] (τ, ν) (fun v μ' => v = none ∧ μ' = (τ, up_2 ν (q + 2) k d)) := by
  refine mt_of (L := [some (.ref q), some (.int x), some (.int d), none]) (by decide +kernel) (by simp [Value.category]) (Nat.le_of_ble_eq_true rfl) (lc_3_4 ()) ?_
  obtain ⟨h0, h1, h2⟩ := id hq
  have hle := (ut_le (ν (q + 1)) x n 0).2
  refine gg_aldn dc_P_put_0 rfl rfl ?_
  refine gg_ildn dc_P_put_1 rfl rfl ?_
  refine gg_okV (sp_P_luK hq hn h10 hu) dc_P_put_2 ml_P_11 ce_P_lastUpTo ⟨Nat.le_of_ble_eq_true rfl, Nat.le_of_ble_eq_true rfl⟩ h0 rfl rfl (Nat.le_of_ble_eq_true rfl) ⟨rfl, rfl⟩ ⟨Nat.le_of_ble_eq_true rfl, Nat.le_of_ble_eq_true rfl⟩ ?_
  refine gg_istn (i := 3) dc_P_put_5 rfl (Nat.le_of_ble_eq_true rfl) rfl ?_
  dsimp only [List.set]
  refine gg_aldn dc_P_put_6 rfl rfl ?_
  refine gg_ildn dc_P_put_7 rfl rfl ?_
  refine gg_ildn dc_P_put_8 rfl rfl ?_
  refine gg_okV (sp_P_isAtY hq (by omega) hp) dc_P_put_9 ml_P_15 ce_P_isAt ⟨Nat.le_of_ble_eq_true rfl, Nat.le_of_ble_eq_true rfl⟩ h0 rfl rfl (Nat.le_of_ble_eq_true rfl) ⟨rfl, rfl⟩ ⟨Nat.le_of_ble_eq_true rfl, Nat.le_of_ble_eq_true rfl⟩ ?_
  refine gg_ifeq dc_P_put_12 (fun c_12 => ?_) (fun c_12 => ?_)
  · exact absurd c_12 (by decide)
  · refine gg_aldn dc_P_put_15 rfl rfl ?_
    refine gg_getr dc_P_put_16 lf_P_19 h0 rfl ?_
    refine gg_ildn dc_P_put_19 rfl rfl ?_
    refine gg_ildn dc_P_put_20 rfl rfl ?_
    refine gg_okSv (sp_R_putE h2 (by omega) rfl (by omega)) dc_P_put_21 ml_P_48 ce_R_put ⟨Nat.le_of_ble_eq_true rfl, Nat.le_of_ble_eq_true rfl⟩ rfl (Nat.le_of_ble_eq_true rfl) ⟨rfl, rfl⟩ ⟨Nat.le_of_ble_eq_true rfl, Nat.le_of_ble_eq_true rfl⟩ ?_
    refine gg_goto dc_P_put_24 ?_
    exact gg_vret dc_P_put_36 rfl ⟨Nat.le_of_ble_eq_true rfl, Nat.le_of_ble_eq_true rfl⟩ (⟨rfl, rfl⟩)
set_option maxRecDepth 100000 in
set_option maxHeartbeats 4000000 in
theorem sp_P_remove {Γ : cx_T} {τ : Nat × (Nat → sh_T)} {ν : Nat → Nat → Int32} {q n : Nat} {x : Int32} (hq : sh_Pt τ.2 q) (hn : ν q 2 = nI (n + 1)) (h10 : n + 1 ≤ 10) {k : Nat} (hu : ut_N (ν (q + 1)) x (n + 1) 0 = k + 1) (hp : ν (q + 1) k = x) : mt_P Γ mk_P_remove [.ref q, .int x] (τ, ν) (fun v μ' => v = none ∧ μ' = (τ, pt_set ν q (nI n) (cg_I (ν (q + 1)) k n) (cg_I (ν (q + 2)) k n))) := by
  refine mt_of (L := [some (.ref q), some (.int x), none]) (by decide +kernel) (by simp [Value.category]) (Nat.le_of_ble_eq_true rfl) (lc_2_3 ()) ?_
  obtain ⟨h0, h1, h2⟩ := id hq
  have hle := (ut_le (ν (q + 1)) x (n + 1) 0).2
  refine gg_aldn dc_P_remove_0 rfl rfl ?_
  refine gg_ildn dc_P_remove_1 rfl rfl ?_
  refine gg_okV (sp_P_luK hq hn h10 hu) dc_P_remove_2 ml_P_11 ce_P_lastUpTo ⟨Nat.le_of_ble_eq_true rfl, Nat.le_of_ble_eq_true rfl⟩ h0 rfl rfl (Nat.le_of_ble_eq_true rfl) ⟨rfl, rfl⟩ ⟨Nat.le_of_ble_eq_true rfl, Nat.le_of_ble_eq_true rfl⟩ ?_
  refine gg_istn (i := 2) dc_P_remove_5 rfl (Nat.le_of_ble_eq_true rfl) rfl ?_
  dsimp only [List.set]
  refine gg_aldn dc_P_remove_6 rfl rfl ?_
  refine gg_ildn dc_P_remove_7 rfl rfl ?_
  refine gg_ildn dc_P_remove_8 rfl rfl ?_
  refine gg_okV (sp_P_isAtY hq (by omega) hp) dc_P_remove_9 ml_P_15 ce_P_isAt ⟨Nat.le_of_ble_eq_true rfl, Nat.le_of_ble_eq_true rfl⟩ h0 rfl rfl (Nat.le_of_ble_eq_true rfl) ⟨rfl, rfl⟩ ⟨Nat.le_of_ble_eq_true rfl, Nat.le_of_ble_eq_true rfl⟩ ?_
  refine gg_ifeq dc_P_remove_12 (fun c_12 => ?_) (fun c_12 => ?_)
  · exact absurd c_12 (by decide)
  · refine gg_aldn dc_P_remove_15 rfl rfl ?_
    refine gg_ildn dc_P_remove_16 rfl rfl ?_
    refine gg_okUv (sp_Q_removeAt (Or.inr rfl) (show sh_Pl τ.2 2 10 q from hq) hn (by omega) (show k ≤ n by omega) (by omega)) dc_P_remove_17 ml_P_56 ce_Q_removeAt_P ⟨Nat.le_of_ble_eq_true rfl, Nat.le_of_ble_eq_true rfl⟩ h0 rfl rfl (Nat.le_of_ble_eq_true rfl) ⟨rfl, rfl⟩ ⟨Nat.le_of_ble_eq_true rfl, Nat.le_of_ble_eq_true rfl⟩ ?_
    exact gg_vret dc_P_remove_20 rfl ⟨Nat.le_of_ble_eq_true rfl, Nat.le_of_ble_eq_true rfl⟩ (⟨rfl, rfl⟩)
set_option maxRecDepth 100000 in
set_option maxHeartbeats 4000000 in
theorem sp_Q_copyFrom {Γ : cx_T} {τ : Nat × (Nat → sh_T)} {ν : Nat → Nat → Int32} {ci N q p : Nat} (hci : ci = 1 ∨ ci = 2) (hq : sh_Pl τ.2 ci N q) (hp : sh_Pl τ.2 ci N p) (hN : N < 2 ^ 31) (hd : p + 2 < q ∨ q + 2 < p) : mt_P Γ mk_Q_copyFrom [.ref q, .ref p] (τ, ν) (fun v μ' => v = none ∧ μ' = (τ, pt_set ν q (ν p 2) (cp_N (ν (p + 1)) (ν (q + 1)) N) (cp_N (ν (p + 2)) (ν (q + 2)) N))) := by
  refine mt_of (L := [some (.ref q), some (.ref p)]) (by decide +kernel) (by simp [Value.category]) (Nat.le_of_ble_eq_true rfl) (lc_2_2 ()) ?_
  obtain ⟨h0, h1, h2⟩ := id hq
  obtain ⟨g0, g1, g2⟩ := id hp
  refine gg_aldn dc_Q_copyFrom_0 rfl rfl ?_
  refine gg_getr dc_Q_copyFrom_1 (lf_Q_13 hci) g0 rfl ?_
  refine gg_aldn dc_Q_copyFrom_4 rfl rfl ?_
  refine gg_getr dc_Q_copyFrom_5 (lf_Q_13 hci) h0 rfl ?_
  refine gg_okSv (sp_R_copy g1 h1 (by omega)) dc_Q_copyFrom_8 ml_Q_26 ce_R_copy ⟨Nat.le_of_ble_eq_true rfl, Nat.le_of_ble_eq_true rfl⟩ rfl (Nat.le_of_ble_eq_true rfl) ⟨rfl, rfl⟩ ⟨Nat.le_of_ble_eq_true rfl, Nat.le_of_ble_eq_true rfl⟩ ?_
  refine gg_aldn dc_Q_copyFrom_11 rfl rfl ?_
  refine gg_getr dc_Q_copyFrom_12 (lf_Q_19 hci) g0 rfl ?_
  refine gg_aldn dc_Q_copyFrom_15 rfl rfl ?_
  refine gg_getr dc_Q_copyFrom_16 (lf_Q_19 hci) h0 rfl ?_
  refine gg_okSv (sp_R_copy g2 h2 (by omega)) dc_Q_copyFrom_19 ml_Q_26 ce_R_copy ⟨Nat.le_of_ble_eq_true rfl, Nat.le_of_ble_eq_true rfl⟩ rfl (Nat.le_of_ble_eq_true rfl) ⟨rfl, rfl⟩ ⟨Nat.le_of_ble_eq_true rfl, Nat.le_of_ble_eq_true rfl⟩ ?_
  refine gg_aldn dc_Q_copyFrom_22 rfl rfl ?_
  refine gg_aldn dc_Q_copyFrom_23 rfl rfl ?_
  refine gx_geti dc_Q_copyFrom_24 (lf_Q_22 hci) g0 rfl ?_
  refine gg_puti dc_Q_copyFrom_27 (lp_Q_22 hci) h0 rfl ?_
  refine gg_vret dc_Q_copyFrom_30 rfl ⟨Nat.le_of_ble_eq_true rfl, Nat.le_of_ble_eq_true rfl⟩ ?_
  refine ⟨rfl, congrArg (Prod.mk τ) ?_⟩
  funext b j
  by_cases e2 : b = q + 2
  · subst e2; simp [pt_set, va_up, up_2, cp_va, show ¬ p + 2 = q + 1 by omega]
  · by_cases e1 : b = q + 1
    · subst e1; simp [pt_set, va_up, up_2, cp_va]
    · by_cases e0 : b = q
      · subst e0; simp [pt_set, va_up, up_2, cp_va, show ¬ p = b + 2 by omega, show ¬ p = b + 1 by omega]
      · simp [pt_set, va_up, up_2, e0, e1, e2]
theorem sp_P_copyFrom {Γ : cx_T} {τ : Nat × (Nat → sh_T)} {ν : Nat → Nat → Int32} {q p : Nat} (hq : sh_Pt τ.2 q) (hp : sh_Pt τ.2 p) (hd : p + 2 < q ∨ q + 2 < p) : mt_P Γ mk_Q_copyFrom [.ref q, .ref p] (τ, ν) (fun v μ' => v = none ∧ μ' = (τ, pt_set ν q (ν p 2) (cp_N (ν (p + 1)) (ν (q + 1)) 10) (cp_N (ν (p + 2)) (ν (q + 2)) 10))) := sp_Q_copyFrom (Or.inr rfl) hq hp (by omega) hd
theorem sp_C_copyFrom {Γ : cx_T} {τ : Nat × (Nat → sh_T)} {ν : Nat → Nat → Int32} {q p : Nat} (hq : sh_Cm τ.2 q) (hp : sh_Cm τ.2 p) (hd : p + 2 < q ∨ q + 2 < p) : mt_P Γ mk_Q_copyFrom [.ref q, .ref p] (τ, ν) (fun v μ' => v = none ∧ μ' = (τ, pt_set ν q (ν p 2) (cp_N (ν (p + 1)) (ν (q + 1)) 8) (cp_N (ν (p + 2)) (ν (q + 2)) 8))) := sp_Q_copyFrom (Or.inl rfl) hq hp (by omega) hd
def vb_I (u n : Nat) (P V : Nat → Int32) (x : Int32) : Int32 := match u with
  | 0 => if n = 0 then 0 else V 0
  | k + 1 => if n ≤ k + 1 then V k else if P (k + 1) - P k ≤ 0 then V k else V k + fd_I ((V (k + 1) - V k) * (x - P k)) (P (k + 1) - P k)
theorem vb_0 {n : Nat} {P V : Nat → Int32} {x : Int32} : vb_I 0 n P V x = if n = 0 then 0 else V 0 := rfl
theorem vb_s {k n : Nat} {P V : Nat → Int32} {x : Int32} : vb_I (k + 1) n P V x = if n ≤ k + 1 then V k else if P (k + 1) - P k ≤ 0 then V k else V k + fd_I ((V (k + 1) - V k) * (x - P k)) (P (k + 1) - P k) := rfl
set_option maxRecDepth 100000 in
set_option maxHeartbeats 4000000 in
theorem sp_P_valueBetween {Γ : cx_T} {τ : Nat × (Nat → sh_T)} {ν : Nat → Nat → Int32} {q n : Nat} {x : Int32} (hq : sh_Pt τ.2 q) (hn : ν q 2 = nI n) (h10 : n ≤ 10) : mt_P Γ mk_P_valueBetween [.ref q, .int x] (τ, ν) (fun v μ' => v = some (.int (vb_I (ut_N (ν (q + 1)) x n 0) n (ν (q + 1)) (ν (q + 2)) x)) ∧ μ' = (τ, ν)) := by
  refine mt_of (L := [some (.ref q), some (.int x), none, none, none, none, none]) (by decide +kernel) (by simp [Value.category]) (Nat.le_of_ble_eq_true rfl) (lc_2_7 ()) ?_
  obtain ⟨h0, h1, h2⟩ := id hq
  have hle := (ut_le (ν (q + 1)) x n 0).2
  rcases hu : ut_N (ν (q + 1)) x n 0 with _ | k
  · refine gg_aldn dc_P_valueBetween_0 rfl rfl ?_
    refine gg_ildn dc_P_valueBetween_1 rfl rfl ?_
    refine gg_okV (sp_P_lu0 hq hn h10 hu) dc_P_valueBetween_2 ml_P_11 ce_P_lastUpTo ⟨Nat.le_of_ble_eq_true rfl, Nat.le_of_ble_eq_true rfl⟩ h0 rfl rfl (Nat.le_of_ble_eq_true rfl) ⟨rfl, rfl⟩ ⟨Nat.le_of_ble_eq_true rfl, Nat.le_of_ble_eq_true rfl⟩ ?_
    refine gg_istn (i := 2) dc_P_valueBetween_5 rfl (Nat.le_of_ble_eq_true rfl) rfl ?_
    dsimp only [List.set]
    refine gg_ildn dc_P_valueBetween_6 rfl rfl ?_
    refine gg_ifge dc_P_valueBetween_7 (fun c_7 => ?_) (fun c_7 => ?_)
    · exact absurd c_7 (by decide)
    · refine gg_aldn dc_P_valueBetween_10 rfl rfl ?_
      refine gx_geti dc_P_valueBetween_11 lf_P_33 h0 rfl ?_
      rw [hn]
      refine gg_ifle dc_P_valueBetween_14 (fun c_14 => ?_) (fun c_14 => ?_)
      · refine gg_iconst (v := 0) dc_P_valueBetween_28 (by decide) ?_
        exact gg_iret dc_P_valueBetween_29 rfl ⟨Nat.le_of_ble_eq_true rfl, Nat.le_of_ble_eq_true rfl⟩ (⟨by rw [vb_0, if_pos (Classical.not_not.mp fun q => absurd c_14 (nI_nle (by omega) (by omega)))], rfl⟩)
      · refine gg_aldn dc_P_valueBetween_17 rfl rfl ?_
        refine gg_getr dc_P_valueBetween_18 lf_P_19 h0 rfl ?_
        refine gg_iconst (v := 0) dc_P_valueBetween_21 (by decide) ?_
        refine gg_okS (sp_R_atE h2 (by omega) rfl (show 0 < 10 by omega)) dc_P_valueBetween_22 ml_P_23 ce_R_at ⟨Nat.le_of_ble_eq_true rfl, Nat.le_of_ble_eq_true rfl⟩ rfl (Nat.le_of_ble_eq_true rfl) ⟨rfl, rfl⟩ ⟨Nat.le_of_ble_eq_true rfl, Nat.le_of_ble_eq_true rfl⟩ ?_
        refine gg_goto dc_P_valueBetween_25 ?_
        exact gg_iret dc_P_valueBetween_29 rfl ⟨Nat.le_of_ble_eq_true rfl, Nat.le_of_ble_eq_true rfl⟩ (⟨by rw [vb_0, if_neg (fun q => c_14 (by rw [q]; decide))], rfl⟩)
  · have hk : k < n := by omega
    refine gg_aldn dc_P_valueBetween_0 rfl rfl ?_
    refine gg_ildn dc_P_valueBetween_1 rfl rfl ?_
    refine gg_okV (sp_P_luK hq hn h10 hu) dc_P_valueBetween_2 ml_P_11 ce_P_lastUpTo ⟨Nat.le_of_ble_eq_true rfl, Nat.le_of_ble_eq_true rfl⟩ h0 rfl rfl (Nat.le_of_ble_eq_true rfl) ⟨rfl, rfl⟩ ⟨Nat.le_of_ble_eq_true rfl, Nat.le_of_ble_eq_true rfl⟩ ?_
    refine gg_istn (i := 2) dc_P_valueBetween_5 rfl (Nat.le_of_ble_eq_true rfl) rfl ?_
    dsimp only [List.set]
    refine gg_ildn dc_P_valueBetween_6 rfl rfl ?_
    refine gg_ifge dc_P_valueBetween_7 (fun c_7 => ?_) (fun c_7 => ?_)
    · refine gg_aldn dc_P_valueBetween_30 rfl rfl ?_
      refine gg_getr dc_P_valueBetween_31 lf_P_19 h0 rfl ?_
      refine gg_ildn dc_P_valueBetween_34 rfl rfl ?_
      refine gg_okS (sp_R_atE h2 (by omega) rfl (by omega)) dc_P_valueBetween_35 ml_P_23 ce_R_at ⟨Nat.le_of_ble_eq_true rfl, Nat.le_of_ble_eq_true rfl⟩ rfl (Nat.le_of_ble_eq_true rfl) ⟨rfl, rfl⟩ ⟨Nat.le_of_ble_eq_true rfl, Nat.le_of_ble_eq_true rfl⟩ ?_
      refine gg_istn (i := 3) dc_P_valueBetween_38 rfl (Nat.le_of_ble_eq_true rfl) rfl ?_
      dsimp only [List.set]
      refine gg_ildn dc_P_valueBetween_39 rfl rfl ?_
      refine gg_iconst (v := 1) dc_P_valueBetween_40 (by decide) ?_
      refine gg_iadd dc_P_valueBetween_41 ?_
      refine gx_top (nI_1 k) ?_
      refine gg_aldn dc_P_valueBetween_42 rfl rfl ?_
      refine gx_geti dc_P_valueBetween_43 lf_P_33 h0 rfl ?_
      rw [hn]
      refine gg_iclt dc_P_valueBetween_46 (fun c_46 => ?_) (fun c_46 => ?_)
      · refine gg_aldn dc_P_valueBetween_51 rfl rfl ?_
        refine gg_getr dc_P_valueBetween_52 lf_P_29 h0 rfl ?_
        refine gg_ildn dc_P_valueBetween_55 rfl rfl ?_
        refine gg_okS (sp_R_atE h1 (by omega) rfl (by omega)) dc_P_valueBetween_56 ml_P_23 ce_R_at ⟨Nat.le_of_ble_eq_true rfl, Nat.le_of_ble_eq_true rfl⟩ rfl (Nat.le_of_ble_eq_true rfl) ⟨rfl, rfl⟩ ⟨Nat.le_of_ble_eq_true rfl, Nat.le_of_ble_eq_true rfl⟩ ?_
        refine gg_ist (i := 4) dc_P_valueBetween_59 (Nat.le_of_ble_eq_true rfl) rfl ?_
        dsimp only [List.set]
        refine gg_aldn dc_P_valueBetween_61 rfl rfl ?_
        refine gg_getr dc_P_valueBetween_62 lf_P_29 h0 rfl ?_
        refine gg_ildn dc_P_valueBetween_65 rfl rfl ?_
        refine gg_iconst (v := 1) dc_P_valueBetween_66 (by decide) ?_
        refine gg_iadd dc_P_valueBetween_67 ?_
        refine gg_okS (sp_R_atE h1 (by omega) (nI_1 k) (by have := Classical.not_not.mp (fun q : ¬ k + 1 < n => absurd c_46 (nI_nlt (by omega) (by omega))); omega)) dc_P_valueBetween_68 ml_P_23 ce_R_at ⟨Nat.le_of_ble_eq_true rfl, Nat.le_of_ble_eq_true rfl⟩ rfl (Nat.le_of_ble_eq_true rfl) ⟨rfl, rfl⟩ ⟨Nat.le_of_ble_eq_true rfl, Nat.le_of_ble_eq_true rfl⟩ ?_
        refine gg_ild dc_P_valueBetween_71 rfl ?_
        refine gg_isub dc_P_valueBetween_73 ?_
        refine gg_ist (i := 5) dc_P_valueBetween_74 (Nat.le_of_ble_eq_true rfl) rfl ?_
        dsimp only [List.set]
        refine gg_ild dc_P_valueBetween_76 rfl ?_
        refine gg_ifgt dc_P_valueBetween_78 (fun c_78 => ?_) (fun c_78 => ?_)
        · refine gg_aldn dc_P_valueBetween_83 rfl rfl ?_
          refine gg_getr dc_P_valueBetween_84 lf_P_19 h0 rfl ?_
          refine gg_ildn dc_P_valueBetween_87 rfl rfl ?_
          refine gg_iconst (v := 1) dc_P_valueBetween_88 (by decide) ?_
          refine gg_iadd dc_P_valueBetween_89 ?_
          refine gg_okS (sp_R_atE h2 (by omega) (nI_1 k) (by have := Classical.not_not.mp (fun q : ¬ k + 1 < n => absurd c_46 (nI_nlt (by omega) (by omega))); omega)) dc_P_valueBetween_90 ml_P_23 ce_R_at ⟨Nat.le_of_ble_eq_true rfl, Nat.le_of_ble_eq_true rfl⟩ rfl (Nat.le_of_ble_eq_true rfl) ⟨rfl, rfl⟩ ⟨Nat.le_of_ble_eq_true rfl, Nat.le_of_ble_eq_true rfl⟩ ?_
          refine gg_ildn dc_P_valueBetween_93 rfl rfl ?_
          refine gg_isub dc_P_valueBetween_94 ?_
          refine gg_ist (i := 6) dc_P_valueBetween_95 (Nat.le_of_ble_eq_true rfl) rfl ?_
          dsimp only [List.set]
          refine gg_ildn dc_P_valueBetween_97 rfl rfl ?_
          refine gg_ild dc_P_valueBetween_98 rfl ?_
          refine gg_ildn dc_P_valueBetween_100 rfl rfl ?_
          refine gg_ild dc_P_valueBetween_101 rfl ?_
          refine gg_isub dc_P_valueBetween_103 ?_
          refine gg_imul dc_P_valueBetween_104 ?_
          refine gg_ild dc_P_valueBetween_105 rfl ?_
          refine gg_okS (sp_J_floorDiv (fun e => absurd c_78 (by rw [e]; decide))) dc_P_valueBetween_107 ml_P_38 ce_J_floorDiv ⟨Nat.le_of_ble_eq_true rfl, Nat.le_of_ble_eq_true rfl⟩ rfl (Nat.le_of_ble_eq_true rfl) ⟨rfl, rfl⟩ ⟨Nat.le_of_ble_eq_true rfl, Nat.le_of_ble_eq_true rfl⟩ ?_
          refine gg_iadd dc_P_valueBetween_110 ?_
          exact gg_iret dc_P_valueBetween_111 rfl ⟨Nat.le_of_ble_eq_true rfl, Nat.le_of_ble_eq_true rfl⟩ (⟨by rw [vb_s, if_neg (fun q => absurd c_46 (nI_nlt q (by omega))), if_neg (Int32.not_le.mpr c_78)], rfl⟩)
        · refine gg_ildn dc_P_valueBetween_81 rfl rfl ?_
          exact gg_iret dc_P_valueBetween_82 rfl ⟨Nat.le_of_ble_eq_true rfl, Nat.le_of_ble_eq_true rfl⟩ (⟨by rw [vb_s, if_neg (fun q => absurd c_46 (nI_nlt q (by omega))), if_pos (Int32.not_lt.mp c_78)], rfl⟩)
      · refine gg_ildn dc_P_valueBetween_49 rfl rfl ?_
        exact gg_iret dc_P_valueBetween_50 rfl ⟨Nat.le_of_ble_eq_true rfl, Nat.le_of_ble_eq_true rfl⟩ (⟨by rw [vb_s, if_pos (Classical.not_not.mp fun q => c_46 (nI_lt (by omega) (by omega)))], rfl⟩)
    · exact absurd (nI_pos' (by omega)) c_7
theorem sp_C_isFull {Γ : cx_T} {τ : Nat × (Nat → sh_T)} {ν : Nat → Nat → Int32} {q n : Nat} (hq : sh_Cm τ.2 q) (hn : ν q 2 = nI n) (h8 : n ≤ 8) : mt_P Γ mk_Q_isFull [.ref q] (τ, ν) (fun v μ' => v = some (.int (if n < 8 then 0 else 1)) ∧ μ' = (τ, ν)) := sp_Q_isFull (Or.inl rfl) (show sh_Pl τ.2 1 8 q from hq) hn (by omega) h8
set_option maxRecDepth 100000 in
set_option maxHeartbeats 4000000 in
theorem sp_C_placeOf {Γ : cx_T} {τ : Nat × (Nat → sh_T)} {ν : Nat → Nat → Int32} {q k : Nat} {i : Int32} (hq : sh_Cm τ.2 q) (hi : i = nI k) (hk : k < 8) : mt_P Γ mk_C_placeOf [.ref q, .int i] (τ, ν) (fun v μ' => v = some (.int (ν (q + 1) k)) ∧ μ' = (τ, ν)) := by
  refine mt_of (L := [some (.ref q), some (.int i)]) (by decide +kernel) (by simp [Value.category]) (Nat.le_of_ble_eq_true rfl) (lc_2_2 ()) ?_
  obtain ⟨h0, h1, h2⟩ := id hq
  refine gg_aldn dc_C_placeOf_0 rfl rfl ?_
  refine gg_getr dc_C_placeOf_1 lf_C_9 h0 rfl ?_
  refine gg_ildn dc_C_placeOf_4 rfl rfl ?_
  refine gg_okS (sp_R_atE h1 (by omega) hi hk) dc_C_placeOf_5 ml_C_13 ce_R_at ⟨Nat.le_of_ble_eq_true rfl, Nat.le_of_ble_eq_true rfl⟩ rfl (Nat.le_of_ble_eq_true rfl) ⟨rfl, rfl⟩ ⟨Nat.le_of_ble_eq_true rfl, Nat.le_of_ble_eq_true rfl⟩ ?_
  exact gg_iret dc_C_placeOf_8 rfl ⟨Nat.le_of_ble_eq_true rfl, Nat.le_of_ble_eq_true rfl⟩ (⟨rfl, rfl⟩)
set_option maxRecDepth 100000 in
set_option maxHeartbeats 4000000 in
theorem sp_C_priorityOf {Γ : cx_T} {τ : Nat × (Nat → sh_T)} {ν : Nat → Nat → Int32} {q k : Nat} {i : Int32} (hq : sh_Cm τ.2 q) (hi : i = nI k) (hk : k < 8) : mt_P Γ mk_C_priorityOf [.ref q, .int i] (τ, ν) (fun v μ' => v = some (.int (ν (q + 2) k)) ∧ μ' = (τ, ν)) := by
  refine mt_of (L := [some (.ref q), some (.int i)]) (by decide +kernel) (by simp [Value.category]) (Nat.le_of_ble_eq_true rfl) (lc_2_2 ()) ?_
  obtain ⟨h0, h1, h2⟩ := id hq
  refine gg_aldn dc_C_priorityOf_0 rfl rfl ?_
  refine gg_getr dc_C_priorityOf_1 lf_C_19 h0 rfl ?_
  refine gg_ildn dc_C_priorityOf_4 rfl rfl ?_
  refine gg_okS (sp_R_atE h2 (by omega) hi hk) dc_C_priorityOf_5 ml_C_13 ce_R_at ⟨Nat.le_of_ble_eq_true rfl, Nat.le_of_ble_eq_true rfl⟩ rfl (Nat.le_of_ble_eq_true rfl) ⟨rfl, rfl⟩ ⟨Nat.le_of_ble_eq_true rfl, Nat.le_of_ble_eq_true rfl⟩ ?_
  exact gg_iret dc_C_priorityOf_8 rfl ⟨Nat.le_of_ble_eq_true rfl, Nat.le_of_ble_eq_true rfl⟩ (⟨rfl, rfl⟩)
set_option maxRecDepth 100000 in
set_option maxHeartbeats 4000000 in
theorem sp_C_takeNext {Γ : cx_T} {τ : Nat × (Nat → sh_T)} {ν : Nat → Nat → Int32} {q n : Nat} (hq : sh_Cm τ.2 q) (hn : ν q 2 = nI (n + 1)) (h8 : n < 8) : mt_P Γ mk_C_takeNext [.ref q] (τ, ν) (fun v μ' => v = some (.int (ν (q + 1) 0)) ∧ μ' = (τ, pt_set ν q (nI n) (cg_I (ν (q + 1)) 0 n) (cg_I (ν (q + 2)) 0 n))) := by
  refine mt_of (L := [some (.ref q), none]) (by decide +kernel) (by simp [Value.category]) (Nat.le_of_ble_eq_true rfl) (lc_1_2 ()) ?_
  obtain ⟨h0, h1, h2⟩ := id hq
  refine gg_aldn dc_C_takeNext_0 rfl rfl ?_
  refine gg_iconst (v := 0) dc_C_takeNext_1 (by decide) ?_
  refine gg_okV (sp_C_placeOf hq nI_of0 (show 0 < 8 by omega)) dc_C_takeNext_2 ml_C_34 ce_C_placeOf ⟨Nat.le_of_ble_eq_true rfl, Nat.le_of_ble_eq_true rfl⟩ h0 rfl rfl (Nat.le_of_ble_eq_true rfl) ⟨rfl, rfl⟩ ⟨Nat.le_of_ble_eq_true rfl, Nat.le_of_ble_eq_true rfl⟩ ?_
  refine gg_istn (i := 1) dc_C_takeNext_5 rfl (Nat.le_of_ble_eq_true rfl) rfl ?_
  dsimp only [List.set]
  refine gg_aldn dc_C_takeNext_6 rfl rfl ?_
  refine gg_iconst (v := 0) dc_C_takeNext_7 (by decide) ?_
  refine gg_okUv (sp_Q_removeAt (u := 0) (Or.inl rfl) (show sh_Pl τ.2 1 8 q from hq) hn (by omega) (by omega) (by omega)) dc_C_takeNext_8 ml_C_37 ce_Q_removeAt_C ⟨Nat.le_of_ble_eq_true rfl, Nat.le_of_ble_eq_true rfl⟩ h0 rfl rfl (Nat.le_of_ble_eq_true rfl) ⟨rfl, rfl⟩ ⟨Nat.le_of_ble_eq_true rfl, Nat.le_of_ble_eq_true rfl⟩ ?_
  refine gg_ildn dc_C_takeNext_11 rfl rfl ?_
  exact gg_iret dc_C_takeNext_12 rfl ⟨Nat.le_of_ble_eq_true rfl, Nat.le_of_ble_eq_true rfl⟩ (⟨rfl, rfl⟩)
set_option maxRecDepth 100000 in
set_option maxHeartbeats 4000000 in
theorem sp_C_insert {Γ : cx_T} {τ : Nat × (Nat → sh_T)} {ν : Nat → Nat → Int32} {q n : Nat} (hq : sh_Cm τ.2 q) (hn : ν q 2 = nI n) (h8 : n < 8) {x y : Int32} : mt_P Γ mk_C_insert [.ref q, .int x, .int y] (τ, ν) (fun v μ' => v = none ∧ μ' = (τ, pt_set ν q (nI (n + 1)) (in_F (ν (q + 1)) (pr_N (ν (q + 2)) y n 0) n x) (in_F (ν (q + 2)) (pr_N (ν (q + 2)) y n 0) n y))) := by
  refine mt_of (L := [some (.ref q), some (.int x), some (.int y), none]) (by decide +kernel) (by simp [Value.category]) (Nat.le_of_ble_eq_true rfl) (lc_3_4 ()) ?_
  obtain ⟨h0, h1, h2⟩ := id hq
  obtain ⟨u, hu0⟩ : ∃ u, u = pr_N (ν (q + 2)) y n 0 := ⟨_, rfl⟩
  have hle := (pr_le (ν (q + 2)) y n 0).2
  rw [← hu0] at hle ⊢
  have tail : gg_P Γ mk_C_insert (fun v μ' => v = none ∧ μ' = (τ, pt_set ν q (nI (n + 1)) (in_F (ν (q + 1)) (u) n x) (in_F (ν (q + 2)) (u) n y))) 0 0 25 [some (.ref q), some (.int x), some (.int y), some (.int (nI u))] [] (τ, ν) := by
    refine gg_aldn dc_C_insert_25 rfl rfl ?_
    refine gg_ildn dc_C_insert_26 rfl rfl ?_
    refine gg_ildn dc_C_insert_27 rfl rfl ?_
    refine gg_ildn dc_C_insert_28 rfl rfl ?_
    refine gg_okUv (sp_Q_insertAt (Or.inl rfl) (show sh_Pl τ.2 1 8 q from hq) hn (by omega) (show u ≤ n by omega) h8) dc_C_insert_29 ml_C_30 ce_Q_insertAt_C ⟨Nat.le_of_ble_eq_true rfl, Nat.le_of_ble_eq_true rfl⟩ h0 rfl rfl (Nat.le_of_ble_eq_true rfl) ⟨rfl, rfl⟩ ⟨Nat.le_of_ble_eq_true rfl, Nat.le_of_ble_eq_true rfl⟩ ?_
    exact gg_vret dc_C_insert_32 rfl ⟨Nat.le_of_ble_eq_true rfl, Nat.le_of_ble_eq_true rfl⟩ (⟨rfl, rfl⟩)
  have loop : ∀ (d i : Nat), i + d = n → pr_N (ν (q + 2)) y d i = u → gg_P Γ mk_C_insert (fun v μ' => v = none ∧ μ' = (τ, pt_set ν q (nI (n + 1)) (in_F (ν (q + 1)) (u) n x) (in_F (ν (q + 2)) (u) n y))) 0 0 2 [some (.ref q), some (.int x), some (.int y), some (.int (nI i))] [] (τ, ν) := by
    intro d
    induction d with
    | zero =>
      intro i hi hu
      have hi : i = n := by omega
      subst hi
      refine gg_ildn dc_C_insert_2 rfl rfl ?_
      refine gg_aldn dc_C_insert_3 rfl rfl ?_
      refine gx_geti dc_C_insert_4 lf_C_22 h0 rfl ?_
      rw [hn]
      refine gg_icge dc_C_insert_7 (fun c_7 => ?_) (fun c_7 => ?_)
      · have hu9 : u = i := by rw [← hu]; rfl
        exact gg_e tail (by rw [hu9]) rfl rfl
      · exact absurd (Int32.le_refl _) c_7
    | succ d ih =>
      intro i hi hu
      refine gg_ildn dc_C_insert_2 rfl rfl ?_
      refine gg_aldn dc_C_insert_3 rfl rfl ?_
      refine gx_geti dc_C_insert_4 lf_C_22 h0 rfl ?_
      rw [hn]
      refine gg_icge dc_C_insert_7 (fun c_7 => ?_) (fun c_7 => ?_)
      · exact absurd c_7 (nI_ge (by omega) (by omega))
      · refine gg_aldn dc_C_insert_10 rfl rfl ?_
        refine gg_ildn dc_C_insert_11 rfl rfl ?_
        refine gg_okV (sp_C_priorityOf hq rfl (by omega)) dc_C_insert_12 ml_C_26 ce_C_priorityOf ⟨Nat.le_of_ble_eq_true rfl, Nat.le_of_ble_eq_true rfl⟩ h0 rfl rfl (Nat.le_of_ble_eq_true rfl) ⟨rfl, rfl⟩ ⟨Nat.le_of_ble_eq_true rfl, Nat.le_of_ble_eq_true rfl⟩ ?_
        refine gg_ildn dc_C_insert_15 rfl rfl ?_
        refine gg_iclt dc_C_insert_16 (fun c_16 => ?_) (fun c_16 => ?_)
        · have hu9 : u = i := by rw [← hu, pr_e c_16]
          exact gg_e tail (by rw [hu9]) rfl rfl
        · refine gg_iinc (i := 3) dc_C_insert_19 rfl (Nat.le_of_ble_eq_true rfl) rfl ?_
          dsimp only [List.set]
          rw [show Int32.ofInt 1 = 1 from by decide]
          refine gg_goto dc_C_insert_22 ?_
          refine gg_e (ih (i + 1) (by omega) (by rw [← hu, pr_s c_16])) (by rw [nI_1]) rfl rfl
  refine gg_iconst (v := 0) dc_C_insert_0 (by decide) ?_
  refine gg_istn (i := 3) dc_C_insert_1 rfl (Nat.le_of_ble_eq_true rfl) rfl ?_
  dsimp only [List.set]
  exact loop n 0 (by omega) hu0.symm
