/-! p29: the law's small methods, and what it tells of an object -/
def lw_I (v n : Int32) : Int32 := (v &&& 2147483647) - (v &&& 2147483647) / n * n
def kk_I (i : Nat) : Int32 := nI (25 * i) - 400
theorem kk_ti {i : Nat} (h : i ≤ 1000) : (kk_I i).toInt = 25 * (i : Int) - 400 := by
  unfold kk_I
  rw [ti_sub (by rw [nI_toInt (by omega)]; show _ ≤ _ - (400 : Int) ∧ _ - (400 : Int) ≤ _; omega), nI_toInt (by omega)]
  show _ - (400 : Int) = _
  omega
theorem kk_0 : kk_I 0 = -400 := by decide
theorem kk_s {i : Nat} (h : i ≤ 900) : kk_I i + 25 = kk_I (i + 1) := by
  rw [ti_eq, kk_ti (by omega), ti_add (by rw [kk_ti (by omega)]; show _ ≤ _ + (25 : Int) ∧ _ + (25 : Int) ≤ _; omega), kk_ti (by omega)]
  show _ + (25 : Int) = _
  omega
theorem kk_in {i : Nat} (h : i ≤ 100) : ¬ in_I (kk_I i) (-20000) 20000 = 0 := in_no (by rw [ti_lt, kk_ti (by omega)]; show ¬ _ < (-20000 : Int); omega) (by rw [ti_lt, kk_ti (by omega)]; show ¬ (20000 : Int) < _; omega)
def t1_N (S : Nat → Int32) : Nat → Nat → Int64 → Int64
  | 0, _, a => a
  | d + 1, i, a => t1_N S d (i + 1) (a * 31 + (rd_N S i).toInt64)
def t2_N (S : Nat → Int32) : Nat → Nat → Int64 → Int64
  | 0, _, a => a
  | d + 1, i, a => t2_N S d (i + 1) (a * 37 + (S (12 + i)).toInt64)
def t3_N (S : Nat → Int32) : Nat → Nat → Int64 → Int64
  | 0, _, a => a
  | d + 1, i, a => t3_N S d (i + 1) (a * 41 + (lo_S S (kk_I i)).toInt64 + 3 * (er_S S (kk_I i)).toInt64)
def t4_N (S : Nat → Int32) : Nat → Nat → Int64 → Int64
  | 0, _, a => a
  | d + 1, i, a => t4_N S d (i + 1) (a * 43 + (cd_V S i 0).toInt64 + 3 * (cd_V S i 1).toInt64)
def te_N (S : Nat → Int32) (a : Int64) : Int64 := a * 47 + (fg_V S 0).toInt64 + 3 * (fg_V S 1).toInt64
def tl_N (S : Nat → Int32) : Int64 := te_N S (t4_N S 8 0 (t3_N S 33 0 (t2_N S 6 0 (t1_N S 18 0 3))))
set_option maxRecDepth 100000 in
set_option maxHeartbeats 4000000 in
theorem sp_L_low {Γ : cx_T} {τ : Nat × (Nat → sh_T)} {ν : Nat → Nat → Int32} {y n : Int32} (hn : ¬ n = 0) : mt_P Γ mk_L_low [.int y, .int n] (τ, ν) (fun v μ' => v = some (.int (lw_I y n)) ∧ μ' = (τ, ν)) := by
  refine mt_of (L := [some (.int y), some (.int n)]) (by decide +kernel) (by simp [Value.category]) (Nat.le_of_ble_eq_true rfl) (lc_2_2 ()) ?_
  refine gg_ildn dc_L_low_0 rfl rfl ?_
  refine gg_ldc dc_L_low_1 lk_L_7 ?_
  refine gg_iand dc_L_low_3 ?_
  refine gg_ildn dc_L_low_4 rfl rfl ?_
  refine gg_irem dc_L_low_5 (hn) ?_
  exact gg_iret dc_L_low_6 rfl ⟨Nat.le_of_ble_eq_true rfl, Nat.le_of_ble_eq_true rfl⟩ (⟨rfl, rfl⟩)
set_option maxRecDepth 100000 in
set_option maxHeartbeats 4000000 in
theorem sp_L_cell {Γ : cx_T} {τ : Nat × (Nat → sh_T)} {ν : Nat → Nat → Int32} {b L k : Nat} (h : τ.2 b = .inl (2, L)) (hL : L < 2 ^ 31) (hk : k < 2 ^ 31) : mt_P Γ mk_L_cell [.ref b, .int (nI k)] (τ, ν) (fun v μ' => ∃ x : Int32, v = some (.int x) ∧ μ' = (τ, ν)) := by
  refine mt_of (L := [some (.ref b), some (.int (nI k))]) (by decide +kernel) (by simp [Value.category]) (Nat.le_of_ble_eq_true rfl) (lc_2_2 ()) ?_
  refine gg_ildn dc_L_cell_0 rfl rfl ?_
  refine gg_aldn dc_L_cell_1 rfl rfl ?_
  refine gg_alen dc_L_cell_2 (Or.inr (Or.inl h)) rfl ?_
  refine gg_icge dc_L_cell_3 (fun c_3 => ?_) (fun c_3 => ?_)
  · refine gg_sipush (v := 7919) dc_L_cell_12 (by decide) ?_
    refine gg_ildn dc_L_cell_15 rfl rfl ?_
    refine gg_iconst (v := 3) dc_L_cell_16 (by decide) ?_
    refine gg_iadd dc_L_cell_17 ?_
    refine gg_imul dc_L_cell_18 ?_
    refine gg_ildn dc_L_cell_19 rfl rfl ?_
    refine gg_bipush (v := 11) dc_L_cell_20 (by decide) ?_
    refine gg_iadd dc_L_cell_22 ?_
    refine gg_imul dc_L_cell_23 ?_
    exact gg_iret dc_L_cell_24 rfl ⟨Nat.le_of_ble_eq_true rfl, Nat.le_of_ble_eq_true rfl⟩ (⟨_, rfl, rfl⟩)
  · refine gg_aldn dc_L_cell_6 rfl rfl ?_
    refine gg_ildn dc_L_cell_7 rfl rfl ?_
    refine gx_iald2 dc_L_cell_8 h (vi_1 (nI_pos (by omega)) c_3 hL) ?_
    refine gg_goto dc_L_cell_9 ?_
    exact gg_iret dc_L_cell_24 rfl ⟨Nat.le_of_ble_eq_true rfl, Nat.le_of_ble_eq_true rfl⟩ (⟨_, rfl, rfl⟩)
set_option maxRecDepth 100000 in
set_option maxHeartbeats 4000000 in
theorem sp_L_tale {Γ : cx_T} {τ : Nat × (Nat → sh_T)} {ν : Nat → Nat → Int32} {f : Nat} {X : Nat → Nat → Int32} (hf : sh_F τ.2 f) (h : RL ν f X) (hL : LK (X 1) 63 8) : mt_P Γ mk_L_tale [.ref f] (τ, ν) (fun v μ' => v = some (.long (tl_N (X 1))) ∧ μ' = (τ, ν)) := by
  refine mt_of (L := [some (.ref f), none, none, none]) (by decide +kernel) (by simp [Value.category]) (Nat.le_of_ble_eq_true rfl) (lc_1_4 ()) ?_
  obtain ⟨R, hR⟩ : ∃ R, R = tl_N (X 1) := ⟨_, rfl⟩
  rw [← hR]
  replace hR := hR.symm
  have loop4 : ∀ (d i : Nat) (a : Int64), i + d = 8 → te_N (X 1) (t4_N (X 1) d i a) = R → gg_P Γ mk_L_tale (fun v μ' => v = some (.long R) ∧ μ' = (τ, ν)) 0 0 101 [some (.ref f), some (.long a), none, some (.int (nI (i)))] [] (τ, ν) := by
    intro d
    induction d with
    | zero =>
      intro i a hi hR
      have hi : i = 8 := by omega
      subst hi
      refine gg_ildn dc_L_tale_101 rfl rfl ?_
      refine gg_bipush (v := 8) dc_L_tale_102 (by decide) ?_
      refine gg_icge dc_L_tale_104 (fun c_104 => ?_) (fun c_104 => ?_)
      · refine gg_lldn dc_L_tale_139 rfl rfl ?_
        refine gg_ldc2 dc_L_tale_140 ll_L_37 ?_
        refine gg_lmul dc_L_tale_143 ?_
        refine gg_aldn dc_L_tale_144 rfl rfl ?_
        refine gg_iconst (v := 0) dc_L_tale_145 (by decide) ?_
        refine gg_okV (rc_flag (z := 0) hf h rfl (by omega)) dc_L_tale_146 ml_L_39 ce_F_flag ⟨Nat.le_of_ble_eq_true rfl, Nat.le_of_ble_eq_true rfl⟩ hf.1 rfl rfl (Nat.le_of_ble_eq_true rfl) ⟨rfl, rfl⟩ ⟨Nat.le_of_ble_eq_true rfl, Nat.le_of_ble_eq_true rfl⟩ ?_
        refine gg_i2l dc_L_tale_149 ?_
        refine gg_ladd dc_L_tale_150 ?_
        refine gg_ldc2 dc_L_tale_151 ll_L_8 ?_
        refine gg_aldn dc_L_tale_154 rfl rfl ?_
        refine gg_iconst (v := 1) dc_L_tale_155 (by decide) ?_
        refine gg_okV (rc_flag (z := 1) hf h rfl (by omega)) dc_L_tale_156 ml_L_39 ce_F_flag ⟨Nat.le_of_ble_eq_true rfl, Nat.le_of_ble_eq_true rfl⟩ hf.1 rfl rfl (Nat.le_of_ble_eq_true rfl) ⟨rfl, rfl⟩ ⟨Nat.le_of_ble_eq_true rfl, Nat.le_of_ble_eq_true rfl⟩ ?_
        refine gg_i2l dc_L_tale_159 ?_
        refine gg_lmul dc_L_tale_160 ?_
        refine gg_ladd dc_L_tale_161 ?_
        exact gg_lret dc_L_tale_162 rfl ⟨Nat.le_of_ble_eq_true rfl, Nat.le_of_ble_eq_true rfl⟩ (⟨by rw [← hR]; rfl, rfl⟩)
      · exact absurd (by decide) c_104
    | succ d ih =>
      intro i a hi hR
      refine gg_ildn dc_L_tale_101 rfl rfl ?_
      refine gg_bipush (v := 8) dc_L_tale_102 (by decide) ?_
      refine gg_icge dc_L_tale_104 (fun c_104 => ?_) (fun c_104 => ?_)
      · exact absurd c_104 (nI_ge (a := i) (b := 8) (by omega) (by omega))
      · refine gg_lldn dc_L_tale_107 rfl rfl ?_
        refine gg_ldc2 dc_L_tale_108 ll_L_31 ?_
        refine gg_lmul dc_L_tale_111 ?_
        refine gg_aldn dc_L_tale_112 rfl rfl ?_
        refine gg_ildn dc_L_tale_113 rfl rfl ?_
        refine gg_iconst (v := 0) dc_L_tale_114 (by decide) ?_
        refine gg_okV (rc_command (k := i) (z := 0) hf h hL rfl rfl (by omega) (by omega)) dc_L_tale_115 ml_L_33 ce_F_command ⟨Nat.le_of_ble_eq_true rfl, Nat.le_of_ble_eq_true rfl⟩ hf.1 rfl rfl (Nat.le_of_ble_eq_true rfl) ⟨rfl, rfl⟩ ⟨Nat.le_of_ble_eq_true rfl, Nat.le_of_ble_eq_true rfl⟩ ?_
        refine gg_i2l dc_L_tale_118 ?_
        refine gg_ladd dc_L_tale_119 ?_
        refine gg_ldc2 dc_L_tale_120 ll_L_8 ?_
        refine gg_aldn dc_L_tale_123 rfl rfl ?_
        refine gg_ildn dc_L_tale_124 rfl rfl ?_
        refine gg_iconst (v := 1) dc_L_tale_125 (by decide) ?_
        refine gg_okV (rc_command (k := i) (z := 1) hf h hL rfl rfl (by omega) (by omega)) dc_L_tale_126 ml_L_33 ce_F_command ⟨Nat.le_of_ble_eq_true rfl, Nat.le_of_ble_eq_true rfl⟩ hf.1 rfl rfl (Nat.le_of_ble_eq_true rfl) ⟨rfl, rfl⟩ ⟨Nat.le_of_ble_eq_true rfl, Nat.le_of_ble_eq_true rfl⟩ ?_
        refine gg_i2l dc_L_tale_129 ?_
        refine gg_lmul dc_L_tale_130 ?_
        refine gg_ladd dc_L_tale_131 ?_
        refine gg_lstn (i := 1) dc_L_tale_132 rfl (Nat.le_of_ble_eq_true rfl) rfl ?_
        dsimp only [List.set]
        refine gg_iinc (i := 3) dc_L_tale_133 rfl (Nat.le_of_ble_eq_true rfl) rfl ?_
        dsimp only [List.set]
        rw [show Int32.ofInt 1 = 1 from by decide]
        refine gg_goto dc_L_tale_136 ?_
        refine gg_e (ih (i + 1) _ (by omega) hR) (by rw [nI_1]) rfl rfl
  have loop3 : ∀ (d i : Nat) (a : Int64), i + d = 33 → te_N (X 1) (t4_N (X 1) 8 0 (t3_N (X 1) d i a)) = R → gg_P Γ mk_L_tale (fun v μ' => v = some (.long R) ∧ μ' = (τ, ν)) 0 0 62 [some (.ref f), some (.long a), none, some (.int (kk_I (i)))] [] (τ, ν) := by
    intro d
    induction d with
    | zero =>
      intro i a hi hR
      have hi : i = 33 := by omega
      subst hi
      refine gg_ildn dc_L_tale_62 rfl rfl ?_
      refine gg_sipush (v := 400) dc_L_tale_63 (by decide) ?_
      refine gg_icgt dc_L_tale_66 (fun c_66 => ?_) (fun c_66 => ?_)
      · refine gg_iconst (v := 0) dc_L_tale_99 (by decide) ?_
        refine gg_istn (i := 3) dc_L_tale_100 rfl (Nat.le_of_ble_eq_true rfl) rfl ?_
        dsimp only [List.set]
        exact loop4 8 0 _ (by omega) hR
      · exact absurd (by rw [ti_lt, kk_ti (by omega)]; show (400 : Int) < _; omega) c_66
    | succ d ih =>
      intro i a hi hR
      refine gg_ildn dc_L_tale_62 rfl rfl ?_
      refine gg_sipush (v := 400) dc_L_tale_63 (by decide) ?_
      refine gg_icgt dc_L_tale_66 (fun c_66 => ?_) (fun c_66 => ?_)
      · exact absurd c_66 (by rw [ti_lt, kk_ti (by omega)]; show ¬ (400 : Int) < _; omega)
      · refine gg_lldn dc_L_tale_69 rfl rfl ?_
        refine gg_ldc2 dc_L_tale_70 ll_L_23 ?_
        refine gg_lmul dc_L_tale_73 ?_
        refine gg_aldn dc_L_tale_74 rfl rfl ?_
        refine gg_ildn dc_L_tale_75 rfl rfl ?_
        refine gg_okV (rc_loadAt hf h (kk_in (by omega))) dc_L_tale_76 ml_L_25 ce_F_loadAt ⟨Nat.le_of_ble_eq_true rfl, Nat.le_of_ble_eq_true rfl⟩ hf.1 rfl rfl (Nat.le_of_ble_eq_true rfl) ⟨rfl, rfl⟩ ⟨Nat.le_of_ble_eq_true rfl, Nat.le_of_ble_eq_true rfl⟩ ?_
        refine gg_i2l dc_L_tale_79 ?_
        refine gg_ladd dc_L_tale_80 ?_
        refine gg_ldc2 dc_L_tale_81 ll_L_8 ?_
        refine gg_aldn dc_L_tale_84 rfl rfl ?_
        refine gg_ildn dc_L_tale_85 rfl rfl ?_
        refine gg_okV (rc_errorAt hf h (kk_in (by omega))) dc_L_tale_86 ml_L_28 ce_F_errorAt ⟨Nat.le_of_ble_eq_true rfl, Nat.le_of_ble_eq_true rfl⟩ hf.1 rfl rfl (Nat.le_of_ble_eq_true rfl) ⟨rfl, rfl⟩ ⟨Nat.le_of_ble_eq_true rfl, Nat.le_of_ble_eq_true rfl⟩ ?_
        refine gg_i2l dc_L_tale_89 ?_
        refine gg_lmul dc_L_tale_90 ?_
        refine gg_ladd dc_L_tale_91 ?_
        refine gg_lstn (i := 1) dc_L_tale_92 rfl (Nat.le_of_ble_eq_true rfl) rfl ?_
        dsimp only [List.set]
        refine gg_iinc (i := 3) dc_L_tale_93 rfl (Nat.le_of_ble_eq_true rfl) rfl ?_
        dsimp only [List.set]
        rw [show Int32.ofInt 25 = 25 from by decide]
        refine gg_goto dc_L_tale_96 ?_
        refine gg_e (ih (i + 1) _ (by omega) hR) (by rw [kk_s (by omega)]) rfl rfl
  have loop2 : ∀ (d i : Nat) (a : Int64), i + d = 6 → te_N (X 1) (t4_N (X 1) 8 0 (t3_N (X 1) 33 0 (t2_N (X 1) d i a))) = R → gg_P Γ mk_L_tale (fun v μ' => v = some (.long R) ∧ μ' = (τ, ν)) 0 0 33 [some (.ref f), some (.long a), none, some (.int (nI (i)))] [] (τ, ν) := by
    intro d
    induction d with
    | zero =>
      intro i a hi hR
      have hi : i = 6 := by omega
      subst hi
      refine gg_ildn dc_L_tale_33 rfl rfl ?_
      refine gg_bipush (v := 6) dc_L_tale_34 (by decide) ?_
      refine gg_icge dc_L_tale_36 (fun c_36 => ?_) (fun c_36 => ?_)
      · refine gg_sipush (v := (-400)) dc_L_tale_58 (by decide) ?_
        refine gg_istn (i := 3) dc_L_tale_61 rfl (Nat.le_of_ble_eq_true rfl) rfl ?_
        dsimp only [List.set]
        exact gg_e (loop3 33 0 a (by omega) hR) (by rw [kk_0]) rfl rfl
      · exact absurd (by decide) c_36
    | succ d ih =>
      intro i a hi hR
      refine gg_ildn dc_L_tale_33 rfl rfl ?_
      refine gg_bipush (v := 6) dc_L_tale_34 (by decide) ?_
      refine gg_icge dc_L_tale_36 (fun c_36 => ?_) (fun c_36 => ?_)
      · exact absurd c_36 (nI_ge (a := i) (b := 6) (by omega) (by omega))
      · refine gg_lldn dc_L_tale_39 rfl rfl ?_
        refine gg_ldc2 dc_L_tale_40 ll_L_18 ?_
        refine gg_lmul dc_L_tale_43 ?_
        refine gg_aldn dc_L_tale_44 rfl rfl ?_
        refine gg_ildn dc_L_tale_45 rfl rfl ?_
        refine gg_okV (rc_account hf h (k := i) rfl (by omega)) dc_L_tale_46 ml_L_20 ce_F_account ⟨Nat.le_of_ble_eq_true rfl, Nat.le_of_ble_eq_true rfl⟩ hf.1 rfl rfl (Nat.le_of_ble_eq_true rfl) ⟨rfl, rfl⟩ ⟨Nat.le_of_ble_eq_true rfl, Nat.le_of_ble_eq_true rfl⟩ ?_
        refine gg_i2l dc_L_tale_49 ?_
        refine gg_ladd dc_L_tale_50 ?_
        refine gg_lstn (i := 1) dc_L_tale_51 rfl (Nat.le_of_ble_eq_true rfl) rfl ?_
        dsimp only [List.set]
        refine gg_iinc (i := 3) dc_L_tale_52 rfl (Nat.le_of_ble_eq_true rfl) rfl ?_
        dsimp only [List.set]
        rw [show Int32.ofInt 1 = 1 from by decide]
        refine gg_goto dc_L_tale_55 ?_
        refine gg_e (ih (i + 1) _ (by omega) hR) (by rw [nI_1]) rfl rfl
  have loop1 : ∀ (d i : Nat) (a : Int64), i + d = 18 → te_N (X 1) (t4_N (X 1) 8 0 (t3_N (X 1) 33 0 (t2_N (X 1) 6 0 (t1_N (X 1) d i a)))) = R → gg_P Γ mk_L_tale (fun v μ' => v = some (.long R) ∧ μ' = (τ, ν)) 0 0 6 [some (.ref f), some (.long a), none, some (.int (nI (i)))] [] (τ, ν) := by
    intro d
    induction d with
    | zero =>
      intro i a hi hR
      have hi : i = 18 := by omega
      subst hi
      refine gg_ildn dc_L_tale_6 rfl rfl ?_
      refine gg_bipush (v := 18) dc_L_tale_7 (by decide) ?_
      refine gg_icge dc_L_tale_9 (fun c_9 => ?_) (fun c_9 => ?_)
      · refine gg_iconst (v := 0) dc_L_tale_31 (by decide) ?_
        refine gg_istn (i := 3) dc_L_tale_32 rfl (Nat.le_of_ble_eq_true rfl) rfl ?_
        dsimp only [List.set]
        exact loop2 6 0 _ (by omega) hR
      · exact absurd (by decide) c_9
    | succ d ih =>
      intro i a hi hR
      refine gg_ildn dc_L_tale_6 rfl rfl ?_
      refine gg_bipush (v := 18) dc_L_tale_7 (by decide) ?_
      refine gg_icge dc_L_tale_9 (fun c_9 => ?_) (fun c_9 => ?_)
      · exact absurd c_9 (nI_ge (a := i) (b := 18) (by omega) (by omega))
      · refine gg_lldn dc_L_tale_12 rfl rfl ?_
        refine gg_ldc2 dc_L_tale_13 ll_L_10 ?_
        refine gg_lmul dc_L_tale_16 ?_
        refine gg_aldn dc_L_tale_17 rfl rfl ?_
        refine gg_ildn dc_L_tale_18 rfl rfl ?_
        refine gg_okV (rc_count hf h (k := i) rfl (by omega)) dc_L_tale_19 ml_L_12 ce_F_count ⟨Nat.le_of_ble_eq_true rfl, Nat.le_of_ble_eq_true rfl⟩ hf.1 rfl rfl (Nat.le_of_ble_eq_true rfl) ⟨rfl, rfl⟩ ⟨Nat.le_of_ble_eq_true rfl, Nat.le_of_ble_eq_true rfl⟩ ?_
        refine gx_top (cc_lt (by omega)) ?_
        refine gg_i2l dc_L_tale_22 ?_
        refine gg_ladd dc_L_tale_23 ?_
        refine gg_lstn (i := 1) dc_L_tale_24 rfl (Nat.le_of_ble_eq_true rfl) rfl ?_
        dsimp only [List.set]
        refine gg_iinc (i := 3) dc_L_tale_25 rfl (Nat.le_of_ble_eq_true rfl) rfl ?_
        dsimp only [List.set]
        rw [show Int32.ofInt 1 = 1 from by decide]
        refine gg_goto dc_L_tale_28 ?_
        refine gg_e (ih (i + 1) _ (by omega) hR) (by rw [nI_1]) rfl rfl
  refine gg_ldc2 dc_L_tale_0 ll_L_8 ?_
  refine gg_lstn (i := 1) dc_L_tale_3 rfl (Nat.le_of_ble_eq_true rfl) rfl ?_
  dsimp only [List.set]
  refine gg_iconst (v := 0) dc_L_tale_4 (by decide) ?_
  refine gg_istn (i := 3) dc_L_tale_5 rfl (Nat.le_of_ble_eq_true rfl) rfl ?_
  dsimp only [List.set]
  exact loop1 18 0 3 (by omega) hR
