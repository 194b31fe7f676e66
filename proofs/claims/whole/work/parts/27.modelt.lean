/-! the reference: commands carried out, images, what would be -/
theorem lc_f2 (l : List (Option Value)) (o1 o2 : Option Value) : ∀ (i : Nat) (v : Value), (l ++ [none, none])[i]? = some (some v) → (l ++ [o1, o2])[i]? = some (some v) := by
  intro i v h
  refine lc_mid l [o2] o1 i v ?_
  have h2 := lc_mid (l ++ [none]) [] o2 i v (by rw [List.append_assoc]; exact h)
  rw [List.append_assoc] at h2
  exact h2
theorem RI.up2 {S : Nat → Int32} {y : Int32} (h : RI S) : RI (upd S 2 y) := by
  obtain ⟨h1, h2, h3, h4, h5⟩ := h
  exact ⟨h1.of (ud_ne (by omega)), h2.of (ud_ne (by omega)), h3.of (ud_ne (by omega)), h4.of (fun j _ hj => ud_ne (by omega)) h2.1, by rw [ud_ne (by omega)]; exact h5⟩
def wy_I (T : Nat → Int32) (a : Int32) : Int32 := if ¬ T 6 = a then 2 else if ¬ T 9 = 0 then 3 else if ¬ T 7 = a then (if ¬ T 10 = 0 then 4 else 5) else if ¬ T 8 = a then 6 else 0
def sa_I (S : Nat → Int32) (x v : Int32) : Int32 := if S 13 < mo_S (upd S 2 v) x 13 then 1 else 0
def fs_N (S : Nat → Int32) (x : Int32) : Nat → Nat
  | 0 => 0
  | k + 1 => if sa_I S x (nI (50 * (k + 1))) = 0 then k + 1 else fs_N S x k
theorem fs_le {S : Nat → Int32} {x : Int32} : ∀ k : Nat, fs_N S x k ≤ k
  | 0 => Nat.le_refl _
  | k + 1 => by
    unfold fs_N
    split
    · exact Nat.le_refl _
    · exact Nat.le_succ_of_le (fs_le k)
set_option maxRecDepth 100000 in
set_option maxHeartbeats 4000000 in
theorem sp_M_runB {Γ : cx_T} {τ : Nat × (Nat → sh_T)} {ν : Nat → Nat → Int32} {X : Nat → Nat → Int32} {S : Nat → Int32} {m : Nat} (hm : sh_M τ.2 m) {c : Int32} (h : in_I c 1 8 = 0) : mt_P Γ mk_M_run [.ref m, .int c] (τ, mv_N ν m (va_up X 1 S)) (fun v μ' => v = some (.int (-1000001)) ∧ μ' = (τ, mv_N ν m (va_up (X) 1 (S)))) := by
  refine mt_of (L := [some (.ref m), some (.int c), none, none, none]) (by decide +kernel) (by simp [Value.category]) (Nat.le_of_ble_eq_true rfl) (lc_2_5 ()) ?_
  refine gg_ildn dc_M_run_0 rfl rfl ?_
  refine gg_iconst (v := 1) dc_M_run_1 (by decide) ?_
  refine gg_bipush (v := 8) dc_M_run_2 (by decide) ?_
  refine gg_okS (sp_M_in) dc_M_run_4 ml_M_31 ce_M_in ⟨Nat.le_of_ble_eq_true rfl, Nat.le_of_ble_eq_true rfl⟩ rfl (Nat.le_of_ble_eq_true rfl) ⟨rfl, rfl⟩ ⟨Nat.le_of_ble_eq_true rfl, Nat.le_of_ble_eq_true rfl⟩ ?_
  refine gg_ifne dc_M_run_7 (fun c_7 => ?_) (fun c_7 => ?_)
  · exact absurd h c_7
  · refine gg_ldc dc_M_run_10 lk_M_64 ?_
    exact gg_iret dc_M_run_12 rfl ⟨Nat.le_of_ble_eq_true rfl, Nat.le_of_ble_eq_true rfl⟩ (⟨rfl, rfl⟩)
set_option maxRecDepth 100000 in
set_option maxHeartbeats 4000000 in
theorem sp_M_runI {Γ : cx_T} {τ : Nat × (Nat → sh_T)} {ν : Nat → Nat → Int32} {X : Nat → Nat → Int32} {S : Nat → Int32} {m : Nat} (hm : sh_M τ.2 m) {c : Int32} (h1 : ¬ in_I c 1 8 = 0) (h : S 63 = 0) : mt_P Γ mk_M_run [.ref m, .int c] (τ, mv_N ν m (va_up X 1 S)) (fun v μ' => v = some (.int (-1000002)) ∧ μ' = (τ, mv_N ν m (va_up (X) 1 (S)))) := by
  refine mt_of (L := [some (.ref m), some (.int c), none, none, none]) (by decide +kernel) (by simp [Value.category]) (Nat.le_of_ble_eq_true rfl) (lc_2_5 ()) ?_
  refine gg_ildn dc_M_run_0 rfl rfl ?_
  refine gg_iconst (v := 1) dc_M_run_1 (by decide) ?_
  refine gg_bipush (v := 8) dc_M_run_2 (by decide) ?_
  refine gg_okS (sp_M_in) dc_M_run_4 ml_M_31 ce_M_in ⟨Nat.le_of_ble_eq_true rfl, Nat.le_of_ble_eq_true rfl⟩ rfl (Nat.le_of_ble_eq_true rfl) ⟨rfl, rfl⟩ ⟨Nat.le_of_ble_eq_true rfl, Nat.le_of_ble_eq_true rfl⟩ ?_
  refine gg_ifne dc_M_run_7 (fun c_7 => ?_) (fun c_7 => ?_)
  · refine gg_aldn dc_M_run_13 rfl rfl ?_
    refine gg_getr dc_M_run_14 lf_M_7 hm.1 rfl ?_
    refine gg_bipush (v := 63) dc_M_run_17 (by decide) ?_
    refine gms_r (k := 63) dc_M_run_19 hm ⟨rfl, Nat.le_of_ble_eq_true rfl⟩ ?_
    refine gg_ifne dc_M_run_20 (fun c_20 => ?_) (fun c_20 => ?_)
    · exact absurd h c_20
    · refine gg_ldc dc_M_run_23 lk_M_30 ?_
      exact gg_iret dc_M_run_25 rfl ⟨Nat.le_of_ble_eq_true rfl, Nat.le_of_ble_eq_true rfl⟩ (⟨rfl, rfl⟩)
  · exact absurd c_7 h1
set_option maxRecDepth 100000 in
set_option maxHeartbeats 4000000 in
theorem sp_M_run {Γ : cx_T} {τ : Nat × (Nat → sh_T)} {ν : Nat → Nat → Int32} {X : Nat → Nat → Int32} {S : Nat → Int32} {m : Nat} (hm : sh_M τ.2 m) {c8 : Nat} (hc8 : c8 ≤ 8) (hp : PS X) (hR : RI S) (h1 : ¬ in_I (nI c8) 1 8 = 0) (h : ¬ S 63 = 0) : mt_P Γ mk_M_run [.ref m, .int (nI c8)] (τ, mv_N ν m (va_up X 1 S)) (fun v μ' => v = some (.int (rn_S c8 S 63)) ∧ μ' = (τ, mv_N ν m (va_up (nt_X (va_up X 1 S)) 1 (rn_S c8 S)))) := by
  refine mt_of (L := [some (.ref m), some (.int (nI c8)), none, none, none]) (by decide +kernel) (by simp [Value.category]) (Nat.le_of_ble_eq_true rfl) (lc_2_5 ()) ?_
  have shift : ∀ (Y : Nat → Nat → Int32) (R : Nat → Int32) (n : Nat) (T : Nat → Int32) (i : Nat), n < 8 → sg_S (upd T 63 (nI n)) 63 1 (2 * n + 1) = cd_S T → RI (cd_S T) → (∀ U : Nat → Int32, ro_S T = U → gg_P Γ mk_M_run (fun v μ' => v = some (.int (R 63)) ∧ μ' = (τ, mv_N ν m (va_up Y 1 R))) 0 0 32 [some (.ref m), some (.int (nI c8)), some (.int (nI (i + 1))), none, none] [] (τ, mv_N ν m (va_up Y 1 U))) → ∀ (d K : Nat), K + d = 2 * n + 1 → 1 ≤ K → gg_P Γ mk_M_run (fun v μ' => v = some (.int (R 63)) ∧ μ' = (τ, mv_N ν m (va_up Y 1 R))) 0 0 68 [some (.ref m), some (.int (nI c8)), some (.int (nI i)), some (.int (T 64)), some (.int (nI K))] [] (τ, mv_N ν m (va_up Y 1 (sg_S (upd T 63 (nI n)) 63 1 K))) := by
    intro Y R n T i hn8 hcd hRT hnext d
    induction d with
    | zero =>
      intro K hK hK1
      have hK : K = 2 * n + 1 := by omega
      subst hK
      rw [hcd]
      refine gg_ild dc_M_run_68 rfl ?_
      refine gg_iconst (v := 2) dc_M_run_70 (by decide) ?_
      refine gg_aldn dc_M_run_71 rfl rfl ?_
      refine gg_getr dc_M_run_72 lf_M_7 hm.1 rfl ?_
      refine gg_bipush (v := 63) dc_M_run_75 (by decide) ?_
      refine gms_r (k := 63) dc_M_run_77 hm (⟨rfl, by omega⟩) ?_
      refine gx_top (show cd_S T 63 = nI n by rw [← hcd, sg_b (by omega), ud_eq]) ?_
      refine gg_imul dc_M_run_78 ?_
      refine gx_top (tw_0) ?_
      refine gg_icgt dc_M_run_79 (fun c_79 => ?_) (fun c_79 => ?_)
      · refine gg_aldn dc_M_run_110 rfl rfl ?_
        refine gg_ildn dc_M_run_111 rfl rfl ?_
        refine gg_okV (sp_M_aimOf hm hRT.2.1 hRT.2.2.2.1) dc_M_run_112 ml_M_129 ce_M_aimOf ⟨Nat.le_of_ble_eq_true rfl, Nat.le_of_ble_eq_true rfl⟩ hm.1 rfl rfl (Nat.le_of_ble_eq_true rfl) ⟨rfl, rfl⟩ ⟨Nat.le_of_ble_eq_true rfl, Nat.le_of_ble_eq_true rfl⟩ ?_
        refine gg_okS (sp_M_isPlace) dc_M_run_115 ml_M_65 ce_M_isPlace ⟨Nat.le_of_ble_eq_true rfl, Nat.le_of_ble_eq_true rfl⟩ rfl (Nat.le_of_ble_eq_true rfl) ⟨rfl, rfl⟩ ⟨Nat.le_of_ble_eq_true rfl, Nat.le_of_ble_eq_true rfl⟩ ?_
        refine gg_ifeq dc_M_run_118 (fun c_118 => ?_) (fun c_118 => ?_)
        · refine gg_iinc (i := 2) dc_M_run_126 rfl (Nat.le_of_ble_eq_true rfl) rfl ?_
          dsimp only [List.set]
          rw [show Int32.ofInt 1 = 1 from by decide]
          refine gg_goto dc_M_run_129 ?_
          exact gg_L (L' := [some (.ref m), some (.int (nI c8)), some (.int (nI i + 1)), none, none]) (gg_e (hnext _ (show ro_S T = _ from if_pos c_118)) (by rw [nI_1]) rfl rfl) (lc_f2 [_, _, _] _ _)
        · refine gg_aldn dc_M_run_121 rfl rfl ?_
          refine gg_ildn dc_M_run_122 rfl rfl ?_
          refine gg_okVv (sp_M_moves hm hRT.1 hRT.2.1 hRT.2.2.2.1 hRT.2.2.2.2) dc_M_run_123 ml_M_136 ce_M_moves ⟨Nat.le_of_ble_eq_true rfl, Nat.le_of_ble_eq_true rfl⟩ hm.1 rfl rfl (Nat.le_of_ble_eq_true rfl) ⟨rfl, rfl⟩ ⟨Nat.le_of_ble_eq_true rfl, Nat.le_of_ble_eq_true rfl⟩ ?_
          refine gg_iinc (i := 2) dc_M_run_126 rfl (Nat.le_of_ble_eq_true rfl) rfl ?_
          dsimp only [List.set]
          rw [show Int32.ofInt 1 = 1 from by decide]
          refine gg_goto dc_M_run_129 ?_
          exact gg_L (L' := [some (.ref m), some (.int (nI c8)), some (.int (nI i + 1)), none, none]) (gg_e (hnext _ (show ro_S T = _ from if_neg c_118)) (by rw [nI_1]) rfl rfl) (lc_f2 [_, _, _] _ _)
      · exact absurd (nI_lt (by omega) (by omega)) c_79
    | succ d ih =>
      intro K hK hK1
      refine gg_ild dc_M_run_68 rfl ?_
      refine gg_iconst (v := 2) dc_M_run_70 (by decide) ?_
      refine gg_aldn dc_M_run_71 rfl rfl ?_
      refine gg_getr dc_M_run_72 lf_M_7 hm.1 rfl ?_
      refine gg_bipush (v := 63) dc_M_run_75 (by decide) ?_
      refine gms_r (k := 63) dc_M_run_77 hm (⟨rfl, by omega⟩) ?_
      refine gx_top (show (sg_S (upd T 63 (nI n)) 63 1 K) 63 = nI n by rw [sg_b (by omega), ud_eq]) ?_
      refine gg_imul dc_M_run_78 ?_
      refine gx_top (tw_0) ?_
      refine gg_icgt dc_M_run_79 (fun c_79 => ?_) (fun c_79 => ?_)
      · exact absurd c_79 (nI_nlt (by omega) (by omega))
      · refine gg_aldn dc_M_run_82 rfl rfl ?_
        refine gg_getr dc_M_run_83 lf_M_7 hm.1 rfl ?_
        refine gg_bipush (v := 63) dc_M_run_86 (by decide) ?_
        refine gg_ild dc_M_run_88 rfl ?_
        refine gg_iadd dc_M_run_90 ?_
        refine gg_aldn dc_M_run_91 rfl rfl ?_
        refine gg_getr dc_M_run_92 lf_M_7 hm.1 rfl ?_
        refine gg_bipush (v := 63) dc_M_run_95 (by decide) ?_
        refine gg_ild dc_M_run_97 rfl ?_
        refine gg_iadd dc_M_run_99 ?_
        refine gg_iconst (v := 2) dc_M_run_100 (by decide) ?_
        refine gg_iadd dc_M_run_101 ?_
        refine gms_r (k := 63 + K + 2) dc_M_run_102 hm (⟨by rw [show (63 : Int32) = nI 63 from rfl, nI_add, show (2 : Int32) = nI 2 from rfl, nI_add], by omega⟩) ?_
        refine gms_w (k := 63 + K) dc_M_run_103 hm (⟨by rw [show (63 : Int32) = nI 63 from rfl, nI_add], by omega⟩) ?_
        refine gg_iinc (i := 4) dc_M_run_104 rfl (Nat.le_of_ble_eq_true rfl) rfl ?_
        dsimp only [List.set]
        rw [show Int32.ofInt 1 = 1 from by decide]
        refine gg_goto dc_M_run_107 ?_
        rw [sg_s (by omega)]
        exact gg_e (ih (K + 1) (by omega) (by omega)) (by rw [nI_1]) rfl rfl
  have loop : ∀ (Y : Nat → Nat → Int32) (R : Nat → Int32) (k i : Nat) (T : Nat → Int32), i + k = c8 → RI T → rn_S k T = R → gg_P Γ mk_M_run (fun v μ' => v = some (.int (R 63)) ∧ μ' = (τ, mv_N ν m (va_up Y 1 R))) 0 0 32 [some (.ref m), some (.int (nI c8)), some (.int (nI i)), none, none] [] (τ, mv_N ν m (va_up Y 1 T)) := by
    intro Y R k
    have shift := shift Y R
    induction k with
    | zero =>
      intro i T hi hR hR9
      have hR9 : T = R := hR9
      refine gg_ildn dc_M_run_32 rfl rfl ?_
      refine gg_ildn dc_M_run_33 rfl rfl ?_
      refine gg_icge dc_M_run_34 (fun c_34 => ?_) (fun c_34 => ?_)
      · refine gg_aldn dc_M_run_132 rfl rfl ?_
        refine gg_getr dc_M_run_133 lf_M_7 hm.1 rfl ?_
        refine gg_bipush (v := 63) dc_M_run_136 (by decide) ?_
        refine gms_r (k := 63) dc_M_run_138 hm ⟨rfl, Nat.le_of_ble_eq_true rfl⟩ ?_
        exact gg_iret dc_M_run_139 rfl ⟨Nat.le_of_ble_eq_true rfl, Nat.le_of_ble_eq_true rfl⟩ (⟨by rw [← hR9], by rw [← hR9]⟩)
      · exact absurd (nI_le (by omega) (by omega)) c_34
    | succ k ih =>
      intro i T hi hR hR9
      have h8 := hR.2.2.1.1
      rcases Nat.eq_zero_or_pos (ls_n T 63) with h0 | h0
      · have hz : T 63 = 0 := by rw [hR.2.2.1.2, h0]; rfl
        have hR9 : T = R := by rw [← hR9]; exact (if_pos h0).symm
        refine gg_ildn dc_M_run_32 rfl rfl ?_
        refine gg_ildn dc_M_run_33 rfl rfl ?_
        refine gg_icge dc_M_run_34 (fun c_34 => ?_) (fun c_34 => ?_)
        · exact absurd c_34 (nI_ge (by omega) (by omega))
        · refine gg_aldn dc_M_run_37 rfl rfl ?_
          refine gg_getr dc_M_run_38 lf_M_7 hm.1 rfl ?_
          refine gg_bipush (v := 63) dc_M_run_41 (by decide) ?_
          refine gms_r (k := 63) dc_M_run_43 hm ⟨rfl, Nat.le_of_ble_eq_true rfl⟩ ?_
          refine gg_ifle dc_M_run_44 (fun c_44 => ?_) (fun c_44 => ?_)
          · refine gg_aldn dc_M_run_132 rfl rfl ?_
            refine gg_getr dc_M_run_133 lf_M_7 hm.1 rfl ?_
            refine gg_bipush (v := 63) dc_M_run_136 (by decide) ?_
            refine gms_r (k := 63) dc_M_run_138 hm ⟨rfl, Nat.le_of_ble_eq_true rfl⟩ ?_
            exact gg_iret dc_M_run_139 rfl ⟨Nat.le_of_ble_eq_true rfl, Nat.le_of_ble_eq_true rfl⟩ (⟨by rw [← hR9], by rw [← hR9]⟩)
          · exact absurd (by rw [hz]; decide) c_44
      · obtain ⟨n, hn1⟩ : ∃ n, ls_n T 63 = n + 1 := ⟨ls_n T 63 - 1, by omega⟩
        have hn : T 63 = nI (n + 1) := by rw [← hn1]; exact hR.2.2.1.2
        have hcd : sg_S (upd T 63 (nI n)) 63 1 (2 * n + 1) = cd_S T := by unfold cd_S; rw [hn1]; rfl
        refine gg_ildn dc_M_run_32 rfl rfl ?_
        refine gg_ildn dc_M_run_33 rfl rfl ?_
        refine gg_icge dc_M_run_34 (fun c_34 => ?_) (fun c_34 => ?_)
        · exact absurd c_34 (nI_ge (by omega) (by omega))
        · refine gg_aldn dc_M_run_37 rfl rfl ?_
          refine gg_getr dc_M_run_38 lf_M_7 hm.1 rfl ?_
          refine gg_bipush (v := 63) dc_M_run_41 (by decide) ?_
          refine gms_r (k := 63) dc_M_run_43 hm ⟨rfl, Nat.le_of_ble_eq_true rfl⟩ ?_
          refine gg_ifle dc_M_run_44 (fun c_44 => ?_) (fun c_44 => ?_)
          · exact absurd c_44 (by rw [hn]; exact nI_nle (by omega) (by omega))
          · refine gg_aldn dc_M_run_47 rfl rfl ?_
            refine gg_iconst (v := 0) dc_M_run_48 (by decide) ?_
            refine gg_iconst (v := 0) dc_M_run_49 (by decide) ?_
            refine gg_okV (sp_M_commandOf hm (k := 0) (q := 0) rfl rfl (by omega) (by omega)) dc_M_run_50 ml_M_139 ce_M_commandOf ⟨Nat.le_of_ble_eq_true rfl, Nat.le_of_ble_eq_true rfl⟩ hm.1 rfl rfl (Nat.le_of_ble_eq_true rfl) ⟨rfl, rfl⟩ ⟨Nat.le_of_ble_eq_true rfl, Nat.le_of_ble_eq_true rfl⟩ ?_
            refine gg_istn (i := 3) dc_M_run_53 rfl (Nat.le_of_ble_eq_true rfl) rfl ?_
            dsimp only [List.set]
            refine gg_aldn dc_M_run_54 rfl rfl ?_
            refine gg_getr dc_M_run_55 lf_M_7 hm.1 rfl ?_
            refine gg_bipush (v := 63) dc_M_run_58 (by decide) ?_
            refine gg_dup2 dc_M_run_60 rfl rfl ?_
            refine gms_r (k := 63) dc_M_run_61 hm ⟨rfl, Nat.le_of_ble_eq_true rfl⟩ ?_
            refine gg_iconst (v := 1) dc_M_run_62 (by decide) ?_
            refine gg_isub dc_M_run_63 ?_
            refine gx_top (show T 63 - 1 = nI n by rw [hn, nI_pred]) ?_
            refine gms_w (k := 63) dc_M_run_64 hm ⟨rfl, Nat.le_of_ble_eq_true rfl⟩ ?_
            refine gg_iconst (v := 1) dc_M_run_65 (by decide) ?_
            refine gg_ist (i := 4) dc_M_run_66 (Nat.le_of_ble_eq_true rfl) rfl ?_
            dsimp only [List.set]
            exact gg_e (shift n T i (by omega) hcd hR.cd (fun U hU => ih (i + 1) U (by omega) (hU ▸ hR.ro) (by rw [← hR9, ← hU]; exact (if_neg (by omega)).symm)) (2 * n) 1 (by omega) (by omega)) rfl rfl (by rw [sg_0])
  have loop := loop (nt_X (va_up X 1 S)) (rn_S c8 S)
  refine gg_ildn dc_M_run_0 rfl rfl ?_
  refine gg_iconst (v := 1) dc_M_run_1 (by decide) ?_
  refine gg_bipush (v := 8) dc_M_run_2 (by decide) ?_
  refine gg_okS (sp_M_in) dc_M_run_4 ml_M_31 ce_M_in ⟨Nat.le_of_ble_eq_true rfl, Nat.le_of_ble_eq_true rfl⟩ rfl (Nat.le_of_ble_eq_true rfl) ⟨rfl, rfl⟩ ⟨Nat.le_of_ble_eq_true rfl, Nat.le_of_ble_eq_true rfl⟩ ?_
  refine gg_ifne dc_M_run_7 (fun c_7 => ?_) (fun c_7 => ?_)
  · refine gg_aldn dc_M_run_13 rfl rfl ?_
    refine gg_getr dc_M_run_14 lf_M_7 hm.1 rfl ?_
    refine gg_bipush (v := 63) dc_M_run_17 (by decide) ?_
    refine gms_r (k := 63) dc_M_run_19 hm ⟨rfl, Nat.le_of_ble_eq_true rfl⟩ ?_
    refine gg_ifne dc_M_run_20 (fun c_20 => ?_) (fun c_20 => ?_)
    · refine gg_aldn dc_M_run_26 rfl rfl ?_
      refine gg_okVv (sp_M_notesS hm hp) dc_M_run_27 ml_M_47 ce_M_notes ⟨Nat.le_of_ble_eq_true rfl, Nat.le_of_ble_eq_true rfl⟩ hm.1 rfl rfl (Nat.le_of_ble_eq_true rfl) ⟨rfl, rfl⟩ ⟨Nat.le_of_ble_eq_true rfl, Nat.le_of_ble_eq_true rfl⟩ ?_
      refine gg_iconst (v := 0) dc_M_run_30 (by decide) ?_
      refine gg_istn (i := 2) dc_M_run_31 rfl (Nat.le_of_ble_eq_true rfl) rfl ?_
      dsimp only [List.set]
      exact loop c8 0 S (by omega) hR rfl
    · exact absurd c_20 h
  · exact absurd c_7 h1
set_option maxRecDepth 100000 in
set_option maxHeartbeats 4000000 in
theorem sp_M_keepB {Γ : cx_T} {τ : Nat × (Nat → sh_T)} {ν : Nat → Nat → Int32} {X : Nat → Nat → Int32} {m : Nat} (hm : sh_M τ.2 m) {w : Int32} (h : in_I w 0 1 = 0) : mt_P Γ mk_M_keep [.ref m, .int w] (τ, mv_N ν m X) (fun v μ' => v = some (.int (-1000001)) ∧ μ' = (τ, mv_N ν m (X))) := by
  refine mt_of (L := [some (.ref m), some (.int w), none]) (by decide +kernel) (by simp [Value.category]) (Nat.le_of_ble_eq_true rfl) (lc_2_3 ()) ?_
  refine gg_ildn dc_M_keep_0 rfl rfl ?_
  refine gg_okS (sp_M_isImage) dc_M_keep_1 ml_M_154 ce_M_isImage ⟨Nat.le_of_ble_eq_true rfl, Nat.le_of_ble_eq_true rfl⟩ rfl (Nat.le_of_ble_eq_true rfl) ⟨rfl, rfl⟩ ⟨Nat.le_of_ble_eq_true rfl, Nat.le_of_ble_eq_true rfl⟩ ?_
  refine gg_ifne dc_M_keep_4 (fun c_4 => ?_) (fun c_4 => ?_)
  · exact absurd h c_4
  · refine gg_ldc dc_M_keep_7 lk_M_64 ?_
    exact gg_iret dc_M_keep_9 rfl ⟨Nat.le_of_ble_eq_true rfl, Nat.le_of_ble_eq_true rfl⟩ (⟨rfl, rfl⟩)
set_option maxRecDepth 100000 in
set_option maxHeartbeats 4000000 in
theorem sp_M_keep {Γ : cx_T} {τ : Nat × (Nat → sh_T)} {ν : Nat → Nat → Int32} {X : Nat → Nat → Int32} {m : Nat} (hm : sh_M τ.2 m) {q : Nat} (hq : q < 2) (h1 : ¬ in_I (nI q) 0 1 = 0) : mt_P Γ mk_M_keep [.ref m, .int (nI q)] (τ, mv_N ν m X) (fun v μ' => v = some (.int (X 1 6)) ∧ μ' = (τ, mv_N ν m (up_2 (va_up X 3 (pa_N (X 3) (80 * q) (X 1) 80)) 0 4 (X 0 4 ||| 1 <<< (nI q &&& 31))))) := by
  refine mt_of (L := [some (.ref m), some (.int (nI q)), none]) (by decide +kernel) (by simp [Value.category]) (Nat.le_of_ble_eq_true rfl) (lc_2_3 ()) ?_
  have loop : ∀ (d i : Nat), i + d = 80 → gg_P Γ mk_M_keep (fun v μ' => v = some (.int (X 1 6)) ∧ μ' = (τ, mv_N ν m (up_2 (va_up X 3 (pa_N (X 3) (80 * q) (X 1) 80)) 0 4 (X 0 4 ||| 1 <<< (nI q &&& 31))))) 0 0 12 [some (.ref m), some (.int (nI q)), some (.int (nI i))] [] (τ, mv_N ν m (va_up X 3 (pa_N (X 3) (80 * q) (X 1) i))) := by
    intro d
    induction d with
    | zero =>
      intro i hi
      have hi : i = 80 := by omega
      subst hi
      refine gg_ildn dc_M_keep_12 rfl rfl ?_
      refine gg_bipush (v := 80) dc_M_keep_13 (by decide) ?_
      refine gg_icge dc_M_keep_15 (fun c_15 => ?_) (fun c_15 => ?_)
      · refine gg_aldn dc_M_keep_41 rfl rfl ?_
        refine gg_dup dc_M_keep_42 rfl ?_
        refine gmx_g (k := 4) dc_M_keep_43 lf_M_157 hm.1 rfl ?_
        refine gg_iconst (v := 1) dc_M_keep_46 (by decide) ?_
        refine gg_ildn dc_M_keep_47 rfl rfl ?_
        refine gg_ishl dc_M_keep_48 ?_
        refine gg_ior dc_M_keep_49 ?_
        refine gmx_p (k := 4) dc_M_keep_50 lp_M_157 hm.1 rfl ?_
        refine gg_aldn dc_M_keep_53 rfl rfl ?_
        refine gg_getr dc_M_keep_54 lf_M_7 hm.1 rfl ?_
        refine gg_bipush (v := 6) dc_M_keep_57 (by decide) ?_
        refine gmx_r (o := 1) (by omega) (k := 6) dc_M_keep_59 hm ⟨rfl, Nat.le_of_ble_eq_true rfl⟩ ?_
        exact gg_iret dc_M_keep_60 rfl ⟨Nat.le_of_ble_eq_true rfl, Nat.le_of_ble_eq_true rfl⟩ (⟨rfl, rfl⟩)
      · exact absurd (Int32.le_refl _) c_15
    | succ d ih =>
      intro i hi
      refine gg_ildn dc_M_keep_12 rfl rfl ?_
      refine gg_bipush (v := 80) dc_M_keep_13 (by decide) ?_
      refine gg_icge dc_M_keep_15 (fun c_15 => ?_) (fun c_15 => ?_)
      · exact absurd c_15 (nI_ge (b := 80) (by omega) (by omega))
      · refine gg_aldn dc_M_keep_18 rfl rfl ?_
        refine gg_getr dc_M_keep_19 lf_M_16 hm.1 rfl ?_
        refine gg_bipush (v := 80) dc_M_keep_22 (by decide) ?_
        refine gg_ildn dc_M_keep_24 rfl rfl ?_
        refine gg_imul dc_M_keep_25 ?_
        refine gg_ildn dc_M_keep_26 rfl rfl ?_
        refine gg_iadd dc_M_keep_27 ?_
        refine gg_aldn dc_M_keep_28 rfl rfl ?_
        refine gg_getr dc_M_keep_29 lf_M_7 hm.1 rfl ?_
        refine gg_ildn dc_M_keep_32 rfl rfl ?_
        refine gmx_r (o := 1) (by omega) (k := i) dc_M_keep_33 hm (⟨rfl, show i < 80 by omega⟩) ?_
        refine gmx_w (o := 3) (by omega) (k := 80 * q + i) dc_M_keep_34 hm (⟨by show 80 * nI q + nI i = _; rw [show (80 : Int32) = nI 80 from rfl, pk_mul, nI_add], show 80 * q + i < 160 by omega⟩) ?_
        rw [up_va]
        refine gg_iinc (i := 2) dc_M_keep_35 rfl (Nat.le_of_ble_eq_true rfl) rfl ?_
        dsimp only [List.set]
        rw [show Int32.ofInt 1 = 1 from by decide]
        refine gg_goto dc_M_keep_38 ?_
        refine gg_e (ih (i + 1) (by omega)) (by rw [nI_1]) rfl ?_
        rw [← pa_s]
        rfl
  refine gg_ildn dc_M_keep_0 rfl rfl ?_
  refine gg_okS (sp_M_isImage) dc_M_keep_1 ml_M_154 ce_M_isImage ⟨Nat.le_of_ble_eq_true rfl, Nat.le_of_ble_eq_true rfl⟩ rfl (Nat.le_of_ble_eq_true rfl) ⟨rfl, rfl⟩ ⟨Nat.le_of_ble_eq_true rfl, Nat.le_of_ble_eq_true rfl⟩ ?_
  refine gg_ifne dc_M_keep_4 (fun c_4 => ?_) (fun c_4 => ?_)
  · refine gg_iconst (v := 0) dc_M_keep_10 (by decide) ?_
    refine gg_istn (i := 2) dc_M_keep_11 rfl (Nat.le_of_ble_eq_true rfl) rfl ?_
    dsimp only [List.set]
    refine gg_e (loop 80 0 (by omega)) rfl rfl ?_
    rw [pa_0, va_id]
  · exact absurd c_4 h1
set_option maxRecDepth 100000 in
set_option maxHeartbeats 4000000 in
theorem sp_M_backB {Γ : cx_T} {τ : Nat × (Nat → sh_T)} {ν : Nat → Nat → Int32} {X : Nat → Nat → Int32} {m : Nat} (hm : sh_M τ.2 m) {w : Int32} (h : in_I w 0 1 = 0) : mt_P Γ mk_M_back [.ref m, .int w] (τ, mv_N ν m X) (fun v μ' => v = some (.int (-1000001)) ∧ μ' = (τ, mv_N ν m (X))) := by
  refine mt_of (L := [some (.ref m), some (.int w), none]) (by decide +kernel) (by simp [Value.category]) (Nat.le_of_ble_eq_true rfl) (lc_2_3 ()) ?_
  refine gg_ildn dc_M_back_0 rfl rfl ?_
  refine gg_okS (sp_M_isImage) dc_M_back_1 ml_M_154 ce_M_isImage ⟨Nat.le_of_ble_eq_true rfl, Nat.le_of_ble_eq_true rfl⟩ rfl (Nat.le_of_ble_eq_true rfl) ⟨rfl, rfl⟩ ⟨Nat.le_of_ble_eq_true rfl, Nat.le_of_ble_eq_true rfl⟩ ?_
  refine gg_ifne dc_M_back_4 (fun c_4 => ?_) (fun c_4 => ?_)
  · exact absurd h c_4
  · refine gg_ldc dc_M_back_7 lk_M_64 ?_
    exact gg_iret dc_M_back_9 rfl ⟨Nat.le_of_ble_eq_true rfl, Nat.le_of_ble_eq_true rfl⟩ (⟨rfl, rfl⟩)
set_option maxRecDepth 100000 in
set_option maxHeartbeats 4000000 in
theorem sp_M_backI {Γ : cx_T} {τ : Nat × (Nat → sh_T)} {ν : Nat → Nat → Int32} {X : Nat → Nat → Int32} {m : Nat} (hm : sh_M τ.2 m) {w : Int32} (h1 : ¬ in_I w 0 1 = 0) (h : X 0 4 >>> (w &&& 31) &&& 1 = 0) : mt_P Γ mk_M_back [.ref m, .int w] (τ, mv_N ν m X) (fun v μ' => v = some (.int (-1000002)) ∧ μ' = (τ, mv_N ν m (X))) := by
  refine mt_of (L := [some (.ref m), some (.int w), none]) (by decide +kernel) (by simp [Value.category]) (Nat.le_of_ble_eq_true rfl) (lc_2_3 ()) ?_
  refine gg_ildn dc_M_back_0 rfl rfl ?_
  refine gg_okS (sp_M_isImage) dc_M_back_1 ml_M_154 ce_M_isImage ⟨Nat.le_of_ble_eq_true rfl, Nat.le_of_ble_eq_true rfl⟩ rfl (Nat.le_of_ble_eq_true rfl) ⟨rfl, rfl⟩ ⟨Nat.le_of_ble_eq_true rfl, Nat.le_of_ble_eq_true rfl⟩ ?_
  refine gg_ifne dc_M_back_4 (fun c_4 => ?_) (fun c_4 => ?_)
  · refine gg_aldn dc_M_back_10 rfl rfl ?_
    refine gmx_g (k := 4) dc_M_back_11 lf_M_157 hm.1 rfl ?_
    refine gg_ildn dc_M_back_14 rfl rfl ?_
    refine gg_ishr dc_M_back_15 ?_
    refine gg_iconst (v := 1) dc_M_back_16 (by decide) ?_
    refine gg_iand dc_M_back_17 ?_
    refine gg_ifne dc_M_back_18 (fun c_18 => ?_) (fun c_18 => ?_)
    · exact absurd h c_18
    · refine gg_ldc dc_M_back_21 lk_M_30 ?_
      exact gg_iret dc_M_back_23 rfl ⟨Nat.le_of_ble_eq_true rfl, Nat.le_of_ble_eq_true rfl⟩ (⟨rfl, rfl⟩)
  · exact absurd c_4 h1
set_option maxRecDepth 100000 in
set_option maxHeartbeats 4000000 in
theorem sp_M_back {Γ : cx_T} {τ : Nat × (Nat → sh_T)} {ν : Nat → Nat → Int32} {X : Nat → Nat → Int32} {m : Nat} (hm : sh_M τ.2 m) {q : Nat} (hq : q < 2) (hp : PS X) (h1 : ¬ in_I (nI q) 0 1 = 0) (h : ¬ X 0 4 >>> (nI q &&& 31) &&& 1 = 0) : mt_P Γ mk_M_back [.ref m, .int (nI q)] (τ, mv_N ν m X) (fun v μ' => v = some (.int (cp_N (fun k => nt_X X 3 (80 * q + k)) (nt_X X 1) 80 6)) ∧ μ' = (τ, mv_N ν m (va_up (nt_X X) 1 (cp_N (fun k => (nt_X X) 3 (80 * q + k)) ((nt_X X) 1) 80)))) := by
  refine mt_of (L := [some (.ref m), some (.int (nI q)), none]) (by decide +kernel) (by simp [Value.category]) (Nat.le_of_ble_eq_true rfl) (lc_2_3 ()) ?_
  have loop : ∀ (Y : Nat → Nat → Int32) (d i : Nat), i + d = 80 → gg_P Γ mk_M_back (fun v μ' => v = some (.int (cp_N (fun k => Y 3 (80 * q + k)) (Y 1) 80 6)) ∧ μ' = (τ, mv_N ν m (va_up Y 1 (cp_N (fun k => Y 3 (80 * q + k)) (Y 1) 80)))) 0 0 30 [some (.ref m), some (.int (nI q)), some (.int (nI i))] [] (τ, mv_N ν m (va_up Y 1 (cp_N (fun k => Y 3 (80 * q + k)) (Y 1) i))) := by
    intro Y d
    induction d with
    | zero =>
      intro i hi
      have hi : i = 80 := by omega
      subst hi
      refine gg_ildn dc_M_back_30 rfl rfl ?_
      refine gg_bipush (v := 80) dc_M_back_31 (by decide) ?_
      refine gg_icge dc_M_back_33 (fun c_33 => ?_) (fun c_33 => ?_)
      · refine gg_aldn dc_M_back_59 rfl rfl ?_
        refine gg_getr dc_M_back_60 lf_M_7 hm.1 rfl ?_
        refine gg_bipush (v := 6) dc_M_back_63 (by decide) ?_
        refine gmx_r (o := 1) (by omega) (k := 6) dc_M_back_65 hm ⟨rfl, Nat.le_of_ble_eq_true rfl⟩ ?_
        exact gg_iret dc_M_back_66 rfl ⟨Nat.le_of_ble_eq_true rfl, Nat.le_of_ble_eq_true rfl⟩ (⟨rfl, rfl⟩)
      · exact absurd (Int32.le_refl _) c_33
    | succ d ih =>
      intro i hi
      refine gg_ildn dc_M_back_30 rfl rfl ?_
      refine gg_bipush (v := 80) dc_M_back_31 (by decide) ?_
      refine gg_icge dc_M_back_33 (fun c_33 => ?_) (fun c_33 => ?_)
      · exact absurd c_33 (nI_ge (b := 80) (by omega) (by omega))
      · refine gg_aldn dc_M_back_36 rfl rfl ?_
        refine gg_getr dc_M_back_37 lf_M_7 hm.1 rfl ?_
        refine gg_ildn dc_M_back_40 rfl rfl ?_
        refine gg_aldn dc_M_back_41 rfl rfl ?_
        refine gg_getr dc_M_back_42 lf_M_16 hm.1 rfl ?_
        refine gg_bipush (v := 80) dc_M_back_45 (by decide) ?_
        refine gg_ildn dc_M_back_47 rfl rfl ?_
        refine gg_imul dc_M_back_48 ?_
        refine gg_ildn dc_M_back_49 rfl rfl ?_
        refine gg_iadd dc_M_back_50 ?_
        refine gmx_r (o := 3) (by omega) (k := 80 * q + i) dc_M_back_51 hm (⟨by show 80 * nI q + nI i = _; rw [show (80 : Int32) = nI 80 from rfl, pk_mul, nI_add], show 80 * q + i < 160 by omega⟩) ?_
        refine gmx_w (o := 1) (by omega) (k := i) dc_M_back_52 hm (⟨rfl, show i < 80 by omega⟩) ?_
        rw [up_va]
        refine gg_iinc (i := 2) dc_M_back_53 rfl (Nat.le_of_ble_eq_true rfl) rfl ?_
        dsimp only [List.set]
        rw [show Int32.ofInt 1 = 1 from by decide]
        refine gg_goto dc_M_back_56 ?_
        refine gg_e (ih (i + 1) (by omega)) (by rw [nI_1]) rfl ?_
        rw [← cp_s]
        rfl
  refine gg_ildn dc_M_back_0 rfl rfl ?_
  refine gg_okS (sp_M_isImage) dc_M_back_1 ml_M_154 ce_M_isImage ⟨Nat.le_of_ble_eq_true rfl, Nat.le_of_ble_eq_true rfl⟩ rfl (Nat.le_of_ble_eq_true rfl) ⟨rfl, rfl⟩ ⟨Nat.le_of_ble_eq_true rfl, Nat.le_of_ble_eq_true rfl⟩ ?_
  refine gg_ifne dc_M_back_4 (fun c_4 => ?_) (fun c_4 => ?_)
  · refine gg_aldn dc_M_back_10 rfl rfl ?_
    refine gmx_g (k := 4) dc_M_back_11 lf_M_157 hm.1 rfl ?_
    refine gg_ildn dc_M_back_14 rfl rfl ?_
    refine gg_ishr dc_M_back_15 ?_
    refine gg_iconst (v := 1) dc_M_back_16 (by decide) ?_
    refine gg_iand dc_M_back_17 ?_
    refine gg_ifne dc_M_back_18 (fun c_18 => ?_) (fun c_18 => ?_)
    · refine gg_aldn dc_M_back_24 rfl rfl ?_
      refine gg_okVv (sp_M_notesX hm hp) dc_M_back_25 ml_M_47 ce_M_notes ⟨Nat.le_of_ble_eq_true rfl, Nat.le_of_ble_eq_true rfl⟩ hm.1 rfl rfl (Nat.le_of_ble_eq_true rfl) ⟨rfl, rfl⟩ ⟨Nat.le_of_ble_eq_true rfl, Nat.le_of_ble_eq_true rfl⟩ ?_
      refine gg_iconst (v := 0) dc_M_back_28 (by decide) ?_
      refine gg_istn (i := 2) dc_M_back_29 rfl (Nat.le_of_ble_eq_true rfl) rfl ?_
      dsimp only [List.set]
      refine gg_e (loop (nt_X X) 80 0 (by omega)) rfl rfl ?_
      rw [cp_0, va_id]
    · exact absurd c_18 h
  · exact absurd c_4 h1
set_option maxRecDepth 100000 in
set_option maxHeartbeats 4000000 in
theorem sp_M_whyB {Γ : cx_T} {τ : Nat × (Nat → sh_T)} {ν : Nat → Nat → Int32} {X : Nat → Nat → Int32} {S : Nat → Int32} {m : Nat} (hm : sh_M τ.2 m) {x : Int32} (h : in_I x (-20000) 20000 = 0) : mt_P Γ mk_M_why [.ref m, .int x] (τ, mv_N ν m (va_up X 1 S)) (fun v μ' => v = some (.int (-1000001)) ∧ μ' = (τ, mv_N ν m (va_up (X) 1 (S)))) := by
  refine mt_of (L := [some (.ref m), some (.int x), none]) (by decide +kernel) (by simp [Value.category]) (Nat.le_of_ble_eq_true rfl) (lc_2_3 ()) ?_
  refine gg_ildn dc_M_why_0 rfl rfl ?_
  refine gg_okS (sp_M_isPlace) dc_M_why_1 ml_M_65 ce_M_isPlace ⟨Nat.le_of_ble_eq_true rfl, Nat.le_of_ble_eq_true rfl⟩ rfl (Nat.le_of_ble_eq_true rfl) ⟨rfl, rfl⟩ ⟨Nat.le_of_ble_eq_true rfl, Nat.le_of_ble_eq_true rfl⟩ ?_
  refine gg_ifne dc_M_why_4 (fun c_4 => ?_) (fun c_4 => ?_)
  · exact absurd h c_4
  · refine gg_ldc dc_M_why_7 lk_M_64 ?_
    exact gg_iret dc_M_why_9 rfl ⟨Nat.le_of_ble_eq_true rfl, Nat.le_of_ble_eq_true rfl⟩ (⟨rfl, rfl⟩)
set_option maxRecDepth 100000 in
set_option maxHeartbeats 4000000 in
theorem sp_M_whyI {Γ : cx_T} {τ : Nat × (Nat → sh_T)} {ν : Nat → Nat → Int32} {X : Nat → Nat → Int32} {S : Nat → Int32} {m : Nat} (hm : sh_M τ.2 m) {x : Int32} (hR : RI S) (h1 : ¬ in_I x (-20000) 20000 = 0) (h : in_I (am_S S x) (-20000) 20000 = 0) : mt_P Γ mk_M_why [.ref m, .int x] (τ, mv_N ν m (va_up X 1 S)) (fun v μ' => v = some (.int (1)) ∧ μ' = (τ, mv_N ν m (va_up (X) 1 (S)))) := by
  refine mt_of (L := [some (.ref m), some (.int x), none]) (by decide +kernel) (by simp [Value.category]) (Nat.le_of_ble_eq_true rfl) (lc_2_3 ()) ?_
  refine gg_ildn dc_M_why_0 rfl rfl ?_
  refine gg_okS (sp_M_isPlace) dc_M_why_1 ml_M_65 ce_M_isPlace ⟨Nat.le_of_ble_eq_true rfl, Nat.le_of_ble_eq_true rfl⟩ rfl (Nat.le_of_ble_eq_true rfl) ⟨rfl, rfl⟩ ⟨Nat.le_of_ble_eq_true rfl, Nat.le_of_ble_eq_true rfl⟩ ?_
  refine gg_ifne dc_M_why_4 (fun c_4 => ?_) (fun c_4 => ?_)
  · refine gg_aldn dc_M_why_10 rfl rfl ?_
    refine gg_ildn dc_M_why_11 rfl rfl ?_
    refine gg_okV (sp_M_aimOf hm hR.2.1 hR.2.2.2.1) dc_M_why_12 ml_M_129 ce_M_aimOf ⟨Nat.le_of_ble_eq_true rfl, Nat.le_of_ble_eq_true rfl⟩ hm.1 rfl rfl (Nat.le_of_ble_eq_true rfl) ⟨rfl, rfl⟩ ⟨Nat.le_of_ble_eq_true rfl, Nat.le_of_ble_eq_true rfl⟩ ?_
    refine gg_istn (i := 2) dc_M_why_15 rfl (Nat.le_of_ble_eq_true rfl) rfl ?_
    dsimp only [List.set]
    refine gg_ildn dc_M_why_16 rfl rfl ?_
    refine gg_okS (sp_M_isPlace) dc_M_why_17 ml_M_65 ce_M_isPlace ⟨Nat.le_of_ble_eq_true rfl, Nat.le_of_ble_eq_true rfl⟩ rfl (Nat.le_of_ble_eq_true rfl) ⟨rfl, rfl⟩ ⟨Nat.le_of_ble_eq_true rfl, Nat.le_of_ble_eq_true rfl⟩ ?_
    refine gg_ifne dc_M_why_20 (fun c_20 => ?_) (fun c_20 => ?_)
    · exact absurd h c_20
    · refine gg_iconst (v := 1) dc_M_why_23 (by decide) ?_
      exact gg_iret dc_M_why_24 rfl ⟨Nat.le_of_ble_eq_true rfl, Nat.le_of_ble_eq_true rfl⟩ (⟨rfl, rfl⟩)
  · exact absurd c_4 h1
set_option maxRecDepth 100000 in
set_option maxHeartbeats 4000000 in
theorem sp_M_why {Γ : cx_T} {τ : Nat × (Nat → sh_T)} {ν : Nat → Nat → Int32} {X : Nat → Nat → Int32} {S : Nat → Int32} {m : Nat} (hm : sh_M τ.2 m) {x : Int32} (hR : RI S) (h1 : ¬ in_I x (-20000) 20000 = 0) (h : ¬ in_I (am_S S x) (-20000) 20000 = 0) : mt_P Γ mk_M_why [.ref m, .int x] (τ, mv_N ν m (va_up X 1 S)) (fun v μ' => v = some (.int (wy_I (mo_S S x) (am_S S x))) ∧ μ' = (τ, mv_N ν m (va_up (va_up X 4 (cp_N (mo_S (S) x) (X 4) 80)) 1 (S)))) := by
  refine mt_of (L := [some (.ref m), some (.int x), none]) (by decide +kernel) (by simp [Value.category]) (Nat.le_of_ble_eq_true rfl) (lc_2_3 ()) ?_
  refine gg_ildn dc_M_why_0 rfl rfl ?_
  refine gg_okS (sp_M_isPlace) dc_M_why_1 ml_M_65 ce_M_isPlace ⟨Nat.le_of_ble_eq_true rfl, Nat.le_of_ble_eq_true rfl⟩ rfl (Nat.le_of_ble_eq_true rfl) ⟨rfl, rfl⟩ ⟨Nat.le_of_ble_eq_true rfl, Nat.le_of_ble_eq_true rfl⟩ ?_
  refine gg_ifne dc_M_why_4 (fun c_4 => ?_) (fun c_4 => ?_)
  · refine gg_aldn dc_M_why_10 rfl rfl ?_
    refine gg_ildn dc_M_why_11 rfl rfl ?_
    refine gg_okV (sp_M_aimOf hm hR.2.1 hR.2.2.2.1) dc_M_why_12 ml_M_129 ce_M_aimOf ⟨Nat.le_of_ble_eq_true rfl, Nat.le_of_ble_eq_true rfl⟩ hm.1 rfl rfl (Nat.le_of_ble_eq_true rfl) ⟨rfl, rfl⟩ ⟨Nat.le_of_ble_eq_true rfl, Nat.le_of_ble_eq_true rfl⟩ ?_
    refine gg_istn (i := 2) dc_M_why_15 rfl (Nat.le_of_ble_eq_true rfl) rfl ?_
    dsimp only [List.set]
    refine gg_ildn dc_M_why_16 rfl rfl ?_
    refine gg_okS (sp_M_isPlace) dc_M_why_17 ml_M_65 ce_M_isPlace ⟨Nat.le_of_ble_eq_true rfl, Nat.le_of_ble_eq_true rfl⟩ rfl (Nat.le_of_ble_eq_true rfl) ⟨rfl, rfl⟩ ⟨Nat.le_of_ble_eq_true rfl, Nat.le_of_ble_eq_true rfl⟩ ?_
    refine gg_ifne dc_M_why_20 (fun c_20 => ?_) (fun c_20 => ?_)
    · refine gg_aldn dc_M_why_25 rfl rfl ?_
      refine gg_okVv (sp_M_putAsideS hm) dc_M_why_26 ml_M_99 ce_M_putAside ⟨Nat.le_of_ble_eq_true rfl, Nat.le_of_ble_eq_true rfl⟩ hm.1 rfl rfl (Nat.le_of_ble_eq_true rfl) ⟨rfl, rfl⟩ ⟨Nat.le_of_ble_eq_true rfl, Nat.le_of_ble_eq_true rfl⟩ ?_
      refine gg_aldn dc_M_why_29 rfl rfl ?_
      refine gg_ildn dc_M_why_30 rfl rfl ?_
      refine gg_okVv (sp_M_moves hm hR.1 hR.2.1 hR.2.2.2.1 hR.2.2.2.2) dc_M_why_31 ml_M_136 ce_M_moves ⟨Nat.le_of_ble_eq_true rfl, Nat.le_of_ble_eq_true rfl⟩ hm.1 rfl rfl (Nat.le_of_ble_eq_true rfl) ⟨rfl, rfl⟩ ⟨Nat.le_of_ble_eq_true rfl, Nat.le_of_ble_eq_true rfl⟩ ?_
      refine gg_aldn dc_M_why_34 rfl rfl ?_
      refine gg_okVv (sp_M_swapsS hm) dc_M_why_35 ml_M_106 ce_M_swaps ⟨Nat.le_of_ble_eq_true rfl, Nat.le_of_ble_eq_true rfl⟩ hm.1 rfl rfl (Nat.le_of_ble_eq_true rfl) ⟨rfl, rfl⟩ ⟨Nat.le_of_ble_eq_true rfl, Nat.le_of_ble_eq_true rfl⟩ ?_
      rw [rc_1 (show ∀ j : Nat, 80 ≤ j → mo_S (S) x j = S j from fun j hj => (mo_o (by omega)).trans (rfl))]
      refine gg_aldn dc_M_why_38 rfl rfl ?_
      refine gg_getr dc_M_why_39 lf_M_19 hm.1 rfl ?_
      refine gg_bipush (v := 6) dc_M_why_42 (by decide) ?_
      refine gmx_r (o := 4) (by omega) (k := 6) dc_M_why_44 hm ⟨rfl, Nat.le_of_ble_eq_true rfl⟩ ?_
      refine gx_top (show _ = mo_S S x 6 from rfl) ?_
      refine gg_ildn dc_M_why_45 rfl rfl ?_
      refine gg_iceq dc_M_why_46 (fun c_46 => ?_) (fun c_46 => ?_)
      · refine gg_aldn dc_M_why_51 rfl rfl ?_
        refine gg_getr dc_M_why_52 lf_M_19 hm.1 rfl ?_
        refine gg_bipush (v := 9) dc_M_why_55 (by decide) ?_
        refine gmx_r (o := 4) (by omega) (k := 9) dc_M_why_57 hm ⟨rfl, Nat.le_of_ble_eq_true rfl⟩ ?_
        refine gx_top (show _ = mo_S S x 9 from rfl) ?_
        refine gg_ifeq dc_M_why_58 (fun c_58 => ?_) (fun c_58 => ?_)
        · refine gg_aldn dc_M_why_63 rfl rfl ?_
          refine gg_getr dc_M_why_64 lf_M_19 hm.1 rfl ?_
          refine gg_bipush (v := 7) dc_M_why_67 (by decide) ?_
          refine gmx_r (o := 4) (by omega) (k := 7) dc_M_why_69 hm ⟨rfl, Nat.le_of_ble_eq_true rfl⟩ ?_
          refine gx_top (show _ = mo_S S x 7 from rfl) ?_
          refine gg_ildn dc_M_why_70 rfl rfl ?_
          refine gg_iceq dc_M_why_71 (fun c_71 => ?_) (fun c_71 => ?_)
          · refine gg_aldn dc_M_why_90 rfl rfl ?_
            refine gg_getr dc_M_why_91 lf_M_19 hm.1 rfl ?_
            refine gg_bipush (v := 8) dc_M_why_94 (by decide) ?_
            refine gmx_r (o := 4) (by omega) (k := 8) dc_M_why_96 hm ⟨rfl, Nat.le_of_ble_eq_true rfl⟩ ?_
            refine gx_top (show _ = mo_S S x 8 from rfl) ?_
            refine gg_ildn dc_M_why_97 rfl rfl ?_
            refine gg_iceq dc_M_why_98 (fun c_98 => ?_) (fun c_98 => ?_)
            · refine gg_iconst (v := 0) dc_M_why_106 (by decide) ?_
              exact gg_iret dc_M_why_107 rfl ⟨Nat.le_of_ble_eq_true rfl, Nat.le_of_ble_eq_true rfl⟩ (⟨by unfold wy_I; rw [if_neg (fun q => q c_46), if_neg (fun q => q c_58), if_neg (fun q => q c_71), if_neg (fun q => q c_98)], rfl⟩)
            · refine gg_bipush (v := 6) dc_M_why_101 (by decide) ?_
              refine gg_goto dc_M_why_103 ?_
              exact gg_iret dc_M_why_107 rfl ⟨Nat.le_of_ble_eq_true rfl, Nat.le_of_ble_eq_true rfl⟩ (⟨by unfold wy_I; rw [if_neg (fun q => q c_46), if_neg (fun q => q c_58), if_neg (fun q => q c_71), if_pos c_98], rfl⟩)
          · refine gg_aldn dc_M_why_74 rfl rfl ?_
            refine gg_getr dc_M_why_75 lf_M_19 hm.1 rfl ?_
            refine gg_bipush (v := 10) dc_M_why_78 (by decide) ?_
            refine gmx_r (o := 4) (by omega) (k := 10) dc_M_why_80 hm ⟨rfl, Nat.le_of_ble_eq_true rfl⟩ ?_
            refine gx_top (show _ = mo_S S x 10 from rfl) ?_
            refine gg_ifeq dc_M_why_81 (fun c_81 => ?_) (fun c_81 => ?_)
            · refine gg_iconst (v := 5) dc_M_why_88 (by decide) ?_
              exact gg_iret dc_M_why_89 rfl ⟨Nat.le_of_ble_eq_true rfl, Nat.le_of_ble_eq_true rfl⟩ (⟨by unfold wy_I; rw [if_neg (fun q => q c_46), if_neg (fun q => q c_58), if_pos c_71, if_neg (fun q => q c_81)], rfl⟩)
            · refine gg_iconst (v := 4) dc_M_why_84 (by decide) ?_
              refine gg_goto dc_M_why_85 ?_
              exact gg_iret dc_M_why_89 rfl ⟨Nat.le_of_ble_eq_true rfl, Nat.le_of_ble_eq_true rfl⟩ (⟨by unfold wy_I; rw [if_neg (fun q => q c_46), if_neg (fun q => q c_58), if_pos c_71, if_pos c_81], rfl⟩)
        · refine gg_iconst (v := 3) dc_M_why_61 (by decide) ?_
          exact gg_iret dc_M_why_62 rfl ⟨Nat.le_of_ble_eq_true rfl, Nat.le_of_ble_eq_true rfl⟩ (⟨by unfold wy_I; rw [if_neg (fun q => q c_46), if_pos c_58], rfl⟩)
      · refine gg_iconst (v := 2) dc_M_why_49 (by decide) ?_
        exact gg_iret dc_M_why_50 rfl ⟨Nat.le_of_ble_eq_true rfl, Nat.le_of_ble_eq_true rfl⟩ (⟨by unfold wy_I; rw [if_pos c_46], rfl⟩)
    · exact absurd c_20 h
  · exact absurd c_4 h1
set_option maxRecDepth 100000 in
set_option maxHeartbeats 4000000 in
theorem sp_M_lossesB {Γ : cx_T} {τ : Nat × (Nat → sh_T)} {ν : Nat → Nat → Int32} {X : Nat → Nat → Int32} {S : Nat → Int32} {m : Nat} (hm : sh_M τ.2 m) {x y : Int32} (h : in_I x (-20000) 20000 = 0 ∨ in_I y 1 1000 = 0) : mt_P Γ mk_M_losses [.ref m, .int x, .int y] (τ, mv_N ν m (va_up X 1 S)) (fun v μ' => v = some (.int (-1000001)) ∧ μ' = (τ, mv_N ν m (va_up (X) 1 (S)))) := by
  refine mt_of (L := [some (.ref m), some (.int x), some (.int y)]) (by decide +kernel) (by simp [Value.category]) (Nat.le_of_ble_eq_true rfl) (lc_3_3 ()) ?_
  refine gg_ildn dc_M_losses_0 rfl rfl ?_
  refine gg_okS (sp_M_isPlace) dc_M_losses_1 ml_M_65 ce_M_isPlace ⟨Nat.le_of_ble_eq_true rfl, Nat.le_of_ble_eq_true rfl⟩ rfl (Nat.le_of_ble_eq_true rfl) ⟨rfl, rfl⟩ ⟨Nat.le_of_ble_eq_true rfl, Nat.le_of_ble_eq_true rfl⟩ ?_
  refine gg_ifeq dc_M_losses_4 (fun c_4 => ?_) (fun c_4 => ?_)
  · refine gg_ldc dc_M_losses_18 lk_M_64 ?_
    exact gg_iret dc_M_losses_20 rfl ⟨Nat.le_of_ble_eq_true rfl, Nat.le_of_ble_eq_true rfl⟩ (⟨rfl, rfl⟩)
  · refine gg_ildn dc_M_losses_7 rfl rfl ?_
    refine gg_iconst (v := 1) dc_M_losses_8 (by decide) ?_
    refine gg_sipush (v := 1000) dc_M_losses_9 (by decide) ?_
    refine gg_okS (sp_M_in) dc_M_losses_12 ml_M_31 ce_M_in ⟨Nat.le_of_ble_eq_true rfl, Nat.le_of_ble_eq_true rfl⟩ rfl (Nat.le_of_ble_eq_true rfl) ⟨rfl, rfl⟩ ⟨Nat.le_of_ble_eq_true rfl, Nat.le_of_ble_eq_true rfl⟩ ?_
    refine gg_ifne dc_M_losses_15 (fun c_15 => ?_) (fun c_15 => ?_)
    · exact absurd (h.resolve_left c_4) c_15
    · refine gg_ldc dc_M_losses_18 lk_M_64 ?_
      exact gg_iret dc_M_losses_20 rfl ⟨Nat.le_of_ble_eq_true rfl, Nat.le_of_ble_eq_true rfl⟩ (⟨rfl, rfl⟩)
set_option maxRecDepth 100000 in
set_option maxHeartbeats 4000000 in
theorem sp_M_lossesN {Γ : cx_T} {τ : Nat × (Nat → sh_T)} {ν : Nat → Nat → Int32} {X : Nat → Nat → Int32} {S : Nat → Int32} {m : Nat} (hm : sh_M τ.2 m) {x y : Int32} (hR : RI S) (h1 : ¬ in_I x (-20000) 20000 = 0) (h2 : ¬ in_I y 1 1000 = 0) (h : in_I (am_S S x) (-20000) 20000 = 0) : mt_P Γ mk_M_losses [.ref m, .int x, .int y] (τ, mv_N ν m (va_up X 1 S)) (fun v μ' => v = some (.int (-1000009)) ∧ μ' = (τ, mv_N ν m (va_up (X) 1 (S)))) := by
  refine mt_of (L := [some (.ref m), some (.int x), some (.int y)]) (by decide +kernel) (by simp [Value.category]) (Nat.le_of_ble_eq_true rfl) (lc_3_3 ()) ?_
  refine gg_ildn dc_M_losses_0 rfl rfl ?_
  refine gg_okS (sp_M_isPlace) dc_M_losses_1 ml_M_65 ce_M_isPlace ⟨Nat.le_of_ble_eq_true rfl, Nat.le_of_ble_eq_true rfl⟩ rfl (Nat.le_of_ble_eq_true rfl) ⟨rfl, rfl⟩ ⟨Nat.le_of_ble_eq_true rfl, Nat.le_of_ble_eq_true rfl⟩ ?_
  refine gg_ifeq dc_M_losses_4 (fun c_4 => ?_) (fun c_4 => ?_)
  · exact absurd c_4 h1
  · refine gg_ildn dc_M_losses_7 rfl rfl ?_
    refine gg_iconst (v := 1) dc_M_losses_8 (by decide) ?_
    refine gg_sipush (v := 1000) dc_M_losses_9 (by decide) ?_
    refine gg_okS (sp_M_in) dc_M_losses_12 ml_M_31 ce_M_in ⟨Nat.le_of_ble_eq_true rfl, Nat.le_of_ble_eq_true rfl⟩ rfl (Nat.le_of_ble_eq_true rfl) ⟨rfl, rfl⟩ ⟨Nat.le_of_ble_eq_true rfl, Nat.le_of_ble_eq_true rfl⟩ ?_
    refine gg_ifne dc_M_losses_15 (fun c_15 => ?_) (fun c_15 => ?_)
    · refine gg_aldn dc_M_losses_21 rfl rfl ?_
      refine gg_ildn dc_M_losses_22 rfl rfl ?_
      refine gg_okV (sp_M_aimOf hm hR.2.1 hR.2.2.2.1) dc_M_losses_23 ml_M_129 ce_M_aimOf ⟨Nat.le_of_ble_eq_true rfl, Nat.le_of_ble_eq_true rfl⟩ hm.1 rfl rfl (Nat.le_of_ble_eq_true rfl) ⟨rfl, rfl⟩ ⟨Nat.le_of_ble_eq_true rfl, Nat.le_of_ble_eq_true rfl⟩ ?_
      refine gg_okS (sp_M_isPlace) dc_M_losses_26 ml_M_65 ce_M_isPlace ⟨Nat.le_of_ble_eq_true rfl, Nat.le_of_ble_eq_true rfl⟩ rfl (Nat.le_of_ble_eq_true rfl) ⟨rfl, rfl⟩ ⟨Nat.le_of_ble_eq_true rfl, Nat.le_of_ble_eq_true rfl⟩ ?_
      refine gg_ifne dc_M_losses_29 (fun c_29 => ?_) (fun c_29 => ?_)
      · exact absurd h c_29
      · refine gg_ldc dc_M_losses_32 lk_M_145 ?_
        exact gg_iret dc_M_losses_34 rfl ⟨Nat.le_of_ble_eq_true rfl, Nat.le_of_ble_eq_true rfl⟩ (⟨rfl, rfl⟩)
    · exact absurd c_15 h2
set_option maxRecDepth 100000 in
set_option maxHeartbeats 4000000 in
theorem sp_M_losses {Γ : cx_T} {τ : Nat × (Nat → sh_T)} {ν : Nat → Nat → Int32} {X : Nat → Nat → Int32} {S : Nat → Int32} {m : Nat} (hm : sh_M τ.2 m) {x y : Int32} (hR : RI S) (h1 : ¬ in_I x (-20000) 20000 = 0) (h2 : ¬ in_I y 1 1000 = 0) (h : ¬ in_I (am_S S x) (-20000) 20000 = 0) : mt_P Γ mk_M_losses [.ref m, .int x, .int y] (τ, mv_N ν m (va_up X 1 S)) (fun v μ' => v = some (.int (mo_S (upd S 2 y) x 10 - S 10)) ∧ μ' = (τ, mv_N ν m (va_up (va_up X 4 (cp_N (mo_S (upd S 2 y) x) (X 4) 80)) 1 (S)))) := by
  refine mt_of (L := [some (.ref m), some (.int x), some (.int y)]) (by decide +kernel) (by simp [Value.category]) (Nat.le_of_ble_eq_true rfl) (lc_3_3 ()) ?_
  refine gg_ildn dc_M_losses_0 rfl rfl ?_
  refine gg_okS (sp_M_isPlace) dc_M_losses_1 ml_M_65 ce_M_isPlace ⟨Nat.le_of_ble_eq_true rfl, Nat.le_of_ble_eq_true rfl⟩ rfl (Nat.le_of_ble_eq_true rfl) ⟨rfl, rfl⟩ ⟨Nat.le_of_ble_eq_true rfl, Nat.le_of_ble_eq_true rfl⟩ ?_
  refine gg_ifeq dc_M_losses_4 (fun c_4 => ?_) (fun c_4 => ?_)
  · exact absurd c_4 h1
  · refine gg_ildn dc_M_losses_7 rfl rfl ?_
    refine gg_iconst (v := 1) dc_M_losses_8 (by decide) ?_
    refine gg_sipush (v := 1000) dc_M_losses_9 (by decide) ?_
    refine gg_okS (sp_M_in) dc_M_losses_12 ml_M_31 ce_M_in ⟨Nat.le_of_ble_eq_true rfl, Nat.le_of_ble_eq_true rfl⟩ rfl (Nat.le_of_ble_eq_true rfl) ⟨rfl, rfl⟩ ⟨Nat.le_of_ble_eq_true rfl, Nat.le_of_ble_eq_true rfl⟩ ?_
    refine gg_ifne dc_M_losses_15 (fun c_15 => ?_) (fun c_15 => ?_)
    · refine gg_aldn dc_M_losses_21 rfl rfl ?_
      refine gg_ildn dc_M_losses_22 rfl rfl ?_
      refine gg_okV (sp_M_aimOf hm hR.2.1 hR.2.2.2.1) dc_M_losses_23 ml_M_129 ce_M_aimOf ⟨Nat.le_of_ble_eq_true rfl, Nat.le_of_ble_eq_true rfl⟩ hm.1 rfl rfl (Nat.le_of_ble_eq_true rfl) ⟨rfl, rfl⟩ ⟨Nat.le_of_ble_eq_true rfl, Nat.le_of_ble_eq_true rfl⟩ ?_
      refine gg_okS (sp_M_isPlace) dc_M_losses_26 ml_M_65 ce_M_isPlace ⟨Nat.le_of_ble_eq_true rfl, Nat.le_of_ble_eq_true rfl⟩ rfl (Nat.le_of_ble_eq_true rfl) ⟨rfl, rfl⟩ ⟨Nat.le_of_ble_eq_true rfl, Nat.le_of_ble_eq_true rfl⟩ ?_
      refine gg_ifne dc_M_losses_29 (fun c_29 => ?_) (fun c_29 => ?_)
      · refine gg_aldn dc_M_losses_35 rfl rfl ?_
        refine gg_okVv (sp_M_putAsideS hm) dc_M_losses_36 ml_M_99 ce_M_putAside ⟨Nat.le_of_ble_eq_true rfl, Nat.le_of_ble_eq_true rfl⟩ hm.1 rfl rfl (Nat.le_of_ble_eq_true rfl) ⟨rfl, rfl⟩ ⟨Nat.le_of_ble_eq_true rfl, Nat.le_of_ble_eq_true rfl⟩ ?_
        refine gg_aldn dc_M_losses_39 rfl rfl ?_
        refine gg_getr dc_M_losses_40 lf_M_7 hm.1 rfl ?_
        refine gg_iconst (v := 2) dc_M_losses_43 (by decide) ?_
        refine gg_ildn dc_M_losses_44 rfl rfl ?_
        refine gms_w (k := 2) dc_M_losses_45 hm ⟨rfl, Nat.le_of_ble_eq_true rfl⟩ ?_
        refine gg_aldn dc_M_losses_46 rfl rfl ?_
        refine gg_ildn dc_M_losses_47 rfl rfl ?_
        refine gg_okVv (sp_M_moves hm hR.up2.1 hR.up2.2.1 hR.up2.2.2.2.1 hR.up2.2.2.2.2) dc_M_losses_48 ml_M_136 ce_M_moves ⟨Nat.le_of_ble_eq_true rfl, Nat.le_of_ble_eq_true rfl⟩ hm.1 rfl rfl (Nat.le_of_ble_eq_true rfl) ⟨rfl, rfl⟩ ⟨Nat.le_of_ble_eq_true rfl, Nat.le_of_ble_eq_true rfl⟩ ?_
        refine gg_aldn dc_M_losses_51 rfl rfl ?_
        refine gg_okVv (sp_M_swapsS hm) dc_M_losses_52 ml_M_106 ce_M_swaps ⟨Nat.le_of_ble_eq_true rfl, Nat.le_of_ble_eq_true rfl⟩ hm.1 rfl rfl (Nat.le_of_ble_eq_true rfl) ⟨rfl, rfl⟩ ⟨Nat.le_of_ble_eq_true rfl, Nat.le_of_ble_eq_true rfl⟩ ?_
        rw [rc_1 (show ∀ j : Nat, 80 ≤ j → mo_S (upd S 2 y) x j = S j from fun j hj => (mo_o (by omega)).trans (ud_ne (by omega)))]
        refine gg_aldn dc_M_losses_55 rfl rfl ?_
        refine gg_getr dc_M_losses_56 lf_M_19 hm.1 rfl ?_
        refine gg_bipush (v := 10) dc_M_losses_59 (by decide) ?_
        refine gmx_r (o := 4) (by omega) (k := 10) dc_M_losses_61 hm ⟨rfl, Nat.le_of_ble_eq_true rfl⟩ ?_
        refine gx_top (show _ = mo_S (upd S 2 y) x 10 from rfl) ?_
        refine gg_aldn dc_M_losses_62 rfl rfl ?_
        refine gg_getr dc_M_losses_63 lf_M_7 hm.1 rfl ?_
        refine gg_bipush (v := 10) dc_M_losses_66 (by decide) ?_
        refine gms_r (k := 10) dc_M_losses_68 hm ⟨rfl, Nat.le_of_ble_eq_true rfl⟩ ?_
        refine gg_isub dc_M_losses_69 ?_
        exact gg_iret dc_M_losses_70 rfl ⟨Nat.le_of_ble_eq_true rfl, Nat.le_of_ble_eq_true rfl⟩ (⟨rfl, rfl⟩)
      · exact absurd c_29 h
    · exact absurd c_15 h2
set_option maxRecDepth 100000 in
set_option maxHeartbeats 4000000 in
theorem sp_M_stallsAt {Γ : cx_T} {τ : Nat × (Nat → sh_T)} {ν : Nat → Nat → Int32} {X : Nat → Nat → Int32} {S : Nat → Int32} {m : Nat} (hm : sh_M τ.2 m) {x y : Int32} (hR : RI S) : mt_P Γ mk_M_stallsAt [.ref m, .int x, .int y] (τ, mv_N ν m (va_up X 1 S)) (fun v μ' => v = some (.int (sa_I S x y)) ∧ μ' = (τ, mv_N ν m (va_up (va_up X 4 (cp_N (mo_S (upd S 2 y) x) (X 4) 80)) 1 (S)))) := by
  refine mt_of (L := [some (.ref m), some (.int x), some (.int y)]) (by decide +kernel) (by simp [Value.category]) (Nat.le_of_ble_eq_true rfl) (lc_3_3 ()) ?_
  refine gg_aldn dc_M_stallsAt_0 rfl rfl ?_
  refine gg_okVv (sp_M_putAsideS hm) dc_M_stallsAt_1 ml_M_99 ce_M_putAside ⟨Nat.le_of_ble_eq_true rfl, Nat.le_of_ble_eq_true rfl⟩ hm.1 rfl rfl (Nat.le_of_ble_eq_true rfl) ⟨rfl, rfl⟩ ⟨Nat.le_of_ble_eq_true rfl, Nat.le_of_ble_eq_true rfl⟩ ?_
  refine gg_aldn dc_M_stallsAt_4 rfl rfl ?_
  refine gg_getr dc_M_stallsAt_5 lf_M_7 hm.1 rfl ?_
  refine gg_iconst (v := 2) dc_M_stallsAt_8 (by decide) ?_
  refine gg_ildn dc_M_stallsAt_9 rfl rfl ?_
  refine gms_w (k := 2) dc_M_stallsAt_10 hm ⟨rfl, Nat.le_of_ble_eq_true rfl⟩ ?_
  refine gg_aldn dc_M_stallsAt_11 rfl rfl ?_
  refine gg_ildn dc_M_stallsAt_12 rfl rfl ?_
  refine gg_okVv (sp_M_moves hm hR.up2.1 hR.up2.2.1 hR.up2.2.2.2.1 hR.up2.2.2.2.2) dc_M_stallsAt_13 ml_M_136 ce_M_moves ⟨Nat.le_of_ble_eq_true rfl, Nat.le_of_ble_eq_true rfl⟩ hm.1 rfl rfl (Nat.le_of_ble_eq_true rfl) ⟨rfl, rfl⟩ ⟨Nat.le_of_ble_eq_true rfl, Nat.le_of_ble_eq_true rfl⟩ ?_
  refine gg_aldn dc_M_stallsAt_16 rfl rfl ?_
  refine gg_okVv (sp_M_swapsS hm) dc_M_stallsAt_17 ml_M_106 ce_M_swaps ⟨Nat.le_of_ble_eq_true rfl, Nat.le_of_ble_eq_true rfl⟩ hm.1 rfl rfl (Nat.le_of_ble_eq_true rfl) ⟨rfl, rfl⟩ ⟨Nat.le_of_ble_eq_true rfl, Nat.le_of_ble_eq_true rfl⟩ ?_
  rw [rc_1 (show ∀ j : Nat, 80 ≤ j → mo_S (upd S 2 y) x j = S j from fun j hj => (mo_o (by omega)).trans (ud_ne (by omega)))]
  refine gg_aldn dc_M_stallsAt_20 rfl rfl ?_
  refine gg_getr dc_M_stallsAt_21 lf_M_19 hm.1 rfl ?_
  refine gg_bipush (v := 13) dc_M_stallsAt_24 (by decide) ?_
  refine gmx_r (o := 4) (by omega) (k := 13) dc_M_stallsAt_26 hm ⟨rfl, Nat.le_of_ble_eq_true rfl⟩ ?_
  refine gx_top (show _ = mo_S (upd S 2 y) x 13 from rfl) ?_
  refine gg_aldn dc_M_stallsAt_27 rfl rfl ?_
  refine gg_getr dc_M_stallsAt_28 lf_M_7 hm.1 rfl ?_
  refine gg_bipush (v := 13) dc_M_stallsAt_31 (by decide) ?_
  refine gms_r (k := 13) dc_M_stallsAt_33 hm ⟨rfl, Nat.le_of_ble_eq_true rfl⟩ ?_
  refine gg_icle dc_M_stallsAt_34 (fun c_34 => ?_) (fun c_34 => ?_)
  · refine gg_iconst (v := 0) dc_M_stallsAt_41 (by decide) ?_
    exact gg_zret dc_M_stallsAt_42 rfl (by first | exact Or.inl rfl | exact Or.inr rfl | assumption) ⟨Nat.le_of_ble_eq_true rfl, Nat.le_of_ble_eq_true rfl⟩ (⟨by unfold sa_I; rw [if_neg (Int32.not_lt.mpr c_34)], rfl⟩)
  · refine gg_iconst (v := 1) dc_M_stallsAt_37 (by decide) ?_
    refine gg_goto dc_M_stallsAt_38 ?_
    exact gg_zret dc_M_stallsAt_42 rfl (by first | exact Or.inl rfl | exact Or.inr rfl | assumption) ⟨Nat.le_of_ble_eq_true rfl, Nat.le_of_ble_eq_true rfl⟩ (⟨by unfold sa_I; rw [if_pos (Int32.not_le.mp c_34)], rfl⟩)
set_option maxRecDepth 100000 in
set_option maxHeartbeats 4000000 in
theorem sp_M_fastestB {Γ : cx_T} {τ : Nat × (Nat → sh_T)} {ν : Nat → Nat → Int32} {X : Nat → Nat → Int32} {S : Nat → Int32} {m : Nat} (hm : sh_M τ.2 m) {x : Int32} (h : in_I x (-20000) 20000 = 0) : mt_P Γ mk_M_fastest [.ref m, .int x] (τ, mv_N ν m (va_up X 1 S)) (fun v μ' => v = some (.int (-1000001)) ∧ μ' = (τ, mv_N ν m (va_up (X) 1 (S)))) := by
  refine mt_of (L := [some (.ref m), some (.int x), none]) (by decide +kernel) (by simp [Value.category]) (Nat.le_of_ble_eq_true rfl) (lc_2_3 ()) ?_
  refine gg_ildn dc_M_fastest_0 rfl rfl ?_
  refine gg_okS (sp_M_isPlace) dc_M_fastest_1 ml_M_65 ce_M_isPlace ⟨Nat.le_of_ble_eq_true rfl, Nat.le_of_ble_eq_true rfl⟩ rfl (Nat.le_of_ble_eq_true rfl) ⟨rfl, rfl⟩ ⟨Nat.le_of_ble_eq_true rfl, Nat.le_of_ble_eq_true rfl⟩ ?_
  refine gg_ifne dc_M_fastest_4 (fun c_4 => ?_) (fun c_4 => ?_)
  · exact absurd h c_4
  · refine gg_ldc dc_M_fastest_7 lk_M_64 ?_
    exact gg_iret dc_M_fastest_9 rfl ⟨Nat.le_of_ble_eq_true rfl, Nat.le_of_ble_eq_true rfl⟩ (⟨rfl, rfl⟩)
set_option maxRecDepth 100000 in
set_option maxHeartbeats 4000000 in
theorem sp_M_fastestN {Γ : cx_T} {τ : Nat × (Nat → sh_T)} {ν : Nat → Nat → Int32} {X : Nat → Nat → Int32} {S : Nat → Int32} {m : Nat} (hm : sh_M τ.2 m) {x : Int32} (hR : RI S) (h1 : ¬ in_I x (-20000) 20000 = 0) (h : in_I (am_S S x) (-20000) 20000 = 0) : mt_P Γ mk_M_fastest [.ref m, .int x] (τ, mv_N ν m (va_up X 1 S)) (fun v μ' => v = some (.int (-1000009)) ∧ μ' = (τ, mv_N ν m (va_up (X) 1 (S)))) := by
  refine mt_of (L := [some (.ref m), some (.int x), none]) (by decide +kernel) (by simp [Value.category]) (Nat.le_of_ble_eq_true rfl) (lc_2_3 ()) ?_
  refine gg_ildn dc_M_fastest_0 rfl rfl ?_
  refine gg_okS (sp_M_isPlace) dc_M_fastest_1 ml_M_65 ce_M_isPlace ⟨Nat.le_of_ble_eq_true rfl, Nat.le_of_ble_eq_true rfl⟩ rfl (Nat.le_of_ble_eq_true rfl) ⟨rfl, rfl⟩ ⟨Nat.le_of_ble_eq_true rfl, Nat.le_of_ble_eq_true rfl⟩ ?_
  refine gg_ifne dc_M_fastest_4 (fun c_4 => ?_) (fun c_4 => ?_)
  · refine gg_aldn dc_M_fastest_10 rfl rfl ?_
    refine gg_ildn dc_M_fastest_11 rfl rfl ?_
    refine gg_okV (sp_M_aimOf hm hR.2.1 hR.2.2.2.1) dc_M_fastest_12 ml_M_129 ce_M_aimOf ⟨Nat.le_of_ble_eq_true rfl, Nat.le_of_ble_eq_true rfl⟩ hm.1 rfl rfl (Nat.le_of_ble_eq_true rfl) ⟨rfl, rfl⟩ ⟨Nat.le_of_ble_eq_true rfl, Nat.le_of_ble_eq_true rfl⟩ ?_
    refine gg_okS (sp_M_isPlace) dc_M_fastest_15 ml_M_65 ce_M_isPlace ⟨Nat.le_of_ble_eq_true rfl, Nat.le_of_ble_eq_true rfl⟩ rfl (Nat.le_of_ble_eq_true rfl) ⟨rfl, rfl⟩ ⟨Nat.le_of_ble_eq_true rfl, Nat.le_of_ble_eq_true rfl⟩ ?_
    refine gg_ifne dc_M_fastest_18 (fun c_18 => ?_) (fun c_18 => ?_)
    · exact absurd h c_18
    · refine gg_ldc dc_M_fastest_21 lk_M_145 ?_
      exact gg_iret dc_M_fastest_23 rfl ⟨Nat.le_of_ble_eq_true rfl, Nat.le_of_ble_eq_true rfl⟩ (⟨rfl, rfl⟩)
  · exact absurd c_4 h1
set_option maxRecDepth 100000 in
set_option maxHeartbeats 4000000 in
theorem sp_M_fastest {Γ : cx_T} {τ : Nat × (Nat → sh_T)} {ν : Nat → Nat → Int32} {X : Nat → Nat → Int32} {S : Nat → Int32} {m : Nat} (hm : sh_M τ.2 m) {x : Int32} (hR : RI S) (h1 : ¬ in_I x (-20000) 20000 = 0) (h : ¬ in_I (am_S S x) (-20000) 20000 = 0) : mt_P Γ mk_M_fastest [.ref m, .int x] (τ, mv_N ν m (va_up X 1 S)) (fun v μ' => v = some (.int (if fs_N S x 20 = 0 then (-1000009) else nI (50 * fs_N S x 20))) ∧ ∃ B : Nat → Int32, μ' = (τ, mv_N ν m (va_up (va_up X 4 B) 1 S))) := by
  refine mt_of (L := [some (.ref m), some (.int x), none]) (by decide +kernel) (by simp [Value.category]) (Nat.le_of_ble_eq_true rfl) (lc_2_3 ()) ?_
  have loop : ∀ (r k : Nat) (B : Nat → Int32), k ≤ 20 → fs_N S x k = r → gg_P Γ mk_M_fastest (fun v μ' => v = some (.int (if r = 0 then (-1000009) else nI (50 * r))) ∧ ∃ B : Nat → Int32, μ' = (τ, mv_N ν m (va_up (va_up X 4 B) 1 S))) 0 0 28 [some (.ref m), some (.int x), some (.int (nI (50 * k)))] [] (τ, mv_N ν m (va_up (va_up X 4 B) 1 S)) := by
    intro r k
    induction k with
    | zero =>
      intro B hk hr
      refine gg_ildn dc_M_fastest_28 rfl rfl ?_
      refine gg_ifle dc_M_fastest_29 (fun c_29 => ?_) (fun c_29 => ?_)
      · refine gg_ildn dc_M_fastest_47 rfl rfl ?_
        refine gg_ifne dc_M_fastest_48 (fun c_48 => ?_) (fun c_48 => ?_)
        · exact absurd rfl c_48
        · refine gg_ldc dc_M_fastest_51 lk_M_145 ?_
          refine gg_goto dc_M_fastest_53 ?_
          exact gg_iret dc_M_fastest_57 rfl ⟨Nat.le_of_ble_eq_true rfl, Nat.le_of_ble_eq_true rfl⟩ (⟨by rw [if_pos (show r = 0 from hr.symm)], B, rfl⟩)
      · exact absurd (Int32.le_refl _) c_29
    | succ k ih =>
      intro B hk hr
      refine gg_ildn dc_M_fastest_28 rfl rfl ?_
      refine gg_ifle dc_M_fastest_29 (fun c_29 => ?_) (fun c_29 => ?_)
      · exact absurd c_29 (nI_nle (by omega) (by omega))
      · refine gg_aldn dc_M_fastest_32 rfl rfl ?_
        refine gg_ildn dc_M_fastest_33 rfl rfl ?_
        refine gg_ildn dc_M_fastest_34 rfl rfl ?_
        refine gg_okV (sp_M_stallsAt hm hR) dc_M_fastest_35 ml_M_160 ce_M_stallsAt ⟨Nat.le_of_ble_eq_true rfl, Nat.le_of_ble_eq_true rfl⟩ hm.1 rfl rfl (Nat.le_of_ble_eq_true rfl) ⟨rfl, rfl⟩ ⟨Nat.le_of_ble_eq_true rfl, Nat.le_of_ble_eq_true rfl⟩ ?_
        rw [va_vv]
        refine gg_ifeq dc_M_fastest_38 (fun c_38 => ?_) (fun c_38 => ?_)
        · refine gg_ildn dc_M_fastest_47 rfl rfl ?_
          refine gg_ifne dc_M_fastest_48 (fun c_48 => ?_) (fun c_48 => ?_)
          · refine gg_ildn dc_M_fastest_56 rfl rfl ?_
            exact gg_iret dc_M_fastest_57 rfl ⟨Nat.le_of_ble_eq_true rfl, Nat.le_of_ble_eq_true rfl⟩ (⟨by rw [← hr, show fs_N S x (k + 1) = k + 1 from if_pos c_38, if_neg (by omega)], _, rfl⟩)
          · exact absurd ((nI_eq (b := 0) (by omega) (by omega)).mp c_48) (by omega)
        · refine gg_iinc (i := 2) dc_M_fastest_41 rfl (Nat.le_of_ble_eq_true rfl) rfl ?_
          dsimp only [List.set]
          rw [show Int32.ofInt (-50) = (-50) from by decide]
          refine gg_goto dc_M_fastest_44 ?_
          refine gg_e (ih _ (by omega) (by rw [← hr]; exact (if_neg c_38).symm)) (by rw [show (-50 : Int32) = -nI 50 from rfl, ← Int32.sub_eq_add_neg, pk_sub (by omega), show 50 * (k + 1) - 50 = 50 * k by omega]) rfl rfl
  refine gg_ildn dc_M_fastest_0 rfl rfl ?_
  refine gg_okS (sp_M_isPlace) dc_M_fastest_1 ml_M_65 ce_M_isPlace ⟨Nat.le_of_ble_eq_true rfl, Nat.le_of_ble_eq_true rfl⟩ rfl (Nat.le_of_ble_eq_true rfl) ⟨rfl, rfl⟩ ⟨Nat.le_of_ble_eq_true rfl, Nat.le_of_ble_eq_true rfl⟩ ?_
  refine gg_ifne dc_M_fastest_4 (fun c_4 => ?_) (fun c_4 => ?_)
  · refine gg_aldn dc_M_fastest_10 rfl rfl ?_
    refine gg_ildn dc_M_fastest_11 rfl rfl ?_
    refine gg_okV (sp_M_aimOf hm hR.2.1 hR.2.2.2.1) dc_M_fastest_12 ml_M_129 ce_M_aimOf ⟨Nat.le_of_ble_eq_true rfl, Nat.le_of_ble_eq_true rfl⟩ hm.1 rfl rfl (Nat.le_of_ble_eq_true rfl) ⟨rfl, rfl⟩ ⟨Nat.le_of_ble_eq_true rfl, Nat.le_of_ble_eq_true rfl⟩ ?_
    refine gg_okS (sp_M_isPlace) dc_M_fastest_15 ml_M_65 ce_M_isPlace ⟨Nat.le_of_ble_eq_true rfl, Nat.le_of_ble_eq_true rfl⟩ rfl (Nat.le_of_ble_eq_true rfl) ⟨rfl, rfl⟩ ⟨Nat.le_of_ble_eq_true rfl, Nat.le_of_ble_eq_true rfl⟩ ?_
    refine gg_ifne dc_M_fastest_18 (fun c_18 => ?_) (fun c_18 => ?_)
    · refine gg_sipush (v := 1000) dc_M_fastest_24 (by decide) ?_
      refine gg_istn (i := 2) dc_M_fastest_27 rfl (Nat.le_of_ble_eq_true rfl) rfl ?_
      dsimp only [List.set]
      exact gg_e (loop (fs_N S x 20) 20 (X 4) (by omega) rfl) rfl rfl (by rw [va_id])
    · exact absurd c_18 h
  · exact absurd c_4 h1
