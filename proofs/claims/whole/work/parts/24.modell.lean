/-! the reference: lists changed, a state noted -/
def sf_S (S : Nat → Int32) (b K T : Nat) : Nat → Int32 := fun j => if b + K < j ∧ j ≤ b + T then S (j - 2) else S j
theorem sf_0 {S : Nat → Int32} {b T : Nat} : sf_S S b T T = S := by
  funext j; unfold sf_S; rw [if_neg (by omega)]
theorem sf_s {S : Nat → Int32} {b K T : Nat} (h : K < T) (h2 : 1 ≤ K) : upd (sf_S S b (K + 1) T) (b + (K + 1)) (sf_S S b (K + 1) T (b + (K + 1) - 2)) = sf_S S b K T := by
  funext j; unfold upd sf_S
  by_cases e : j = b + (K + 1)
  · subst e; rw [if_pos rfl, if_neg (by omega), if_pos (by omega)]
  · rw [if_neg e]
    by_cases c : b + (K + 1) < j ∧ j ≤ b + T
    · rw [if_pos c, if_pos (by omega)]
    · rw [if_neg c, if_neg (by omega)]
def sg_S (S : Nat → Int32) (b K T : Nat) : Nat → Int32 := fun j => if b + K ≤ j ∧ j < b + T then S (j + 2) else S j
theorem sg_0 {S : Nat → Int32} {b T : Nat} : sg_S S b T T = S := by
  funext j; unfold sg_S; rw [if_neg (by omega)]
theorem sg_s {S : Nat → Int32} {b K T : Nat} (h : K ≤ T) : upd (sg_S S b K T) (b + T) (sg_S S b K T (b + T + 2)) = sg_S S b K (T + 1) := by
  funext j; unfold upd sg_S
  by_cases e : j = b + T
  · subst e; rw [if_pos rfl, if_neg (by omega), if_pos (by omega)]
  · rw [if_neg e]
    by_cases c : b + K ≤ j ∧ j < b + T
    · rw [if_pos c, if_pos (by omega)]
    · rw [if_neg c, if_neg (by omega)]
theorem sf_b {S : Nat → Int32} {b K T : Nat} : sf_S S b K T b = S b := by unfold sf_S; rw [if_neg (by omega)]
theorem sg_b {S : Nat → Int32} {b K T : Nat} (h : 1 ≤ K) : sg_S S b K T b = S b := by unfold sg_S; rw [if_neg (by omega)]
def mp_S (S : Nat → Int32) (b : Nat) (x v : Int32) : Nat → Int32 := if ha_S S b x = 0 then upd (upd (upd (sf_S S b (2 * ut_S S b x + 2) (2 * ls_n S b + 2)) b (nI (ls_n S b + 1))) (b + 1 + 2 * ut_S S b x) x) (b + 2 + 2 * ut_S S b x) v else upd (upd S (b + 1 + 2 * (ut_S S b x - 1)) x) (b + 2 + 2 * (ut_S S b x - 1)) v
def mr_S (S : Nat → Int32) (b : Nat) (x : Int32) : Nat → Int32 := sg_S (upd S b (nI (ls_n S b - 1))) b (2 * (ut_S S b x - 1) + 1) (2 * (ls_n S b - 1) + 1)
theorem tw_2 {n : Nat} : 2 * nI n + 2 = nI (2 * n + 2) := by rw [show (2 : Int32) = nI 2 from rfl, pk_mul, nI_add]
theorem tw_1 {n : Nat} : 2 * nI n + 1 = nI (2 * n + 1) := by rw [show (2 : Int32) = nI 2 from rfl, pk_mul, nI_1]
theorem tw_0 {n : Nat} : 2 * nI n = nI (2 * n) := by rw [show (2 : Int32) = nI 2 from rfl, pk_mul]
set_option maxRecDepth 100000 in
set_option maxHeartbeats 4000000 in
theorem sp_M_putsN {Γ : cx_T} {τ : Nat × (Nat → sh_T)} {ν : Nat → Nat → Int32} {X : Nat → Nat → Int32} {S : Nat → Int32} {m : Nat} (hm : sh_M τ.2 m) {b x y : Int32} {b0 N : Nat} (hb : b = nI b0) (hL : LK S b0 N) (hN : b0 + 2 + 2 * N < 80) (hh : ha_S S b0 x = 0) (hlt : b0 + 2 + 2 * ls_n S b0 < 80 - 2) : mt_P Γ mk_M_puts [.ref m, .int b, .int x, .int y] (τ, mv_N ν m (va_up X 1 S)) (fun v μ' => v = none ∧ μ' = (τ, mv_N ν m (va_up X 1 (mp_S S b0 x y)))) := by
  refine mt_of (L := [some (.ref m), some (.int b), some (.int x), some (.int y), none, none]) (by decide +kernel) (by simp [Value.category]) (Nat.le_of_ble_eq_true rfl) (lc_4_6 ()) ?_
  have hle : ut_S S b0 x ≤ ls_n S b0 := by
    have := (ut_le (ls_P S b0) x (ls_n S b0) 0).2
    unfold ut_S
    omega
  have hus : ut_N (ls_P S b0) x (ls_n S b0) 0 = ut_S S b0 x := rfl
  have hL1 := hL.1
  have loop : ∀ (u : Nat) (R : Nat → Int32) (n : Nat), S b0 = nI n → (u ≤ n ∧ b0 + 2 + 2 * n < 80 - 2) → ∀ (d K : Nat), 2 * u + 2 + d = K → K ≤ 2 * n + 2 → upd (upd (upd (sf_S S b0 (2 * u + 2) (2 * n + 2)) b0 (nI (n + 1))) (b0 + 1 + 2 * u) x) (b0 + 2 + 2 * u) y = R → gg_P Γ mk_M_puts (fun v μ' => v = none ∧ μ' = (τ, mv_N ν m (va_up X 1 (R)))) 0 0 35 [some (.ref m), some (.int b), some (.int x), some (.int y), some (.int (nI u)), some (.int (nI K))] [] (τ, mv_N ν m (va_up X 1 (sf_S S b0 K (2 * n + 2)))) := by
    intro u R n hn hun d
    induction d with
    | zero =>
      intro K hK hKn hR
      have hK : K = 2 * u + 2 := by omega
      subst hK
      refine gg_ild dc_M_puts_35 rfl ?_
      refine gg_iconst (v := 2) dc_M_puts_37 (by decide) ?_
      refine gg_ild dc_M_puts_38 rfl ?_
      refine gg_imul dc_M_puts_40 ?_
      refine gg_iconst (v := 2) dc_M_puts_41 (by decide) ?_
      refine gg_iadd dc_M_puts_42 ?_
      refine gx_top (tw_2) ?_
      refine gg_icle dc_M_puts_43 (fun c_43 => ?_) (fun c_43 => ?_)
      · refine gg_aldn dc_M_puts_72 rfl rfl ?_
        refine gg_getr dc_M_puts_73 lf_M_7 hm.1 rfl ?_
        refine gg_ildn dc_M_puts_76 rfl rfl ?_
        refine gg_dup2 dc_M_puts_77 rfl rfl ?_
        refine gms_r (k := b0) dc_M_puts_78 hm (⟨hb, by omega⟩) ?_
        refine gx_top (show sf_S S b0 (2 * u + 2) (2 * n + 2) b0 = nI n by rw [sf_b]; exact hn) ?_
        refine gg_iconst (v := 1) dc_M_puts_79 (by decide) ?_
        refine gg_iadd dc_M_puts_80 ?_
        refine gx_top (nI_1 n) ?_
        refine gms_w (k := b0) dc_M_puts_81 hm (⟨hb, by omega⟩) ?_
        refine gg_aldn dc_M_puts_82 rfl rfl ?_
        refine gg_getr dc_M_puts_83 lf_M_7 hm.1 rfl ?_
        refine gg_ildn dc_M_puts_86 rfl rfl ?_
        refine gg_iconst (v := 1) dc_M_puts_87 (by decide) ?_
        refine gg_iadd dc_M_puts_88 ?_
        refine gg_iconst (v := 2) dc_M_puts_89 (by decide) ?_
        refine gg_ild dc_M_puts_90 rfl ?_
        refine gg_imul dc_M_puts_92 ?_
        refine gg_iadd dc_M_puts_93 ?_
        refine gg_ildn dc_M_puts_94 rfl rfl ?_
        refine gms_w (k := b0 + 1 + 2 * u) dc_M_puts_95 hm (⟨by rw [hb]; exact ix_1, by omega⟩) ?_
        refine gg_aldn dc_M_puts_96 rfl rfl ?_
        refine gg_getr dc_M_puts_97 lf_M_7 hm.1 rfl ?_
        refine gg_ildn dc_M_puts_100 rfl rfl ?_
        refine gg_iconst (v := 2) dc_M_puts_101 (by decide) ?_
        refine gg_iadd dc_M_puts_102 ?_
        refine gg_iconst (v := 2) dc_M_puts_103 (by decide) ?_
        refine gg_ild dc_M_puts_104 rfl ?_
        refine gg_imul dc_M_puts_106 ?_
        refine gg_iadd dc_M_puts_107 ?_
        refine gg_ildn dc_M_puts_108 rfl rfl ?_
        refine gms_w (k := b0 + 2 + 2 * u) dc_M_puts_109 hm (⟨by rw [hb]; exact ix_2, by omega⟩) ?_
        exact gg_vret dc_M_puts_110 rfl ⟨Nat.le_of_ble_eq_true rfl, Nat.le_of_ble_eq_true rfl⟩ (⟨rfl, by rw [← hR]⟩)
      · exact absurd (Int32.le_refl _) c_43
    | succ d ih =>
      intro K0 hK0 hKn hR
      obtain ⟨K, rfl⟩ : ∃ K, K0 = K + 1 := ⟨K0 - 1, by omega⟩
      have ih := fun K h1 h2 => ih K h1 h2 hR
      refine gg_ild dc_M_puts_35 rfl ?_
      refine gg_iconst (v := 2) dc_M_puts_37 (by decide) ?_
      refine gg_ild dc_M_puts_38 rfl ?_
      refine gg_imul dc_M_puts_40 ?_
      refine gg_iconst (v := 2) dc_M_puts_41 (by decide) ?_
      refine gg_iadd dc_M_puts_42 ?_
      refine gx_top (tw_2) ?_
      refine gg_icle dc_M_puts_43 (fun c_43 => ?_) (fun c_43 => ?_)
      · exact absurd c_43 (nI_ge (by omega) (by omega))
      · refine gg_aldn dc_M_puts_46 rfl rfl ?_
        refine gg_getr dc_M_puts_47 lf_M_7 hm.1 rfl ?_
        refine gg_ildn dc_M_puts_50 rfl rfl ?_
        refine gg_ild dc_M_puts_51 rfl ?_
        refine gg_iadd dc_M_puts_53 ?_
        refine gg_aldn dc_M_puts_54 rfl rfl ?_
        refine gg_getr dc_M_puts_55 lf_M_7 hm.1 rfl ?_
        refine gg_ildn dc_M_puts_58 rfl rfl ?_
        refine gg_ild dc_M_puts_59 rfl ?_
        refine gg_iadd dc_M_puts_61 ?_
        refine gg_iconst (v := 2) dc_M_puts_62 (by decide) ?_
        refine gg_isub dc_M_puts_63 ?_
        refine gms_r (k := b0 + (K + 1) - 2) dc_M_puts_64 hm (⟨by rw [hb, nI_add, show (2 : Int32) = nI 2 from rfl, pk_sub (by omega)], by omega⟩) ?_
        refine gms_w (k := b0 + (K + 1)) dc_M_puts_65 hm (⟨by rw [hb, nI_add], by omega⟩) ?_
        refine gg_iinc (i := 5) dc_M_puts_66 rfl (Nat.le_of_ble_eq_true rfl) rfl ?_
        dsimp only [List.set]
        rw [show Int32.ofInt (-1) = (-1) from by decide]
        refine gg_goto dc_M_puts_69 ?_
        rw [sf_s (by omega) (by omega)]
        exact gg_e (ih K (by omega) (by omega)) (by rw [pk_m1]) rfl rfl
  unfold mp_S
  rw [if_pos hh]
  refine gg_aldn dc_M_puts_0 rfl rfl ?_
  refine gg_ildn dc_M_puts_1 rfl rfl ?_
  refine gg_ildn dc_M_puts_2 rfl rfl ?_
  refine gg_okV (sp_M_upTo hm hb hL hN) dc_M_puts_3 ml_M_39 ce_M_upTo ⟨Nat.le_of_ble_eq_true rfl, Nat.le_of_ble_eq_true rfl⟩ hm.1 rfl rfl (Nat.le_of_ble_eq_true rfl) ⟨rfl, rfl⟩ ⟨Nat.le_of_ble_eq_true rfl, Nat.le_of_ble_eq_true rfl⟩ ?_
  refine gg_ist (i := 4) dc_M_puts_6 (Nat.le_of_ble_eq_true rfl) rfl ?_
  dsimp only [List.set]
  refine gg_aldn dc_M_puts_8 rfl rfl ?_
  refine gg_ildn dc_M_puts_9 rfl rfl ?_
  refine gg_ildn dc_M_puts_10 rfl rfl ?_
  refine gg_okV (sp_M_has hm hb hL hN) dc_M_puts_11 ml_M_42 ce_M_has ⟨Nat.le_of_ble_eq_true rfl, Nat.le_of_ble_eq_true rfl⟩ hm.1 rfl rfl (Nat.le_of_ble_eq_true rfl) ⟨rfl, rfl⟩ ⟨Nat.le_of_ble_eq_true rfl, Nat.le_of_ble_eq_true rfl⟩ ?_
  refine gg_ifeq dc_M_puts_14 (fun c_14 => ?_) (fun c_14 => ?_)
  · refine gg_iconst (v := 2) dc_M_puts_23 (by decide) ?_
    refine gg_aldn dc_M_puts_24 rfl rfl ?_
    refine gg_getr dc_M_puts_25 lf_M_7 hm.1 rfl ?_
    refine gg_ildn dc_M_puts_28 rfl rfl ?_
    refine gms_r (k := b0) dc_M_puts_29 hm (⟨hb, by omega⟩) ?_
    refine gx_top (hL.2) ?_
    refine gg_imul dc_M_puts_30 ?_
    refine gg_iconst (v := 2) dc_M_puts_31 (by decide) ?_
    refine gg_iadd dc_M_puts_32 ?_
    refine gx_top (tw_2) ?_
    refine gg_ist (i := 5) dc_M_puts_33 (Nat.le_of_ble_eq_true rfl) rfl ?_
    dsimp only [List.set]
    refine gg_e (loop _ _ (ls_n S b0) hL.2 (by omega) (2 * ls_n S b0 + 2 - (2 * ut_S S b0 x + 2)) (2 * ls_n S b0 + 2) (by omega) (by omega) rfl) rfl rfl ?_
    rw [sf_0]
  · exact absurd hh c_14
set_option maxRecDepth 100000 in
set_option maxHeartbeats 4000000 in
theorem sp_M_putsY {Γ : cx_T} {τ : Nat × (Nat → sh_T)} {ν : Nat → Nat → Int32} {X : Nat → Nat → Int32} {S : Nat → Int32} {m : Nat} (hm : sh_M τ.2 m) {b x y : Int32} {b0 N : Nat} (hb : b = nI b0) (hL : LK S b0 N) (hN : b0 + 2 + 2 * N < 80) (hh : ¬ ha_S S b0 x = 0) : mt_P Γ mk_M_puts [.ref m, .int b, .int x, .int y] (τ, mv_N ν m (va_up X 1 S)) (fun v μ' => v = none ∧ μ' = (τ, mv_N ν m (va_up X 1 (mp_S S b0 x y)))) := by
  refine mt_of (L := [some (.ref m), some (.int b), some (.int x), some (.int y), none, none]) (by decide +kernel) (by simp [Value.category]) (Nat.le_of_ble_eq_true rfl) (lc_4_6 ()) ?_
  obtain ⟨k, hk, hp⟩ := ha_1 hh
  have hle : ut_S S b0 x ≤ ls_n S b0 := by
    have := (ut_le (ls_P S b0) x (ls_n S b0) 0).2
    unfold ut_S
    omega
  have hL1 := hL.1
  unfold mp_S
  rw [if_neg hh, hk, Nat.add_sub_cancel]
  refine gg_aldn dc_M_puts_0 rfl rfl ?_
  refine gg_ildn dc_M_puts_1 rfl rfl ?_
  refine gg_ildn dc_M_puts_2 rfl rfl ?_
  refine gg_okV (sp_M_upTo hm hb hL hN) dc_M_puts_3 ml_M_39 ce_M_upTo ⟨Nat.le_of_ble_eq_true rfl, Nat.le_of_ble_eq_true rfl⟩ hm.1 rfl rfl (Nat.le_of_ble_eq_true rfl) ⟨rfl, rfl⟩ ⟨Nat.le_of_ble_eq_true rfl, Nat.le_of_ble_eq_true rfl⟩ ?_
  rw [show ut_N (ls_P S b0) x (ls_n S b0) 0 = k + 1 from hk]
  refine gg_ist (i := 4) dc_M_puts_6 (Nat.le_of_ble_eq_true rfl) rfl ?_
  dsimp only [List.set]
  refine gg_aldn dc_M_puts_8 rfl rfl ?_
  refine gg_ildn dc_M_puts_9 rfl rfl ?_
  refine gg_ildn dc_M_puts_10 rfl rfl ?_
  refine gg_okV (sp_M_has hm hb hL hN) dc_M_puts_11 ml_M_42 ce_M_has ⟨Nat.le_of_ble_eq_true rfl, Nat.le_of_ble_eq_true rfl⟩ hm.1 rfl rfl (Nat.le_of_ble_eq_true rfl) ⟨rfl, rfl⟩ ⟨Nat.le_of_ble_eq_true rfl, Nat.le_of_ble_eq_true rfl⟩ ?_
  refine gg_ifeq dc_M_puts_14 (fun c_14 => ?_) (fun c_14 => ?_)
  · exact absurd c_14 hh
  · refine gg_iinc (i := 4) dc_M_puts_17 rfl (Nat.le_of_ble_eq_true rfl) rfl ?_
    dsimp only [List.set]
    rw [show Int32.ofInt (-1) = (-1) from by decide]
    rw [pk_m1]
    refine gg_goto dc_M_puts_20 ?_
    refine gg_aldn dc_M_puts_82 rfl rfl ?_
    refine gg_getr dc_M_puts_83 lf_M_7 hm.1 rfl ?_
    refine gg_ildn dc_M_puts_86 rfl rfl ?_
    refine gg_iconst (v := 1) dc_M_puts_87 (by decide) ?_
    refine gg_iadd dc_M_puts_88 ?_
    refine gg_iconst (v := 2) dc_M_puts_89 (by decide) ?_
    refine gg_ild dc_M_puts_90 rfl ?_
    refine gg_imul dc_M_puts_92 ?_
    refine gg_iadd dc_M_puts_93 ?_
    refine gg_ildn dc_M_puts_94 rfl rfl ?_
    refine gms_w (k := b0 + 1 + 2 * k) dc_M_puts_95 hm (⟨by rw [hb]; exact ix_1, by omega⟩) ?_
    refine gg_aldn dc_M_puts_96 rfl rfl ?_
    refine gg_getr dc_M_puts_97 lf_M_7 hm.1 rfl ?_
    refine gg_ildn dc_M_puts_100 rfl rfl ?_
    refine gg_iconst (v := 2) dc_M_puts_101 (by decide) ?_
    refine gg_iadd dc_M_puts_102 ?_
    refine gg_iconst (v := 2) dc_M_puts_103 (by decide) ?_
    refine gg_ild dc_M_puts_104 rfl ?_
    refine gg_imul dc_M_puts_106 ?_
    refine gg_iadd dc_M_puts_107 ?_
    refine gg_ildn dc_M_puts_108 rfl rfl ?_
    refine gms_w (k := b0 + 2 + 2 * k) dc_M_puts_109 hm (⟨by rw [hb]; exact ix_2, by omega⟩) ?_
    exact gg_vret dc_M_puts_110 rfl ⟨Nat.le_of_ble_eq_true rfl, Nat.le_of_ble_eq_true rfl⟩ (⟨rfl, rfl⟩)
set_option maxRecDepth 100000 in
set_option maxHeartbeats 4000000 in
theorem sp_M_removes {Γ : cx_T} {τ : Nat × (Nat → sh_T)} {ν : Nat → Nat → Int32} {X : Nat → Nat → Int32} {S : Nat → Int32} {m : Nat} (hm : sh_M τ.2 m) {b x : Int32} {b0 N : Nat} (hb : b = nI b0) (hL : LK S b0 N) (hN : b0 + 2 + 2 * N < 80) (hh : ¬ ha_S S b0 x = 0) : mt_P Γ mk_M_removes [.ref m, .int b, .int x] (τ, mv_N ν m (va_up X 1 S)) (fun v μ' => v = none ∧ μ' = (τ, mv_N ν m (va_up X 1 (mr_S S b0 x)))) := by
  refine mt_of (L := [some (.ref m), some (.int b), some (.int x), none, none]) (by decide +kernel) (by simp [Value.category]) (Nat.le_of_ble_eq_true rfl) (lc_3_5 ()) ?_
  obtain ⟨k, hk, hp⟩ := ha_1 hh
  have hle : ut_S S b0 x ≤ ls_n S b0 := by
    have := (ut_le (ls_P S b0) x (ls_n S b0) 0).2
    unfold ut_S
    omega
  have hL1 := hL.1
  obtain ⟨n, hn⟩ : ∃ n, ls_n S b0 = n + 1 := ⟨ls_n S b0 - 1, by omega⟩
  unfold mr_S
  rw [hk, hn, Nat.add_sub_cancel, Nat.add_sub_cancel]
  have loop : ∀ (d K : Nat), K + d = 2 * n + 1 → 2 * k + 1 ≤ K → gg_P Γ mk_M_removes (fun v μ' => v = none ∧ μ' = (τ, mv_N ν m (va_up X 1 (sg_S (upd S b0 (nI n)) b0 (2 * k + 1) (2 * n + 1))))) 0 0 26 [some (.ref m), some (.int b), some (.int x), some (.int (nI k)), some (.int (nI K))] [] (τ, mv_N ν m (va_up X 1 (sg_S (upd S b0 (nI n)) b0 (2 * k + 1) K))) := by
    intro d
    induction d with
    | zero =>
      intro K hK hKk
      have hK : K = 2 * n + 1 := by omega
      subst hK
      refine gg_ild dc_M_removes_26 rfl ?_
      refine gg_iconst (v := 2) dc_M_removes_28 (by decide) ?_
      refine gg_aldn dc_M_removes_29 rfl rfl ?_
      refine gg_getr dc_M_removes_30 lf_M_7 hm.1 rfl ?_
      refine gg_ildn dc_M_removes_33 rfl rfl ?_
      refine gms_r (k := b0) dc_M_removes_34 hm (⟨hb, by omega⟩) ?_
      refine gx_top (show sg_S (upd S b0 (nI n)) b0 (2 * k + 1) (2 * n + 1) b0 = nI n by rw [sg_b (by omega), ud_eq]) ?_
      refine gg_imul dc_M_removes_35 ?_
      refine gx_top (tw_0) ?_
      refine gg_icgt dc_M_removes_36 (fun c_36 => ?_) (fun c_36 => ?_)
      · exact gg_vret dc_M_removes_65 rfl ⟨Nat.le_of_ble_eq_true rfl, Nat.le_of_ble_eq_true rfl⟩ (⟨rfl, rfl⟩)
      · exact absurd (nI_lt (by omega) (by omega)) c_36
    | succ d ih =>
      intro K hK hKk
      refine gg_ild dc_M_removes_26 rfl ?_
      refine gg_iconst (v := 2) dc_M_removes_28 (by decide) ?_
      refine gg_aldn dc_M_removes_29 rfl rfl ?_
      refine gg_getr dc_M_removes_30 lf_M_7 hm.1 rfl ?_
      refine gg_ildn dc_M_removes_33 rfl rfl ?_
      refine gms_r (k := b0) dc_M_removes_34 hm (⟨hb, by omega⟩) ?_
      refine gx_top (show sg_S (upd S b0 (nI n)) b0 (2 * k + 1) K b0 = nI n by rw [sg_b (by omega), ud_eq]) ?_
      refine gg_imul dc_M_removes_35 ?_
      refine gx_top (tw_0) ?_
      refine gg_icgt dc_M_removes_36 (fun c_36 => ?_) (fun c_36 => ?_)
      · exact absurd c_36 (nI_nlt (by omega) (by omega))
      · refine gg_aldn dc_M_removes_39 rfl rfl ?_
        refine gg_getr dc_M_removes_40 lf_M_7 hm.1 rfl ?_
        refine gg_ildn dc_M_removes_43 rfl rfl ?_
        refine gg_ild dc_M_removes_44 rfl ?_
        refine gg_iadd dc_M_removes_46 ?_
        refine gg_aldn dc_M_removes_47 rfl rfl ?_
        refine gg_getr dc_M_removes_48 lf_M_7 hm.1 rfl ?_
        refine gg_ildn dc_M_removes_51 rfl rfl ?_
        refine gg_ild dc_M_removes_52 rfl ?_
        refine gg_iadd dc_M_removes_54 ?_
        refine gg_iconst (v := 2) dc_M_removes_55 (by decide) ?_
        refine gg_iadd dc_M_removes_56 ?_
        refine gms_r (k := b0 + K + 2) dc_M_removes_57 hm (⟨by rw [hb, nI_add, show (2 : Int32) = nI 2 from rfl, nI_add], by omega⟩) ?_
        refine gms_w (k := b0 + K) dc_M_removes_58 hm (⟨by rw [hb, nI_add], by omega⟩) ?_
        refine gg_iinc (i := 4) dc_M_removes_59 rfl (Nat.le_of_ble_eq_true rfl) rfl ?_
        dsimp only [List.set]
        rw [show Int32.ofInt 1 = 1 from by decide]
        refine gg_goto dc_M_removes_62 ?_
        rw [sg_s (by omega)]
        exact gg_e (ih (K + 1) (by omega) (by omega)) (by rw [nI_1]) rfl rfl
  refine gg_aldn dc_M_removes_0 rfl rfl ?_
  refine gg_ildn dc_M_removes_1 rfl rfl ?_
  refine gg_ildn dc_M_removes_2 rfl rfl ?_
  refine gg_okV (sp_M_upTo hm hb hL hN) dc_M_removes_3 ml_M_39 ce_M_upTo ⟨Nat.le_of_ble_eq_true rfl, Nat.le_of_ble_eq_true rfl⟩ hm.1 rfl rfl (Nat.le_of_ble_eq_true rfl) ⟨rfl, rfl⟩ ⟨Nat.le_of_ble_eq_true rfl, Nat.le_of_ble_eq_true rfl⟩ ?_
  rw [show ut_N (ls_P S b0) x (ls_n S b0) 0 = k + 1 from hk]
  refine gg_iconst (v := 1) dc_M_removes_6 (by decide) ?_
  refine gg_isub dc_M_removes_7 ?_
  refine gx_top (nI_pred k) ?_
  refine gg_istn (i := 3) dc_M_removes_8 rfl (Nat.le_of_ble_eq_true rfl) rfl ?_
  dsimp only [List.set]
  refine gg_aldn dc_M_removes_9 rfl rfl ?_
  refine gg_getr dc_M_removes_10 lf_M_7 hm.1 rfl ?_
  refine gg_ildn dc_M_removes_13 rfl rfl ?_
  refine gg_dup2 dc_M_removes_14 rfl rfl ?_
  refine gms_r (k := b0) dc_M_removes_15 hm (⟨hb, by omega⟩) ?_
  refine gx_top (hL.2.trans (by rw [hn])) ?_
  refine gg_iconst (v := 1) dc_M_removes_16 (by decide) ?_
  refine gg_isub dc_M_removes_17 ?_
  refine gx_top (nI_pred n) ?_
  refine gms_w (k := b0) dc_M_removes_18 hm (⟨hb, by omega⟩) ?_
  refine gg_iconst (v := 2) dc_M_removes_19 (by decide) ?_
  refine gg_ildn dc_M_removes_20 rfl rfl ?_
  refine gg_imul dc_M_removes_21 ?_
  refine gg_iconst (v := 1) dc_M_removes_22 (by decide) ?_
  refine gg_iadd dc_M_removes_23 ?_
  refine gx_top (tw_1) ?_
  refine gg_ist (i := 4) dc_M_removes_24 (Nat.le_of_ble_eq_true rfl) rfl ?_
  dsimp only [List.set]
  refine gg_e (loop (2 * n + 1 - (2 * k + 1)) (2 * k + 1) (by omega) (by omega)) rfl rfl ?_
  rw [sg_0]
def nt_X (X : Nat → Nat → Int32) : Nat → Nat → Int32 := if X 0 2 = 6 then up_2 (va_up X 2 (pa_N (cp_N (fun k => X 2 (k + 80)) (X 2) 400) 400 (X 1) 80)) 0 2 (nI 6) else up_2 (va_up X 2 (pa_N (X 2) (80 * (X 0 2).toNatClampNeg) (X 1) 80)) 0 2 (X 0 2 + 1)
def PS (X : Nat → Nat → Int32) : Prop := ∃ n : Nat, n ≤ 6 ∧ X 0 2 = nI n
theorem nt_o {X : Nat → Nat → Int32} {c : Nat} (h0 : c ≠ 0) (h2 : c ≠ 2) : nt_X X c = X c := by
  unfold nt_X
  split
  · rw [u2_ne h0, va_up_ne _ _ h2]
  · rw [u2_ne h0, va_up_ne _ _ h2]
theorem nt_j {X : Nat → Nat → Int32} {j : Nat} (h : j ≠ 2) : nt_X X 0 j = X 0 j := by
  unfold nt_X
  split
  · unfold up_2 va_up; simp [h]
  · unfold up_2 va_up; simp [h]
theorem sp_M_notesX {Γ : cx_T} {τ : Nat × (Nat → sh_T)} {ν : Nat → Nat → Int32} {X : Nat → Nat → Int32} {m : Nat} (hm : sh_M τ.2 m) (hp : PS X) : mt_P Γ mk_M_notes [.ref m] (τ, mv_N ν m X) (fun v μ' => v = none ∧ μ' = (τ, mv_N ν m (nt_X X))) := by
  obtain ⟨n, h6, hn⟩ := hp
  by_cases c : X 0 2 = 6
  · unfold nt_X
    rw [if_pos c]
    exact sp_M_notes6 hm c
  · unfold nt_X
    rw [if_neg c, hn, nI_clamp (by omega), nI_1]
    exact sp_M_notes hm hn h6 (fun e => c (by rw [hn, e]; rfl))
/-- a state noted: the row stays, what is behind it is another world -/
theorem sp_M_notesS {Γ : cx_T} {τ : Nat × (Nat → sh_T)} {ν : Nat → Nat → Int32} {X : Nat → Nat → Int32} {S : Nat → Int32} {m : Nat} (hm : sh_M τ.2 m) (hp : PS X) : mt_P Γ mk_M_notes [.ref m] (τ, mv_N ν m (va_up X 1 S)) (fun v μ' => v = none ∧ μ' = (τ, mv_N ν m (va_up (nt_X (va_up X 1 S)) 1 S))) := by
  have h := sp_M_notesX (Γ := Γ) (ν := ν) (X := va_up X 1 S) hm hp
  have e : va_up (nt_X (va_up X 1 S)) 1 S = nt_X (va_up X 1 S) := by
    have e1 : nt_X (va_up X 1 S) 1 = S := by rw [nt_o (by omega) (by omega), va_up_self]
    funext c
    by_cases hc : c = 1
    · subst hc; rw [va_up_self]; exact e1.symm
    · rw [va_up_ne _ _ hc]
  rw [e]
  exact h
