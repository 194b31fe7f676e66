def lo_S (S : Nat → Int32) (x : Int32) : Int32 := pk_I (ut_N (ls_P S 21) x (ls_n S 21) 0) (ls_V S 21) 0
def er_S (S : Nat → Int32) (x : Int32) : Int32 := vb_I (ut_N (ls_P S 42) x (ls_n S 42) 0) (ls_n S 42) (ls_P S 42) (ls_V S 42) x
def to_S (S : Nat → Int32) (v : Int32) : Int32 := mx_I 0 (S 1 - v * S 3 / 100)
def ip_I (x : Int32) : Int32 := if x < -20000 ∨ 20000 < x then 0 else 1
def ai_S (S : Nat → Int32) (x : Int32) : Int32 := x + er_S S x
def sl_S (S : Nat → Int32) : Int32 := if to_S S (S 2) < lo_S S (S 8) then 1 else 0
def tm_S (S : Nat → Int32) : Nat → Int32 := upd (upd (upd (upd S 16 (S 16 + ab_I (S 9))) 7 (S 7 + S 9)) 9 0) 8 (mn_I (S 7 + S 9) (mx_I (S 8) (S 7 + S 9 - S 4)))
def su_S (S : Nat → Int32) (k : Int32) : Nat → Int32 := upd (upd (upd S 14 (S 14 + k)) 10 (S 10 + k * 64)) 9 (S 9 - k * 64)
def sd_S (S : Nat → Int32) (k : Int32) : Nat → Int32 := upd (upd (upd S 15 (S 15 + k)) 10 (S 10 - k * 64)) 9 (S 9 + k * 64)
def sp_S (S : Nat → Int32) : Nat → Int32 := if S 9 < 32 then (if -32 < S 9 then S else sd_S S ((32 - S 9) / 64)) else su_S S ((S 9 + 32) / 64)
def mb_S (S : Nat → Int32) (d k : Int32) : Nat → Int32 := upd (upd (upd S 6 (S 6 + d * k * S 0)) 9 (S 9 + d * k * S 0)) 12 (S 12 + k)
def mm_S (S : Nat → Int32) (d k : Int32) : Nat → Int32 := if sl_S S = 1 then sp_S (upd (mb_S S d k) 13 (S 13 + k)) else tm_S (mb_S S d k)
set_option maxRecDepth 100000 in
set_option maxHeartbeats 4000000 in
theorem sp_F_isPlace {Γ : cx_T} {τ : Nat × (Nat → sh_T)} {ν : Nat → Nat → Int32} {x : Int32} : mt_P Γ mk_F_isPlace [.int x] (τ, ν) (fun v μ' => v = some (.int (ip_I x)) ∧ μ' = (τ, ν)) := by
  refine mt_of (L := [some (.int x)]) (by decide +kernel) (by simp [Value.category]) (Nat.le_of_ble_eq_true rfl) (lc_1_1 ()) ?_
  refine gg_ildn dc_F_isPlace_0 rfl rfl ?_
  refine gg_sipush (v := (-20000)) dc_F_isPlace_1 (by decide) ?_
  refine gg_iclt dc_F_isPlace_4 (fun c_4 => ?_) (fun c_4 => ?_)
  · refine gg_iconst (v := 0) dc_F_isPlace_18 (by decide) ?_
    exact gg_zret dc_F_isPlace_19 rfl (by first | exact Or.inl rfl | exact Or.inr rfl | assumption) ⟨Nat.le_of_ble_eq_true rfl, Nat.le_of_ble_eq_true rfl⟩ (⟨by unfold ip_I; rw [if_pos (Or.inl c_4)], rfl⟩)
  · refine gg_ildn dc_F_isPlace_7 rfl rfl ?_
    refine gg_sipush (v := 20000) dc_F_isPlace_8 (by decide) ?_
    refine gg_icgt dc_F_isPlace_11 (fun c_11 => ?_) (fun c_11 => ?_)
    · refine gg_iconst (v := 0) dc_F_isPlace_18 (by decide) ?_
      exact gg_zret dc_F_isPlace_19 rfl (by first | exact Or.inl rfl | exact Or.inr rfl | assumption) ⟨Nat.le_of_ble_eq_true rfl, Nat.le_of_ble_eq_true rfl⟩ (⟨by unfold ip_I; rw [if_pos (Or.inr c_11)], rfl⟩)
    · refine gg_iconst (v := 1) dc_F_isPlace_14 (by decide) ?_
      refine gg_goto dc_F_isPlace_15 ?_
      exact gg_zret dc_F_isPlace_19 rfl (by first | exact Or.inl rfl | exact Or.inr rfl | assumption) ⟨Nat.le_of_ble_eq_true rfl, Nat.le_of_ble_eq_true rfl⟩ (⟨by unfold ip_I; rw [if_neg (fun h => h.elim c_4 c_11)], rfl⟩)
set_option maxRecDepth 100000 in
set_option maxHeartbeats 4000000 in
theorem sp_A_number {Γ : cx_T} {τ : Nat × (Nat → sh_T)} {ν : Nat → Nat → Int32} {a : Nat} {S : Nat → Int32} (hx : sh_X τ.2 a) (hX : AX ν a S) {i : Int32} {k : Nat} (hi : i = nI k) (hk : k < 6) : mt_P Γ mk_A_number [.ref a, .int i] (τ, ν) (fun v μ' => v = some (.int (S k)) ∧ μ' = (τ, ν)) := by
  refine mt_of (L := [some (.ref a), some (.int i)]) (by decide +kernel) (by simp [Value.category]) (Nat.le_of_ble_eq_true rfl) (lc_2_2 ()) ?_
  obtain ⟨x0, x1, x2, x3, x4, x5⟩ := id hx
  subst hi
  refine gg_ildn dc_A_number_0 rfl rfl ?_
  refine gg_iflt dc_A_number_1 (fun c_1 => ?_) (fun c_1 => ?_)
  · exact absurd c_1 (nI_pos (by omega))
  · refine gg_ildn dc_A_number_4 rfl rfl ?_
    refine gg_aldn dc_A_number_5 rfl rfl ?_
    refine gg_getr dc_A_number_6 lf_A_9 x0 rfl ?_
    refine gg_alen dc_A_number_9 (Or.inl x1) rfl ?_
    refine gg_icge dc_A_number_10 (fun c_10 => ?_) (fun c_10 => ?_)
    · exact absurd c_10 (nI_ge (b := 6) (by omega) (by omega))
    · refine gg_aldn dc_A_number_13 rfl rfl ?_
      refine gg_getr dc_A_number_14 lf_A_9 x0 rfl ?_
      refine gg_ildn dc_A_number_17 rfl rfl ?_
      refine gx_ialdK dc_A_number_18 x1 (⟨rfl, hk, by omega⟩) ?_
      refine gg_goto dc_A_number_19 ?_
      exact gg_iret dc_A_number_23 rfl ⟨Nat.le_of_ble_eq_true rfl, Nat.le_of_ble_eq_true rfl⟩ (⟨by rw [hX.1 k hk], rfl⟩)
set_option maxRecDepth 100000 in
set_option maxHeartbeats 4000000 in
theorem sp_A_changeNumber {Γ : cx_T} {τ : Nat × (Nat → sh_T)} {ν : Nat → Nat → Int32} {a : Nat} {S : Nat → Int32} (hx : sh_X τ.2 a) (hX : AX ν a S) {i v : Int32} {k : Nat} (hi : i = nI k) (hk : k < 6) : mt_P Γ mk_A_changeNumber [.ref a, .int i, .int v] (τ, ν) (ax_Q τ ν a (none) (upd S k v)) := by
  refine mt_of (L := [some (.ref a), some (.int i), some (.int v)]) (by decide +kernel) (by simp [Value.category]) (Nat.le_of_ble_eq_true rfl) (lc_3_3 ()) ?_
  obtain ⟨x0, x1, x2, x3, x4, x5⟩ := id hx
  have hF : fr_P ν ν a := fr_rf
  refine gg_aldn dc_A_changeNumber_0 rfl rfl ?_
  refine gg_getr dc_A_changeNumber_1 lf_A_9 x0 rfl ?_
  refine gg_ildn dc_A_changeNumber_4 rfl rfl ?_
  refine gg_ildn dc_A_changeNumber_5 rfl rfl ?_
  refine gg_okSv (sp_R_putE x1 (by omega) hi hk) dc_A_changeNumber_6 ml_A_91 ce_R_put ⟨Nat.le_of_ble_eq_true rfl, Nat.le_of_ble_eq_true rfl⟩ rfl (Nat.le_of_ble_eq_true rfl) ⟨rfl, rfl⟩ ⟨Nat.le_of_ble_eq_true rfl, Nat.le_of_ble_eq_true rfl⟩ ?_
  exact gg_vret dc_A_changeNumber_9 rfl ⟨Nat.le_of_ble_eq_true rfl, Nat.le_of_ble_eq_true rfl⟩ (⟨_, rfl, rfl, hX.nu hk, fr_up (by omega)⟩)
set_option maxRecDepth 100000 in
set_option maxHeartbeats 4000000 in
theorem sp_A_tally {Γ : cx_T} {τ : Nat × (Nat → sh_T)} {ν : Nat → Nat → Int32} {a : Nat} {S : Nat → Int32} (hx : sh_X τ.2 a) (hX : AX ν a S) {i v : Int32} {k s : Nat} (hi : i = nI k) (hk : k < 6) (hs : 12 + k = s) : mt_P Γ mk_A_tally [.ref a, .int i, .int v] (τ, ν) (ax_Q τ ν a (none) (upd S s (S s + v))) := by
  refine mt_of (L := [some (.ref a), some (.int i), some (.int v)]) (by decide +kernel) (by simp [Value.category]) (Nat.le_of_ble_eq_true rfl) (lc_3_3 ()) ?_
  obtain ⟨x0, x1, x2, x3, x4, x5⟩ := id hx
  have hF : fr_P ν ν a := fr_rf
  subst hs
  refine gg_aldn dc_A_tally_0 rfl rfl ?_
  refine gg_getr dc_A_tally_1 lf_A_15 x0 rfl ?_
  refine gg_ildn dc_A_tally_4 rfl rfl ?_
  refine gg_aldn dc_A_tally_5 rfl rfl ?_
  refine gg_getr dc_A_tally_6 lf_A_15 x0 rfl ?_
  refine gg_ildn dc_A_tally_9 rfl rfl ?_
  refine gg_okS (sp_R_atE x2 (by omega) hi hk) dc_A_tally_10 ml_A_78 ce_R_at ⟨Nat.le_of_ble_eq_true rfl, Nat.le_of_ble_eq_true rfl⟩ rfl (Nat.le_of_ble_eq_true rfl) ⟨rfl, rfl⟩ ⟨Nat.le_of_ble_eq_true rfl, Nat.le_of_ble_eq_true rfl⟩ ?_
  refine gg_ildn dc_A_tally_13 rfl rfl ?_
  refine gg_iadd dc_A_tally_14 ?_
  refine gg_okSv (sp_R_putE x2 (by omega) hi hk) dc_A_tally_15 ml_A_91 ce_R_put ⟨Nat.le_of_ble_eq_true rfl, Nat.le_of_ble_eq_true rfl⟩ rfl (Nat.le_of_ble_eq_true rfl) ⟨rfl, rfl⟩ ⟨Nat.le_of_ble_eq_true rfl, Nat.le_of_ble_eq_true rfl⟩ ?_
  refine gg_vret dc_A_tally_18 rfl ⟨Nat.le_of_ble_eq_true rfl, Nat.le_of_ble_eq_true rfl⟩ ?_
  rw [hX.2.1 k hk]
  exact ⟨_, rfl, rfl, hX.ac hk, fr_up (by omega)⟩
set_option maxRecDepth 100000 in
set_option maxHeartbeats 4000000 in
theorem sp_A_placeFlag {Γ : cx_T} {τ : Nat × (Nat → sh_T)} {ν : Nat → Nat → Int32} {a : Nat} {S : Nat → Int32} (hx : sh_X τ.2 a) (hX : AX ν a S) {f t : Int32} : mt_P Γ mk_A_placeFlag [.ref a, .int f, .int t] (τ, ν) (ax_Q τ ν a (none) (upd (upd (upd S 18 1) 19 f) 20 t)) := by
  refine mt_of (L := [some (.ref a), some (.int f), some (.int t)]) (by decide +kernel) (by simp [Value.category]) (Nat.le_of_ble_eq_true rfl) (lc_3_3 ()) ?_
  obtain ⟨x0, x1, x2, x3, x4, x5⟩ := id hx
  have hF : fr_P ν ν a := fr_rf
  refine gg_aldn dc_A_placeFlag_0 rfl rfl ?_
  refine gg_iconst (v := 1) dc_A_placeFlag_1 (by decide) ?_
  refine gx_axp (k := 5) (s := 18) dc_A_placeFlag_2 lp_A_46 x0 hX hF rfl ⟨Nat.le_of_ble_eq_true rfl, Nat.le_of_ble_eq_true rfl⟩ rfl (by first | exact Or.inr (Or.inl rfl) | exact Or.inr (Or.inr rfl) | exact Or.inr (by assumption)) (fun ν hX hF => ?_)
  refine gg_aldn dc_A_placeFlag_5 rfl rfl ?_
  refine gg_ildn dc_A_placeFlag_6 rfl rfl ?_
  refine gx_axp (k := 6) (s := 19) dc_A_placeFlag_7 lp_A_50 x0 hX hF rfl ⟨Nat.le_of_ble_eq_true rfl, Nat.le_of_ble_eq_true rfl⟩ rfl (Or.inl ⟨rfl, by decide⟩) (fun ν hX hF => ?_)
  refine gg_aldn dc_A_placeFlag_10 rfl rfl ?_
  refine gg_ildn dc_A_placeFlag_11 rfl rfl ?_
  refine gx_axp (k := 7) (s := 20) dc_A_placeFlag_12 lp_A_54 x0 hX hF rfl ⟨Nat.le_of_ble_eq_true rfl, Nat.le_of_ble_eq_true rfl⟩ rfl (Or.inl ⟨rfl, by decide⟩) (fun ν hX hF => ?_)
  exact gg_vret dc_A_placeFlag_15 rfl ⟨Nat.le_of_ble_eq_true rfl, Nat.le_of_ble_eq_true rfl⟩ (⟨_, rfl, rfl, hX, hF⟩)
set_option maxRecDepth 100000 in
set_option maxHeartbeats 4000000 in
theorem sp_A_isReading {Γ : cx_T} {τ : Nat × (Nat → sh_T)} {ν : Nat → Nat → Int32} {x : Int32} : mt_P Γ mk_A_isReading [.int x] (τ, ν) (fun v μ' => v = some (.int (if x < 0 ∨ 17 < x then 0 else 1)) ∧ μ' = (τ, ν)) := by
  refine mt_of (L := [some (.int x)]) (by decide +kernel) (by simp [Value.category]) (Nat.le_of_ble_eq_true rfl) (lc_1_1 ()) ?_
  refine gg_ildn dc_A_isReading_0 rfl rfl ?_
  refine gg_iflt dc_A_isReading_1 (fun c_1 => ?_) (fun c_1 => ?_)
  · refine gg_iconst (v := 0) dc_A_isReading_14 (by decide) ?_
    exact gg_zret dc_A_isReading_15 rfl (by first | exact Or.inl rfl | exact Or.inr rfl | assumption) ⟨Nat.le_of_ble_eq_true rfl, Nat.le_of_ble_eq_true rfl⟩ (⟨by rw [if_pos (Or.inl c_1)], rfl⟩)
  · refine gg_ildn dc_A_isReading_4 rfl rfl ?_
    refine gg_bipush (v := 17) dc_A_isReading_5 (by decide) ?_
    refine gg_icgt dc_A_isReading_7 (fun c_7 => ?_) (fun c_7 => ?_)
    · refine gg_iconst (v := 0) dc_A_isReading_14 (by decide) ?_
      exact gg_zret dc_A_isReading_15 rfl (by first | exact Or.inl rfl | exact Or.inr rfl | assumption) ⟨Nat.le_of_ble_eq_true rfl, Nat.le_of_ble_eq_true rfl⟩ (⟨by rw [if_pos (Or.inr c_7)], rfl⟩)
    · refine gg_iconst (v := 1) dc_A_isReading_10 (by decide) ?_
      refine gg_goto dc_A_isReading_11 ?_
      exact gg_zret dc_A_isReading_15 rfl (by first | exact Or.inl rfl | exact Or.inr rfl | assumption) ⟨Nat.le_of_ble_eq_true rfl, Nat.le_of_ble_eq_true rfl⟩ (⟨by rw [if_neg (fun h => h.elim c_1 c_7)], rfl⟩)
set_option maxRecDepth 100000 in
set_option maxHeartbeats 4000000 in
theorem sp_A_torqueAt {Γ : cx_T} {τ : Nat × (Nat → sh_T)} {ν : Nat → Nat → Int32} {a : Nat} {S : Nat → Int32} (hx : sh_X τ.2 a) (hX : AX ν a S) {w : Int32} : mt_P Γ mk_A_torqueAt [.ref a, .int w] (τ, ν) (fun v μ' => v = some (.int (to_S S w)) ∧ μ' = (τ, ν)) := by
  refine mt_of (L := [some (.ref a), some (.int w)]) (by decide +kernel) (by simp [Value.category]) (Nat.le_of_ble_eq_true rfl) (lc_2_2 ()) ?_
  obtain ⟨x0, x1, x2, x3, x4, x5⟩ := id hx
  refine gg_iconst (v := 0) dc_A_torqueAt_0 (by decide) ?_
  refine gg_aldn dc_A_torqueAt_1 rfl rfl ?_
  refine gg_iconst (v := 1) dc_A_torqueAt_2 (by decide) ?_
  refine gg_okV (sp_A_number hx hX (k := 1) rfl (by omega)) dc_A_torqueAt_3 ml_A_95 ce_A_number ⟨Nat.le_of_ble_eq_true rfl, Nat.le_of_ble_eq_true rfl⟩ x0 rfl rfl (Nat.le_of_ble_eq_true rfl) ⟨rfl, rfl⟩ ⟨Nat.le_of_ble_eq_true rfl, Nat.le_of_ble_eq_true rfl⟩ ?_
  refine gg_ildn dc_A_torqueAt_6 rfl rfl ?_
  refine gg_aldn dc_A_torqueAt_7 rfl rfl ?_
  refine gg_iconst (v := 3) dc_A_torqueAt_8 (by decide) ?_
  refine gg_okV (sp_A_number hx hX (k := 3) rfl (by omega)) dc_A_torqueAt_9 ml_A_95 ce_A_number ⟨Nat.le_of_ble_eq_true rfl, Nat.le_of_ble_eq_true rfl⟩ x0 rfl rfl (Nat.le_of_ble_eq_true rfl) ⟨rfl, rfl⟩ ⟨Nat.le_of_ble_eq_true rfl, Nat.le_of_ble_eq_true rfl⟩ ?_
  refine gg_imul dc_A_torqueAt_12 ?_
  refine gg_bipush (v := 100) dc_A_torqueAt_13 (by decide) ?_
  refine gg_idiv dc_A_torqueAt_15 (by decide) ?_
  refine gg_isub dc_A_torqueAt_16 ?_
  refine gg_okS (sp_J_max) dc_A_torqueAt_17 ml_A_108 ce_J_max ⟨Nat.le_of_ble_eq_true rfl, Nat.le_of_ble_eq_true rfl⟩ rfl (Nat.le_of_ble_eq_true rfl) ⟨rfl, rfl⟩ ⟨Nat.le_of_ble_eq_true rfl, Nat.le_of_ble_eq_true rfl⟩ ?_
  exact gg_iret dc_A_torqueAt_20 rfl ⟨Nat.le_of_ble_eq_true rfl, Nat.le_of_ble_eq_true rfl⟩ (⟨rfl, rfl⟩)
theorem sp_P_vuR {Γ : cx_T} {τ : Nat × (Nat → sh_T)} {ν : Nat → Nat → Int32} {q b : Nat} {S : Nat → Int32} {x d : Int32} (hq : sh_Pt τ.2 q) (hR : PR ν q S b 10) : mt_P Γ mk_P_valueUpTo [.ref q, .int x, .int d] (τ, ν) (fun v μ' => v = some (.int (pk_I (ut_N (ls_P S b) x (ls_n S b) 0) (ls_V S b) d)) ∧ μ' = (τ, ν)) := by
  have h := hR.n (by omega)
  rw [← hR.pk (by omega)]
  exact sp_P_valueUpTo hq h.2.1 h.1
theorem sp_P_loR {Γ : cx_T} {τ : Nat × (Nat → sh_T)} {ν : Nat → Nat → Int32} {q : Nat} {S : Nat → Int32} {x : Int32} (hq : sh_Pt τ.2 q) (hR : PR ν q S 21 10) : mt_P Γ mk_P_valueUpTo [.ref q, .int x, .int 0] (τ, ν) (fun v μ' => v = some (.int (lo_S S x)) ∧ μ' = (τ, ν)) := sp_P_vuR hq hR
theorem sp_P_vbR {Γ : cx_T} {τ : Nat × (Nat → sh_T)} {ν : Nat → Nat → Int32} {q b : Nat} {S : Nat → Int32} {x : Int32} (hq : sh_Pt τ.2 q) (hR : PR ν q S b 10) : mt_P Γ mk_P_valueBetween [.ref q, .int x] (τ, ν) (fun v μ' => v = some (.int (vb_I (ut_N (ls_P S b) x (ls_n S b) 0) (ls_n S b) (ls_P S b) (ls_V S b) x)) ∧ μ' = (τ, ν)) := by
  have h := hR.n (by omega)
  rw [← hR.vb (by omega)]
  exact sp_P_valueBetween hq h.2.1 h.1
theorem sp_P_puR {Γ : cx_T} {τ : Nat × (Nat → sh_T)} {ν : Nat → Nat → Int32} {q b : Nat} {S : Nat → Int32} {x : Int32} (hq : sh_Pt τ.2 q) (hR : PR ν q S b 10) : mt_P Γ mk_P_placeUpTo [.ref q, .int x] (τ, ν) (fun v μ' => v = some (.int (pk_I (ut_N (ls_P S b) x (ls_n S b) 0) (ls_P S b) (-1000000000))) ∧ μ' = (τ, ν)) := by
  have h := hR.n (by omega)
  rw [← hR.pp (by omega)]
  exact sp_P_placeUpTo hq h.2.1 h.1
def pa_I (S : Nat → Int32) (b : Nat) (x : Int32) : Int32 := if ut_N (ls_P S b) x (ls_n S b) 0 < ls_n S b then ls_P S b (ut_N (ls_P S b) x (ls_n S b) 0) else 1000000000
theorem sp_P_paR {Γ : cx_T} {τ : Nat × (Nat → sh_T)} {ν : Nat → Nat → Int32} {q b : Nat} {S : Nat → Int32} {x : Int32} (hq : sh_Pt τ.2 q) (hR : PR ν q S b 10) : mt_P Γ mk_P_placeAbove [.ref q, .int x] (τ, ν) (fun v μ' => v = some (.int (pa_I S b x)) ∧ μ' = (τ, ν)) := by
  have h := hR.n (by omega)
  have h9 := sp_P_placeAbove (Γ := Γ) (x := x) hq h.2.1 h.1
  rw [hR.ut (by omega)] at h9
  have e : (if ut_N (ls_P S b) x (ls_n S b) 0 < ls_n S b then ν (q + 1) (ut_N (ls_P S b) x (ls_n S b) 0) else 1000000000) = pa_I S b x := by
    unfold pa_I
    by_cases c : ut_N (ls_P S b) x (ls_n S b) 0 < ls_n S b
    · rw [if_pos c, if_pos c, (h.2.2.2 _ c).1]
    · rw [if_neg c, if_neg c]
  rw [e] at h9
  exact h9
set_option maxRecDepth 100000 in
set_option maxHeartbeats 4000000 in
theorem sp_A_loadOn {Γ : cx_T} {τ : Nat × (Nat → sh_T)} {ν : Nat → Nat → Int32} {a : Nat} {S : Nat → Int32} (hx : sh_X τ.2 a) (hX : AX ν a S) {x : Int32} : mt_P Γ mk_A_loadOn [.ref a, .int x] (τ, ν) (fun v μ' => v = some (.int (lo_S S x)) ∧ μ' = (τ, ν)) := by
  refine mt_of (L := [some (.ref a), some (.int x)]) (by decide +kernel) (by simp [Value.category]) (Nat.le_of_ble_eq_true rfl) (lc_2_2 ()) ?_
  obtain ⟨x0, x1, x2, x3, x4, x5⟩ := id hx
  refine gg_aldn dc_A_loadOn_0 rfl rfl ?_
  refine gg_getr dc_A_loadOn_1 lf_A_21 x0 rfl ?_
  refine gg_ildn dc_A_loadOn_4 rfl rfl ?_
  refine gg_iconst (v := 0) dc_A_loadOn_5 (by decide) ?_
  refine gg_okV (sp_P_loR x3 hX.2.2.2.2.1) dc_A_loadOn_6 ml_A_114 ce_P_valueUpTo ⟨Nat.le_of_ble_eq_true rfl, Nat.le_of_ble_eq_true rfl⟩ x3.1 rfl rfl (Nat.le_of_ble_eq_true rfl) ⟨rfl, rfl⟩ ⟨Nat.le_of_ble_eq_true rfl, Nat.le_of_ble_eq_true rfl⟩ ?_
  exact gg_iret dc_A_loadOn_9 rfl ⟨Nat.le_of_ble_eq_true rfl, Nat.le_of_ble_eq_true rfl⟩ (⟨rfl, rfl⟩)
set_option maxRecDepth 100000 in
set_option maxHeartbeats 4000000 in
theorem sp_A_target {Γ : cx_T} {τ : Nat × (Nat → sh_T)} {ν : Nat → Nat → Int32} {a : Nat} {S : Nat → Int32} (hx : sh_X τ.2 a) (hX : AX ν a S) {x : Int32} : mt_P Γ mk_A_target [.ref a, .int x] (τ, ν) (fun v μ' => v = some (.int (ai_S S x)) ∧ μ' = (τ, ν)) := by
  refine mt_of (L := [some (.ref a), some (.int x)]) (by decide +kernel) (by simp [Value.category]) (Nat.le_of_ble_eq_true rfl) (lc_2_2 ()) ?_
  obtain ⟨x0, x1, x2, x3, x4, x5⟩ := id hx
  refine gg_ildn dc_A_target_0 rfl rfl ?_
  refine gg_aldn dc_A_target_1 rfl rfl ?_
  refine gg_getr dc_A_target_2 lf_A_25 x0 rfl ?_
  refine gg_ildn dc_A_target_5 rfl rfl ?_
  refine gg_okV (sp_P_vbR x4 hX.2.2.2.2.2.1) dc_A_target_6 ml_A_117 ce_P_valueBetween ⟨Nat.le_of_ble_eq_true rfl, Nat.le_of_ble_eq_true rfl⟩ x4.1 rfl rfl (Nat.le_of_ble_eq_true rfl) ⟨rfl, rfl⟩ ⟨Nat.le_of_ble_eq_true rfl, Nat.le_of_ble_eq_true rfl⟩ ?_
  refine gg_iadd dc_A_target_9 ?_
  exact gg_iret dc_A_target_10 rfl ⟨Nat.le_of_ble_eq_true rfl, Nat.le_of_ble_eq_true rfl⟩ (⟨rfl, rfl⟩)
set_option maxRecDepth 100000 in
set_option maxHeartbeats 4000000 in
theorem sp_A_refuses {Γ : cx_T} {τ : Nat × (Nat → sh_T)} {ν : Nat → Nat → Int32} {a : Nat} {S : Nat → Int32} (hx : sh_X τ.2 a) (hX : AX ν a S) {x : Int32} : mt_P Γ mk_A_refuses [.ref a, .int x] (τ, ν) (fun v μ' => v = some (.int (if ip_I (ai_S S x) = 0 then 1 else 0)) ∧ μ' = (τ, ν)) := by
  refine mt_of (L := [some (.ref a), some (.int x)]) (by decide +kernel) (by simp [Value.category]) (Nat.le_of_ble_eq_true rfl) (lc_2_2 ()) ?_
  obtain ⟨x0, x1, x2, x3, x4, x5⟩ := id hx
  refine gg_aldn dc_A_refuses_0 rfl rfl ?_
  refine gg_ildn dc_A_refuses_1 rfl rfl ?_
  refine gg_okV (sp_A_target hx hX) dc_A_refuses_2 ml_A_120 ce_A_target ⟨Nat.le_of_ble_eq_true rfl, Nat.le_of_ble_eq_true rfl⟩ x0 rfl rfl (Nat.le_of_ble_eq_true rfl) ⟨rfl, rfl⟩ ⟨Nat.le_of_ble_eq_true rfl, Nat.le_of_ble_eq_true rfl⟩ ?_
  refine gg_okN (sp_F_isPlace) dc_A_refuses_5 rfl rfl ce_F_isPlace ⟨Nat.le_of_ble_eq_true rfl, Nat.le_of_ble_eq_true rfl⟩ rfl (Nat.le_of_ble_eq_true rfl) ⟨rfl, rfl⟩ ⟨Nat.le_of_ble_eq_true rfl, Nat.le_of_ble_eq_true rfl⟩ ?_
  refine gg_ifne dc_A_refuses_8 (fun c_8 => ?_) (fun c_8 => ?_)
  · refine gg_iconst (v := 0) dc_A_refuses_15 (by decide) ?_
    exact gg_zret dc_A_refuses_16 rfl (by first | exact Or.inl rfl | exact Or.inr rfl | assumption) ⟨Nat.le_of_ble_eq_true rfl, Nat.le_of_ble_eq_true rfl⟩ (⟨by rw [if_neg c_8], rfl⟩)
  · refine gg_iconst (v := 1) dc_A_refuses_11 (by decide) ?_
    refine gg_goto dc_A_refuses_12 ?_
    exact gg_zret dc_A_refuses_16 rfl (by first | exact Or.inl rfl | exact Or.inr rfl | assumption) ⟨Nat.le_of_ble_eq_true rfl, Nat.le_of_ble_eq_true rfl⟩ (⟨by rw [if_pos (by first | exact c_8 | exact Classical.not_not.mp c_8)], rfl⟩)
set_option maxRecDepth 100000 in
set_option maxHeartbeats 4000000 in
theorem sp_A_stalls {Γ : cx_T} {τ : Nat × (Nat → sh_T)} {ν : Nat → Nat → Int32} {a : Nat} {S : Nat → Int32} (hx : sh_X τ.2 a) (hX : AX ν a S)  : mt_P Γ mk_A_stalls [.ref a] (τ, ν) (fun v μ' => v = some (.int (sl_S S)) ∧ μ' = (τ, ν)) := by
  refine mt_of (L := [some (.ref a)]) (by decide +kernel) (by simp [Value.category]) (Nat.le_of_ble_eq_true rfl) (lc_1_1 ()) ?_
  obtain ⟨x0, x1, x2, x3, x4, x5⟩ := id hx
  refine gg_aldn dc_A_stalls_0 rfl rfl ?_
  refine gg_aldn dc_A_stalls_1 rfl rfl ?_
  refine gg_iconst (v := 2) dc_A_stalls_2 (by decide) ?_
  refine gg_okV (sp_A_number hx hX (k := 2) rfl (by omega)) dc_A_stalls_3 ml_A_95 ce_A_number ⟨Nat.le_of_ble_eq_true rfl, Nat.le_of_ble_eq_true rfl⟩ x0 rfl rfl (Nat.le_of_ble_eq_true rfl) ⟨rfl, rfl⟩ ⟨Nat.le_of_ble_eq_true rfl, Nat.le_of_ble_eq_true rfl⟩ ?_
  refine gg_okV (sp_A_torqueAt hx hX) dc_A_stalls_6 ml_A_98 ce_A_torqueAt ⟨Nat.le_of_ble_eq_true rfl, Nat.le_of_ble_eq_true rfl⟩ x0 rfl rfl (Nat.le_of_ble_eq_true rfl) ⟨rfl, rfl⟩ ⟨Nat.le_of_ble_eq_true rfl, Nat.le_of_ble_eq_true rfl⟩ ?_
  refine gg_aldn dc_A_stalls_9 rfl rfl ?_
  refine gg_getr dc_A_stalls_10 lf_A_21 x0 rfl ?_
  refine gg_aldn dc_A_stalls_13 rfl rfl ?_
  refine gx_axi (k := 10) (s := 8) dc_A_stalls_14 lf_A_63 x0 hX rfl ⟨Nat.le_of_ble_eq_true rfl, Nat.le_of_ble_eq_true rfl⟩ rfl ?_
  refine gg_iconst (v := 0) dc_A_stalls_17 (by decide) ?_
  refine gg_okV (sp_P_loR x3 hX.2.2.2.2.1) dc_A_stalls_18 ml_A_114 ce_P_valueUpTo ⟨Nat.le_of_ble_eq_true rfl, Nat.le_of_ble_eq_true rfl⟩ x3.1 rfl rfl (Nat.le_of_ble_eq_true rfl) ⟨rfl, rfl⟩ ⟨Nat.le_of_ble_eq_true rfl, Nat.le_of_ble_eq_true rfl⟩ ?_
  refine gg_icge dc_A_stalls_21 (fun c_21 => ?_) (fun c_21 => ?_)
  · refine gg_iconst (v := 0) dc_A_stalls_28 (by decide) ?_
    exact gg_zret dc_A_stalls_29 rfl (by first | exact Or.inl rfl | exact Or.inr rfl | assumption) ⟨Nat.le_of_ble_eq_true rfl, Nat.le_of_ble_eq_true rfl⟩ (⟨by unfold sl_S; rw [if_neg (Int32.not_lt.mpr c_21)], rfl⟩)
  · refine gg_iconst (v := 1) dc_A_stalls_24 (by decide) ?_
    refine gg_goto dc_A_stalls_25 ?_
    exact gg_zret dc_A_stalls_29 rfl (by first | exact Or.inl rfl | exact Or.inr rfl | assumption) ⟨Nat.le_of_ble_eq_true rfl, Nat.le_of_ble_eq_true rfl⟩ (⟨by unfold sl_S; rw [if_pos (Int32.not_le.mp c_21)], rfl⟩)
set_option maxRecDepth 100000 in
set_option maxHeartbeats 4000000 in
theorem sp_A_microstepsTo {Γ : cx_T} {τ : Nat × (Nat → sh_T)} {ν : Nat → Nat → Int32} {a : Nat} {S : Nat → Int32} (hx : sh_X τ.2 a) (hX : AX ν a S) {x : Int32} : mt_P Γ mk_A_microstepsTo [.ref a, .int x] (τ, ν) (fun v μ' => v = some (.int (if 0 < S 0 then (x - S 6) / S 0 else 0)) ∧ μ' = (τ, ν)) := by
  refine mt_of (L := [some (.ref a), some (.int x), none]) (by decide +kernel) (by simp [Value.category]) (Nat.le_of_ble_eq_true rfl) (lc_2_3 ()) ?_
  obtain ⟨x0, x1, x2, x3, x4, x5⟩ := id hx
  refine gg_aldn dc_A_microstepsTo_0 rfl rfl ?_
  refine gg_iconst (v := 0) dc_A_microstepsTo_1 (by decide) ?_
  refine gg_okV (sp_A_number hx hX (k := 0) rfl (by omega)) dc_A_microstepsTo_2 ml_A_95 ce_A_number ⟨Nat.le_of_ble_eq_true rfl, Nat.le_of_ble_eq_true rfl⟩ x0 rfl rfl (Nat.le_of_ble_eq_true rfl) ⟨rfl, rfl⟩ ⟨Nat.le_of_ble_eq_true rfl, Nat.le_of_ble_eq_true rfl⟩ ?_
  refine gg_istn (i := 2) dc_A_microstepsTo_5 rfl (Nat.le_of_ble_eq_true rfl) rfl ?_
  dsimp only [List.set]
  refine gg_ildn dc_A_microstepsTo_6 rfl rfl ?_
  refine gg_ifle dc_A_microstepsTo_7 (fun c_7 => ?_) (fun c_7 => ?_)
  · refine gg_iconst (v := 0) dc_A_microstepsTo_21 (by decide) ?_
    exact gg_iret dc_A_microstepsTo_22 rfl ⟨Nat.le_of_ble_eq_true rfl, Nat.le_of_ble_eq_true rfl⟩ (⟨by rw [if_neg (Int32.not_lt.mpr c_7)], rfl⟩)
  · refine gg_ildn dc_A_microstepsTo_10 rfl rfl ?_
    refine gg_aldn dc_A_microstepsTo_11 rfl rfl ?_
    refine gx_axi (k := 8) (s := 6) dc_A_microstepsTo_12 lf_A_57 x0 hX rfl ⟨Nat.le_of_ble_eq_true rfl, Nat.le_of_ble_eq_true rfl⟩ rfl ?_
    refine gg_isub dc_A_microstepsTo_15 ?_
    refine gg_ildn dc_A_microstepsTo_16 rfl rfl ?_
    refine gg_idiv dc_A_microstepsTo_17 (fun e => c_7 (by rw [e]; exact Int32.le_refl _)) ?_
    refine gg_goto dc_A_microstepsTo_18 ?_
    exact gg_iret dc_A_microstepsTo_22 rfl ⟨Nat.le_of_ble_eq_true rfl, Nat.le_of_ble_eq_true rfl⟩ (⟨by rw [if_pos (Int32.not_le.mp c_7)], rfl⟩)
set_option maxRecDepth 100000 in
set_option maxHeartbeats 4000000 in
theorem sp_A_counterDue {Γ : cx_T} {τ : Nat × (Nat → sh_T)} {ν : Nat → Nat → Int32} {a : Nat} {S : Nat → Int32} (hx : sh_X τ.2 a) (hX : AX ν a S) {x : Int32} : mt_P Γ mk_A_counterDue [.ref a, .int x] (τ, ν) (fun v μ' => v = some (.int (if x = 0 then S 19 + S 5 else S 20)) ∧ μ' = (τ, ν)) := by
  refine mt_of (L := [some (.ref a), some (.int x)]) (by decide +kernel) (by simp [Value.category]) (Nat.le_of_ble_eq_true rfl) (lc_2_2 ()) ?_
  obtain ⟨x0, x1, x2, x3, x4, x5⟩ := id hx
  refine gg_ildn dc_A_counterDue_0 rfl rfl ?_
  refine gg_ifne dc_A_counterDue_1 (fun c_1 => ?_) (fun c_1 => ?_)
  · refine gg_aldn dc_A_counterDue_17 rfl rfl ?_
    refine gx_axi (k := 7) (s := 20) dc_A_counterDue_18 lf_A_54 x0 hX rfl ⟨Nat.le_of_ble_eq_true rfl, Nat.le_of_ble_eq_true rfl⟩ rfl ?_
    exact gg_iret dc_A_counterDue_21 rfl ⟨Nat.le_of_ble_eq_true rfl, Nat.le_of_ble_eq_true rfl⟩ (⟨by rw [if_neg c_1], rfl⟩)
  · refine gg_aldn dc_A_counterDue_4 rfl rfl ?_
    refine gx_axi (k := 6) (s := 19) dc_A_counterDue_5 lf_A_50 x0 hX rfl ⟨Nat.le_of_ble_eq_true rfl, Nat.le_of_ble_eq_true rfl⟩ rfl ?_
    refine gg_aldn dc_A_counterDue_8 rfl rfl ?_
    refine gg_iconst (v := 5) dc_A_counterDue_9 (by decide) ?_
    refine gg_okV (sp_A_number hx hX (k := 5) rfl (by omega)) dc_A_counterDue_10 ml_A_95 ce_A_number ⟨Nat.le_of_ble_eq_true rfl, Nat.le_of_ble_eq_true rfl⟩ x0 rfl rfl (Nat.le_of_ble_eq_true rfl) ⟨rfl, rfl⟩ ⟨Nat.le_of_ble_eq_true rfl, Nat.le_of_ble_eq_true rfl⟩ ?_
    refine gg_iadd dc_A_counterDue_13 ?_
    refine gg_goto dc_A_counterDue_14 ?_
    exact gg_iret dc_A_counterDue_21 rfl ⟨Nat.le_of_ble_eq_true rfl, Nat.le_of_ble_eq_true rfl⟩ (⟨by rw [if_pos (by first | exact c_1 | exact Classical.not_not.mp c_1)], rfl⟩)
set_option maxRecDepth 100000 in
set_option maxHeartbeats 4000000 in
theorem sp_A_moveCounterAlone {Γ : cx_T} {τ : Nat × (Nat → sh_T)} {ν : Nat → Nat → Int32} {a : Nat} {S : Nat → Int32} (hx : sh_X τ.2 a) (hX : AX ν a S) {x : Int32} : mt_P Γ mk_A_moveCounterAlone [.ref a, .int x] (τ, ν) (ax_Q τ ν a (none) (upd (upd S 6 (S 6 + x)) 11 (S 11 + x))) := by
  refine mt_of (L := [some (.ref a), some (.int x)]) (by decide +kernel) (by simp [Value.category]) (Nat.le_of_ble_eq_true rfl) (lc_2_2 ()) ?_
  obtain ⟨x0, x1, x2, x3, x4, x5⟩ := id hx
  have hF : fr_P ν ν a := fr_rf
  refine gg_aldn dc_A_moveCounterAlone_0 rfl rfl ?_
  refine gg_dup dc_A_moveCounterAlone_1 rfl ?_
  refine gx_axi (k := 8) (s := 6) dc_A_moveCounterAlone_2 lf_A_57 x0 hX rfl ⟨Nat.le_of_ble_eq_true rfl, Nat.le_of_ble_eq_true rfl⟩ rfl ?_
  refine gg_ildn dc_A_moveCounterAlone_5 rfl rfl ?_
  refine gg_iadd dc_A_moveCounterAlone_6 ?_
  refine gx_axp (k := 8) (s := 6) dc_A_moveCounterAlone_7 lp_A_57 x0 hX hF rfl ⟨Nat.le_of_ble_eq_true rfl, Nat.le_of_ble_eq_true rfl⟩ rfl (Or.inl ⟨rfl, by decide⟩) (fun ν hX hF => ?_)
  refine gg_aldn dc_A_moveCounterAlone_10 rfl rfl ?_
  refine gg_dup dc_A_moveCounterAlone_11 rfl ?_
  refine gx_axi (k := 13) (s := 11) dc_A_moveCounterAlone_12 lf_A_72 x0 hX rfl ⟨Nat.le_of_ble_eq_true rfl, Nat.le_of_ble_eq_true rfl⟩ rfl ?_
  refine gg_ildn dc_A_moveCounterAlone_15 rfl rfl ?_
  refine gg_iadd dc_A_moveCounterAlone_16 ?_
  refine gx_axp (k := 13) (s := 11) dc_A_moveCounterAlone_17 lp_A_72 x0 hX hF rfl ⟨Nat.le_of_ble_eq_true rfl, Nat.le_of_ble_eq_true rfl⟩ rfl (Or.inl ⟨rfl, by decide⟩) (fun ν hX hF => ?_)
  exact gg_vret dc_A_moveCounterAlone_20 rfl ⟨Nat.le_of_ble_eq_true rfl, Nat.le_of_ble_eq_true rfl⟩ (⟨_, rfl, rfl, hX, hF⟩)
set_option maxRecDepth 100000 in
set_option maxHeartbeats 4000000 in
theorem sp_A_turnMotor {Γ : cx_T} {τ : Nat × (Nat → sh_T)} {ν : Nat → Nat → Int32} {a : Nat} {S : Nat → Int32} (hx : sh_X τ.2 a) (hX : AX ν a S)  : mt_P Γ mk_A_turnMotor [.ref a] (τ, ν) (ax_Q τ ν a (none) (tm_S S)) := by
  refine mt_of (L := [some (.ref a)]) (by decide +kernel) (by simp [Value.category]) (Nat.le_of_ble_eq_true rfl) (lc_1_1 ()) ?_
  obtain ⟨x0, x1, x2, x3, x4, x5⟩ := id hx
  have hF : fr_P ν ν a := fr_rf
  refine gg_aldn dc_A_turnMotor_0 rfl rfl ?_
  refine gg_iconst (v := 4) dc_A_turnMotor_1 (by decide) ?_
  refine gg_aldn dc_A_turnMotor_2 rfl rfl ?_
  refine gx_axi (k := 11) (s := 9) dc_A_turnMotor_3 lf_A_66 x0 hX rfl ⟨Nat.le_of_ble_eq_true rfl, Nat.le_of_ble_eq_true rfl⟩ rfl ?_
  refine gg_okS (sp_J_abs) dc_A_turnMotor_6 ml_A_136 ce_J_abs ⟨Nat.le_of_ble_eq_true rfl, Nat.le_of_ble_eq_true rfl⟩ rfl (Nat.le_of_ble_eq_true rfl) ⟨rfl, rfl⟩ ⟨Nat.le_of_ble_eq_true rfl, Nat.le_of_ble_eq_true rfl⟩ ?_
  refine gx_callA (sp_A_tally hx hX (k := 4) (s := 16) rfl (by omega) rfl) hF dc_A_turnMotor_9 ml_A_163 ce_A_tally ⟨Nat.le_of_ble_eq_true rfl, Nat.le_of_ble_eq_true rfl⟩ x0 rfl rfl (Nat.le_of_ble_eq_true rfl) ⟨rfl, rfl⟩ ⟨Nat.le_of_ble_eq_true rfl, Nat.le_of_ble_eq_true rfl⟩ (fun ν hX hF => ?_)
  dsimp only [Option.toList, List.cons_append, List.nil_append]
  refine gg_aldn dc_A_turnMotor_12 rfl rfl ?_
  refine gg_dup dc_A_turnMotor_13 rfl ?_
  refine gx_axi (k := 9) (s := 7) dc_A_turnMotor_14 lf_A_60 x0 hX rfl ⟨Nat.le_of_ble_eq_true rfl, Nat.le_of_ble_eq_true rfl⟩ rfl ?_
  refine gg_aldn dc_A_turnMotor_17 rfl rfl ?_
  refine gx_axi (k := 11) (s := 9) dc_A_turnMotor_18 lf_A_66 x0 hX rfl ⟨Nat.le_of_ble_eq_true rfl, Nat.le_of_ble_eq_true rfl⟩ rfl ?_
  refine gg_iadd dc_A_turnMotor_21 ?_
  refine gx_axp (k := 9) (s := 7) dc_A_turnMotor_22 lp_A_60 x0 hX hF rfl ⟨Nat.le_of_ble_eq_true rfl, Nat.le_of_ble_eq_true rfl⟩ rfl (Or.inl ⟨rfl, by decide⟩) (fun ν hX hF => ?_)
  refine gg_aldn dc_A_turnMotor_25 rfl rfl ?_
  refine gg_iconst (v := 0) dc_A_turnMotor_26 (by decide) ?_
  refine gx_axp (k := 11) (s := 9) dc_A_turnMotor_27 lp_A_66 x0 hX hF rfl ⟨Nat.le_of_ble_eq_true rfl, Nat.le_of_ble_eq_true rfl⟩ rfl (Or.inl ⟨rfl, by decide⟩) (fun ν hX hF => ?_)
  refine gg_aldn dc_A_turnMotor_30 rfl rfl ?_
  refine gg_aldn dc_A_turnMotor_31 rfl rfl ?_
  refine gx_axi (k := 9) (s := 7) dc_A_turnMotor_32 lf_A_60 x0 hX rfl ⟨Nat.le_of_ble_eq_true rfl, Nat.le_of_ble_eq_true rfl⟩ rfl ?_
  refine gg_aldn dc_A_turnMotor_35 rfl rfl ?_
  refine gx_axi (k := 10) (s := 8) dc_A_turnMotor_36 lf_A_63 x0 hX rfl ⟨Nat.le_of_ble_eq_true rfl, Nat.le_of_ble_eq_true rfl⟩ rfl ?_
  refine gg_aldn dc_A_turnMotor_39 rfl rfl ?_
  refine gx_axi (k := 9) (s := 7) dc_A_turnMotor_40 lf_A_60 x0 hX rfl ⟨Nat.le_of_ble_eq_true rfl, Nat.le_of_ble_eq_true rfl⟩ rfl ?_
  refine gg_aldn dc_A_turnMotor_43 rfl rfl ?_
  refine gg_iconst (v := 4) dc_A_turnMotor_44 (by decide) ?_
  refine gg_okV (sp_A_number hx hX (k := 4) rfl (by omega)) dc_A_turnMotor_45 ml_A_95 ce_A_number ⟨Nat.le_of_ble_eq_true rfl, Nat.le_of_ble_eq_true rfl⟩ x0 rfl rfl (Nat.le_of_ble_eq_true rfl) ⟨rfl, rfl⟩ ⟨Nat.le_of_ble_eq_true rfl, Nat.le_of_ble_eq_true rfl⟩ ?_
  refine gg_isub dc_A_turnMotor_48 ?_
  refine gg_okS (sp_J_max) dc_A_turnMotor_49 ml_A_108 ce_J_max ⟨Nat.le_of_ble_eq_true rfl, Nat.le_of_ble_eq_true rfl⟩ rfl (Nat.le_of_ble_eq_true rfl) ⟨rfl, rfl⟩ ⟨Nat.le_of_ble_eq_true rfl, Nat.le_of_ble_eq_true rfl⟩ ?_
  refine gg_okS (sp_J_min) dc_A_turnMotor_52 ml_A_142 ce_J_min ⟨Nat.le_of_ble_eq_true rfl, Nat.le_of_ble_eq_true rfl⟩ rfl (Nat.le_of_ble_eq_true rfl) ⟨rfl, rfl⟩ ⟨Nat.le_of_ble_eq_true rfl, Nat.le_of_ble_eq_true rfl⟩ ?_
  refine gx_axp (k := 10) (s := 8) dc_A_turnMotor_55 lp_A_63 x0 hX hF rfl ⟨Nat.le_of_ble_eq_true rfl, Nat.le_of_ble_eq_true rfl⟩ rfl (Or.inl ⟨rfl, by decide⟩) (fun ν hX hF => ?_)
  exact gg_vret dc_A_turnMotor_58 rfl ⟨Nat.le_of_ble_eq_true rfl, Nat.le_of_ble_eq_true rfl⟩ (⟨_, rfl, rfl, hX, hF⟩)
set_option maxRecDepth 100000 in
set_option maxHeartbeats 4000000 in
theorem sp_A_slip {Γ : cx_T} {τ : Nat × (Nat → sh_T)} {ν : Nat → Nat → Int32} {a : Nat} {S : Nat → Int32} (hx : sh_X τ.2 a) (hX : AX ν a S)  : mt_P Γ mk_A_slip [.ref a] (τ, ν) (ax_Q τ ν a (none) (sp_S S)) := by
  refine mt_of (L := [some (.ref a), none]) (by decide +kernel) (by simp [Value.category]) (Nat.le_of_ble_eq_true rfl) (lc_1_2 ()) ?_
  obtain ⟨x0, x1, x2, x3, x4, x5⟩ := id hx
  have hF : fr_P ν ν a := fr_rf
  refine gg_aldn dc_A_slip_0 rfl rfl ?_
  refine gx_axi (k := 11) (s := 9) dc_A_slip_1 lf_A_66 x0 hX rfl ⟨Nat.le_of_ble_eq_true rfl, Nat.le_of_ble_eq_true rfl⟩ rfl ?_
  refine gg_bipush (v := 32) dc_A_slip_4 (by decide) ?_
  refine gg_iclt dc_A_slip_6 (fun c_6 => ?_) (fun c_6 => ?_)
  · refine gg_aldn dc_A_slip_55 rfl rfl ?_
    refine gx_axi (k := 11) (s := 9) dc_A_slip_56 lf_A_66 x0 hX rfl ⟨Nat.le_of_ble_eq_true rfl, Nat.le_of_ble_eq_true rfl⟩ rfl ?_
    refine gg_bipush (v := (-32)) dc_A_slip_59 (by decide) ?_
    refine gg_icgt dc_A_slip_61 (fun c_61 => ?_) (fun c_61 => ?_)
    · refine gg_vret dc_A_slip_107 rfl ⟨Nat.le_of_ble_eq_true rfl, Nat.le_of_ble_eq_true rfl⟩ ?_
      refine ⟨_, rfl, rfl, ?_, hF⟩
      unfold sp_S; rw [if_pos c_6, if_pos c_61]; exact hX
    · refine gg_bipush (v := 32) dc_A_slip_64 (by decide) ?_
      refine gg_aldn dc_A_slip_66 rfl rfl ?_
      refine gx_axi (k := 11) (s := 9) dc_A_slip_67 lf_A_66 x0 hX rfl ⟨Nat.le_of_ble_eq_true rfl, Nat.le_of_ble_eq_true rfl⟩ rfl ?_
      refine gg_isub dc_A_slip_70 ?_
      refine gg_bipush (v := 64) dc_A_slip_71 (by decide) ?_
      refine gg_idiv dc_A_slip_73 (by decide) ?_
      refine gg_istn (i := 1) dc_A_slip_74 rfl (Nat.le_of_ble_eq_true rfl) rfl ?_
      dsimp only [List.set]
      refine gg_aldn dc_A_slip_75 rfl rfl ?_
      refine gg_iconst (v := 3) dc_A_slip_76 (by decide) ?_
      refine gg_ildn dc_A_slip_77 rfl rfl ?_
      refine gx_callA (sp_A_tally hx hX (k := 3) (s := 15) rfl (by omega) rfl) hF dc_A_slip_78 ml_A_163 ce_A_tally ⟨Nat.le_of_ble_eq_true rfl, Nat.le_of_ble_eq_true rfl⟩ x0 rfl rfl (Nat.le_of_ble_eq_true rfl) ⟨rfl, rfl⟩ ⟨Nat.le_of_ble_eq_true rfl, Nat.le_of_ble_eq_true rfl⟩ (fun ν hX hF => ?_)
      dsimp only [Option.toList, List.cons_append, List.nil_append]
      refine gg_aldn dc_A_slip_81 rfl rfl ?_
      refine gg_dup dc_A_slip_82 rfl ?_
      refine gx_axi (k := 12) (s := 10) dc_A_slip_83 lf_A_69 x0 hX rfl ⟨Nat.le_of_ble_eq_true rfl, Nat.le_of_ble_eq_true rfl⟩ rfl ?_
      refine gg_ildn dc_A_slip_86 rfl rfl ?_
      refine gg_bipush (v := 64) dc_A_slip_87 (by decide) ?_
      refine gg_imul dc_A_slip_89 ?_
      refine gg_isub dc_A_slip_90 ?_
      refine gx_axp (k := 12) (s := 10) dc_A_slip_91 lp_A_69 x0 hX hF rfl ⟨Nat.le_of_ble_eq_true rfl, Nat.le_of_ble_eq_true rfl⟩ rfl (Or.inl ⟨rfl, by decide⟩) (fun ν hX hF => ?_)
      refine gg_aldn dc_A_slip_94 rfl rfl ?_
      refine gg_dup dc_A_slip_95 rfl ?_
      refine gx_axi (k := 11) (s := 9) dc_A_slip_96 lf_A_66 x0 hX rfl ⟨Nat.le_of_ble_eq_true rfl, Nat.le_of_ble_eq_true rfl⟩ rfl ?_
      refine gg_ildn dc_A_slip_99 rfl rfl ?_
      refine gg_bipush (v := 64) dc_A_slip_100 (by decide) ?_
      refine gg_imul dc_A_slip_102 ?_
      refine gg_iadd dc_A_slip_103 ?_
      refine gx_axp (k := 11) (s := 9) dc_A_slip_104 lp_A_66 x0 hX hF rfl ⟨Nat.le_of_ble_eq_true rfl, Nat.le_of_ble_eq_true rfl⟩ rfl (Or.inl ⟨rfl, by decide⟩) (fun ν hX hF => ?_)
      refine gg_vret dc_A_slip_107 rfl ⟨Nat.le_of_ble_eq_true rfl, Nat.le_of_ble_eq_true rfl⟩ ?_
      refine ⟨_, rfl, rfl, ?_, hF⟩
      unfold sp_S; rw [if_pos c_6, if_neg c_61]; exact hX
  · refine gg_aldn dc_A_slip_9 rfl rfl ?_
    refine gx_axi (k := 11) (s := 9) dc_A_slip_10 lf_A_66 x0 hX rfl ⟨Nat.le_of_ble_eq_true rfl, Nat.le_of_ble_eq_true rfl⟩ rfl ?_
    refine gg_bipush (v := 32) dc_A_slip_13 (by decide) ?_
    refine gg_iadd dc_A_slip_15 ?_
    refine gg_bipush (v := 64) dc_A_slip_16 (by decide) ?_
    refine gg_idiv dc_A_slip_18 (by decide) ?_
    refine gg_istn (i := 1) dc_A_slip_19 rfl (Nat.le_of_ble_eq_true rfl) rfl ?_
    dsimp only [List.set]
    refine gg_aldn dc_A_slip_20 rfl rfl ?_
    refine gg_iconst (v := 2) dc_A_slip_21 (by decide) ?_
    refine gg_ildn dc_A_slip_22 rfl rfl ?_
    refine gx_callA (sp_A_tally hx hX (k := 2) (s := 14) rfl (by omega) rfl) hF dc_A_slip_23 ml_A_163 ce_A_tally ⟨Nat.le_of_ble_eq_true rfl, Nat.le_of_ble_eq_true rfl⟩ x0 rfl rfl (Nat.le_of_ble_eq_true rfl) ⟨rfl, rfl⟩ ⟨Nat.le_of_ble_eq_true rfl, Nat.le_of_ble_eq_true rfl⟩ (fun ν hX hF => ?_)
    dsimp only [Option.toList, List.cons_append, List.nil_append]
    refine gg_aldn dc_A_slip_26 rfl rfl ?_
    refine gg_dup dc_A_slip_27 rfl ?_
    refine gx_axi (k := 12) (s := 10) dc_A_slip_28 lf_A_69 x0 hX rfl ⟨Nat.le_of_ble_eq_true rfl, Nat.le_of_ble_eq_true rfl⟩ rfl ?_
    refine gg_ildn dc_A_slip_31 rfl rfl ?_
    refine gg_bipush (v := 64) dc_A_slip_32 (by decide) ?_
    refine gg_imul dc_A_slip_34 ?_
    refine gg_iadd dc_A_slip_35 ?_
    refine gx_axp (k := 12) (s := 10) dc_A_slip_36 lp_A_69 x0 hX hF rfl ⟨Nat.le_of_ble_eq_true rfl, Nat.le_of_ble_eq_true rfl⟩ rfl (Or.inl ⟨rfl, by decide⟩) (fun ν hX hF => ?_)
    refine gg_aldn dc_A_slip_39 rfl rfl ?_
    refine gg_dup dc_A_slip_40 rfl ?_
    refine gx_axi (k := 11) (s := 9) dc_A_slip_41 lf_A_66 x0 hX rfl ⟨Nat.le_of_ble_eq_true rfl, Nat.le_of_ble_eq_true rfl⟩ rfl ?_
    refine gg_ildn dc_A_slip_44 rfl rfl ?_
    refine gg_bipush (v := 64) dc_A_slip_45 (by decide) ?_
    refine gg_imul dc_A_slip_47 ?_
    refine gg_isub dc_A_slip_48 ?_
    refine gx_axp (k := 11) (s := 9) dc_A_slip_49 lp_A_66 x0 hX hF rfl ⟨Nat.le_of_ble_eq_true rfl, Nat.le_of_ble_eq_true rfl⟩ rfl (Or.inl ⟨rfl, by decide⟩) (fun ν hX hF => ?_)
    refine gg_goto dc_A_slip_52 ?_
    refine gg_vret dc_A_slip_107 rfl ⟨Nat.le_of_ble_eq_true rfl, Nat.le_of_ble_eq_true rfl⟩ ?_
    refine ⟨_, rfl, rfl, ?_, hF⟩
    unfold sp_S; rw [if_neg c_6]; exact hX
set_option maxRecDepth 100000 in
set_option maxHeartbeats 4000000 in
theorem sp_A_makeMicrosteps {Γ : cx_T} {τ : Nat × (Nat → sh_T)} {ν : Nat → Nat → Int32} {a : Nat} {S : Nat → Int32} (hx : sh_X τ.2 a) (hX : AX ν a S) {d k : Int32} : mt_P Γ mk_A_makeMicrosteps [.ref a, .int d, .int k] (τ, ν) (ax_Q τ ν a (none) (mm_S S d k)) := by
  refine mt_of (L := [some (.ref a), some (.int d), some (.int k), none, none]) (by decide +kernel) (by simp [Value.category]) (Nat.le_of_ble_eq_true rfl) (lc_3_5 ()) ?_
  obtain ⟨x0, x1, x2, x3, x4, x5⟩ := id hx
  have hF : fr_P ν ν a := fr_rf
  have hS0 : S 0 = S 0 := rfl
  refine gg_aldn dc_A_makeMicrosteps_0 rfl rfl ?_
  refine gg_okV (sp_A_stalls hx hX) dc_A_makeMicrosteps_1 ml_A_166 ce_A_stalls ⟨Nat.le_of_ble_eq_true rfl, Nat.le_of_ble_eq_true rfl⟩ x0 rfl rfl (Nat.le_of_ble_eq_true rfl) ⟨rfl, rfl⟩ ⟨Nat.le_of_ble_eq_true rfl, Nat.le_of_ble_eq_true rfl⟩ ?_
  refine gg_istn (i := 3) dc_A_makeMicrosteps_4 rfl (Nat.le_of_ble_eq_true rfl) rfl ?_
  dsimp only [List.set]
  refine gg_ildn dc_A_makeMicrosteps_5 rfl rfl ?_
  refine gg_ildn dc_A_makeMicrosteps_6 rfl rfl ?_
  refine gg_imul dc_A_makeMicrosteps_7 ?_
  refine gg_aldn dc_A_makeMicrosteps_8 rfl rfl ?_
  refine gg_iconst (v := 0) dc_A_makeMicrosteps_9 (by decide) ?_
  refine gg_okV (sp_A_number hx hX (k := 0) rfl (by omega)) dc_A_makeMicrosteps_10 ml_A_95 ce_A_number ⟨Nat.le_of_ble_eq_true rfl, Nat.le_of_ble_eq_true rfl⟩ x0 rfl rfl (Nat.le_of_ble_eq_true rfl) ⟨rfl, rfl⟩ ⟨Nat.le_of_ble_eq_true rfl, Nat.le_of_ble_eq_true rfl⟩ ?_
  refine gg_imul dc_A_makeMicrosteps_13 ?_
  refine gg_ist (i := 4) dc_A_makeMicrosteps_14 (Nat.le_of_ble_eq_true rfl) rfl ?_
  dsimp only [List.set]
  refine gg_aldn dc_A_makeMicrosteps_16 rfl rfl ?_
  refine gg_dup dc_A_makeMicrosteps_17 rfl ?_
  refine gx_axi (k := 8) (s := 6) dc_A_makeMicrosteps_18 lf_A_57 x0 hX rfl ⟨Nat.le_of_ble_eq_true rfl, Nat.le_of_ble_eq_true rfl⟩ rfl ?_
  refine gg_ild dc_A_makeMicrosteps_21 rfl ?_
  refine gg_iadd dc_A_makeMicrosteps_23 ?_
  refine gx_axp (k := 8) (s := 6) dc_A_makeMicrosteps_24 lp_A_57 x0 hX hF rfl ⟨Nat.le_of_ble_eq_true rfl, Nat.le_of_ble_eq_true rfl⟩ rfl (Or.inl ⟨rfl, by decide⟩) (fun ν hX hF => ?_)
  refine gg_aldn dc_A_makeMicrosteps_27 rfl rfl ?_
  refine gg_dup dc_A_makeMicrosteps_28 rfl ?_
  refine gx_axi (k := 11) (s := 9) dc_A_makeMicrosteps_29 lf_A_66 x0 hX rfl ⟨Nat.le_of_ble_eq_true rfl, Nat.le_of_ble_eq_true rfl⟩ rfl ?_
  refine gg_ild dc_A_makeMicrosteps_32 rfl ?_
  refine gg_iadd dc_A_makeMicrosteps_34 ?_
  refine gx_axp (k := 11) (s := 9) dc_A_makeMicrosteps_35 lp_A_66 x0 hX hF rfl ⟨Nat.le_of_ble_eq_true rfl, Nat.le_of_ble_eq_true rfl⟩ rfl (Or.inl ⟨rfl, by decide⟩) (fun ν hX hF => ?_)
  refine gg_aldn dc_A_makeMicrosteps_38 rfl rfl ?_
  refine gg_iconst (v := 0) dc_A_makeMicrosteps_39 (by decide) ?_
  refine gg_ildn dc_A_makeMicrosteps_40 rfl rfl ?_
  refine gx_callA (sp_A_tally hx hX (k := 0) (s := 12) rfl (by omega) rfl) hF dc_A_makeMicrosteps_41 ml_A_163 ce_A_tally ⟨Nat.le_of_ble_eq_true rfl, Nat.le_of_ble_eq_true rfl⟩ x0 rfl rfl (Nat.le_of_ble_eq_true rfl) ⟨rfl, rfl⟩ ⟨Nat.le_of_ble_eq_true rfl, Nat.le_of_ble_eq_true rfl⟩ (fun ν hX hF => ?_)
  dsimp only [Option.toList, List.cons_append, List.nil_append]
  refine gg_ildn dc_A_makeMicrosteps_44 rfl rfl ?_
  refine gg_ifeq dc_A_makeMicrosteps_45 (fun c_45 => ?_) (fun c_45 => ?_)
  · refine gg_aldn dc_A_makeMicrosteps_61 rfl rfl ?_
    refine gx_callA (sp_A_turnMotor hx hX) hF dc_A_makeMicrosteps_62 ml_A_183 ce_A_turnMotor ⟨Nat.le_of_ble_eq_true rfl, Nat.le_of_ble_eq_true rfl⟩ x0 rfl rfl (Nat.le_of_ble_eq_true rfl) ⟨rfl, rfl⟩ ⟨Nat.le_of_ble_eq_true rfl, Nat.le_of_ble_eq_true rfl⟩ (fun ν hX hF => ?_)
    dsimp only [Option.toList, List.cons_append, List.nil_append]
    refine gg_vret dc_A_makeMicrosteps_65 rfl ⟨Nat.le_of_ble_eq_true rfl, Nat.le_of_ble_eq_true rfl⟩ ?_
    refine ⟨_, rfl, rfl, ?_, hF⟩
    unfold mm_S; rw [if_neg (by rw [c_45]; decide)]; exact hX
  · refine gg_aldn dc_A_makeMicrosteps_48 rfl rfl ?_
    refine gg_iconst (v := 1) dc_A_makeMicrosteps_49 (by decide) ?_
    refine gg_ildn dc_A_makeMicrosteps_50 rfl rfl ?_
    refine gx_callA (sp_A_tally hx hX (k := 1) (s := 13) rfl (by omega) rfl) hF dc_A_makeMicrosteps_51 ml_A_163 ce_A_tally ⟨Nat.le_of_ble_eq_true rfl, Nat.le_of_ble_eq_true rfl⟩ x0 rfl rfl (Nat.le_of_ble_eq_true rfl) ⟨rfl, rfl⟩ ⟨Nat.le_of_ble_eq_true rfl, Nat.le_of_ble_eq_true rfl⟩ (fun ν hX hF => ?_)
    dsimp only [Option.toList, List.cons_append, List.nil_append]
    refine gg_aldn dc_A_makeMicrosteps_54 rfl rfl ?_
    refine gx_callA (sp_A_slip hx hX) hF dc_A_makeMicrosteps_55 ml_A_180 ce_A_slip ⟨Nat.le_of_ble_eq_true rfl, Nat.le_of_ble_eq_true rfl⟩ x0 rfl rfl (Nat.le_of_ble_eq_true rfl) ⟨rfl, rfl⟩ ⟨Nat.le_of_ble_eq_true rfl, Nat.le_of_ble_eq_true rfl⟩ (fun ν hX hF => ?_)
    dsimp only [Option.toList, List.cons_append, List.nil_append]
    refine gg_goto dc_A_makeMicrosteps_58 ?_
    refine gg_vret dc_A_makeMicrosteps_65 rfl ⟨Nat.le_of_ble_eq_true rfl, Nat.le_of_ble_eq_true rfl⟩ ?_
    refine ⟨_, rfl, rfl, ?_, hF⟩
    unfold mm_S; rw [if_pos (by unfold sl_S at c_45 ⊢; split at c_45 <;> simp_all)]; exact hX
