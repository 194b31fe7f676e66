/-! the reference: what a microstep does, moves -/
def em_S (S : Nat → Int32) (x : Int32) : Int32 := if ls_n S 42 = 0 then 0 else match ut_N (ls_P S 42) x (ls_n S 42) 0 with
  | 0 => ls_V S 42 0
  | k + 1 => if ls_n S 42 = k + 1 then ls_V S 42 k else ls_V S 42 k + dn_I ((ls_V S 42 (k + 1) - ls_V S 42 k) * (x - ls_P S 42 k)) (ls_P S 42 (k + 1) - ls_P S 42 k)
/-- no two comb points next to one another at one place -/
def nz_P (S : Nat → Int32) : Prop := ∀ i : Nat, i + 1 < ls_n S 42 → ¬ ls_P S 42 (i + 1) - ls_P S 42 i = 0
def to_M (S : Nat → Int32) : Int32 := if 0 ≤ S 1 - S 2 * S 3 / 100 then S 1 - S 2 * S 3 / 100 else 0
def fo_S (S : Nat → Int32) : Nat → Int32 := upd S 8 (if S 8 < S 7 - S 4 then S 7 - S 4 else if S 7 < S 8 then S 7 else S 8)
def m3_S (S : Nat → Int32) (d : Int32) : Nat → Int32 := upd (upd (upd S 12 (S 12 + 1)) 6 (S 6 + d * S 0)) 9 (S 9 + d * S 0)
def mt_S (T : Nat → Int32) : Nat → Int32 := fo_S (upd (upd (upd T 16 (T 16 + sz_I (T 9))) 7 (T 7 + T 9)) 9 0)
def mw_S (U : Nat → Int32) : Nat → Int32 := if U 9 < 32 then (if -32 < U 9 then U else upd (upd (upd U 15 (U 15 + 1)) 10 (U 10 - 64)) 9 (U 9 + 64)) else upd (upd (upd U 14 (U 14 + 1)) 10 (U 10 + 64)) 9 (U 9 - 64)
def mq_S (T : Nat → Int32) : Nat → Int32 := if to_M T < lo_S T (T 8) then mw_S (upd T 13 (T 13 + 1)) else mt_S T
def ms_S (S : Nat → Int32) (d : Int32) : Nat → Int32 := mq_S (m3_S S d)
def fi_S (d : Int32) : Nat → (Nat → Int32) → (Nat → Int32)
  | 0, S => S
  | f + 1, S => fi_S d f (ms_S S d)
def am_S (S : Nat → Int32) (x : Int32) : Int32 := x + em_S S x
def sn_I (x : Int32) : Int32 := if 0 ≤ x then 1 else -1
def mo_S (S : Nat → Int32) (x : Int32) : Nat → Int32 := fi_S (sn_I ((am_S S x - S 6) / S 0)) (sz_I ((am_S S x - S 6) / S 0)).toNatClampNeg S
theorem cn_le2 {x : Int32} {i : Nat} (h : x.toNatClampNeg ≤ i) (hi : i < 2 ^ 31) : x ≤ nI i := by
  rw [Int32.le_iff_toInt_le, nI_toInt hi]
  have : x.toInt.toNat ≤ i := h
  omega
theorem ms_o {S : Nat → Int32} {d : Int32} {j : Nat} (h : j < 6 ∨ j = 11 ∨ 17 ≤ j) : ms_S S d j = S j := by
  have h3 : m3_S S d j = S j := by unfold m3_S; rw [ud_ne (by omega), ud_ne (by omega), ud_ne (by omega)]
  unfold ms_S mq_S
  by_cases c : to_M (m3_S S d) < lo_S (m3_S S d) (m3_S S d 8)
  · rw [if_pos c]
    unfold mw_S
    split
    · split
      · rw [ud_ne (by omega), h3]
      · rw [ud_ne (by omega), ud_ne (by omega), ud_ne (by omega), ud_ne (by omega), h3]
    · rw [ud_ne (by omega), ud_ne (by omega), ud_ne (by omega), ud_ne (by omega), h3]
  · rw [if_neg c]
    unfold mt_S fo_S
    rw [ud_ne (by omega), ud_ne (by omega), ud_ne (by omega), ud_ne (by omega), h3]
theorem LK.of {S T : Nat → Int32} {b N : Nat} (h : LK S b N) (e : T b = S b) : LK T b N := by
  unfold LK ls_n at h ⊢
  rw [e]; exact h
theorem fi_o {d : Int32} {j : Nat} (h : j < 6 ∨ j = 11 ∨ 17 ≤ j) : ∀ (f : Nat) (S : Nat → Int32), fi_S d f S j = S j
  | 0, S => rfl
  | f + 1, S => (fi_o h f (ms_S S d)).trans (ms_o h)
theorem fi_s {d : Int32} : ∀ (f : Nat) (S : Nat → Int32), fi_S d (f + 1) S = fi_S d f (ms_S S d) := fun _ _ => rfl
set_option maxRecDepth 100000 in
set_option maxHeartbeats 4000000 in
theorem sp_M_loadOf {Γ : cx_T} {τ : Nat × (Nat → sh_T)} {ν : Nat → Nat → Int32} {X : Nat → Nat → Int32} {S : Nat → Int32} {m : Nat} (hm : sh_M τ.2 m) {x : Int32} (hL : LK S 21 10) : mt_P Γ mk_M_loadOf [.ref m, .int x] (τ, mv_N ν m (va_up X 1 S)) (fun v μ' => v = some (.int (lo_S S x)) ∧ μ' = (τ, mv_N ν m (va_up X 1 (S)))) := by
  refine mt_of (L := [some (.ref m), some (.int x), none]) (by decide +kernel) (by simp [Value.category]) (Nat.le_of_ble_eq_true rfl) (lc_2_3 ()) ?_
  unfold lo_S
  rcases hu : ut_N (ls_P S 21) x (ls_n S 21) 0 with _ | k
  · refine gg_aldn dc_M_loadOf_0 rfl rfl ?_
    refine gg_bipush (v := 21) dc_M_loadOf_1 (by decide) ?_
    refine gg_ildn dc_M_loadOf_3 rfl rfl ?_
    refine gg_okV (sp_M_upTo hm (b0 := 21) (N := 10) rfl hL (by omega)) dc_M_loadOf_4 ml_M_39 ce_M_upTo ⟨Nat.le_of_ble_eq_true rfl, Nat.le_of_ble_eq_true rfl⟩ hm.1 rfl rfl (Nat.le_of_ble_eq_true rfl) ⟨rfl, rfl⟩ ⟨Nat.le_of_ble_eq_true rfl, Nat.le_of_ble_eq_true rfl⟩ ?_
    rw [hu]
    refine gg_istn (i := 2) dc_M_loadOf_7 rfl (Nat.le_of_ble_eq_true rfl) rfl ?_
    dsimp only [List.set]
    refine gg_ildn dc_M_loadOf_8 rfl rfl ?_
    refine gg_ifne dc_M_loadOf_9 (fun c_9 => ?_) (fun c_9 => ?_)
    · exact absurd (by decide) c_9
    · refine gg_iconst (v := 0) dc_M_loadOf_12 (by decide) ?_
      refine gg_goto dc_M_loadOf_13 ?_
      exact gg_iret dc_M_loadOf_25 rfl ⟨Nat.le_of_ble_eq_true rfl, Nat.le_of_ble_eq_true rfl⟩ (⟨rfl, rfl⟩)
  · have hle := (ut_le (ls_P S 21) x (ls_n S 21) 0).2
    have hL1 := hL.1
    refine gg_aldn dc_M_loadOf_0 rfl rfl ?_
    refine gg_bipush (v := 21) dc_M_loadOf_1 (by decide) ?_
    refine gg_ildn dc_M_loadOf_3 rfl rfl ?_
    refine gg_okV (sp_M_upTo hm (b0 := 21) (N := 10) rfl hL (by omega)) dc_M_loadOf_4 ml_M_39 ce_M_upTo ⟨Nat.le_of_ble_eq_true rfl, Nat.le_of_ble_eq_true rfl⟩ hm.1 rfl rfl (Nat.le_of_ble_eq_true rfl) ⟨rfl, rfl⟩ ⟨Nat.le_of_ble_eq_true rfl, Nat.le_of_ble_eq_true rfl⟩ ?_
    rw [hu]
    refine gg_istn (i := 2) dc_M_loadOf_7 rfl (Nat.le_of_ble_eq_true rfl) rfl ?_
    dsimp only [List.set]
    refine gg_ildn dc_M_loadOf_8 rfl rfl ?_
    refine gg_ifne dc_M_loadOf_9 (fun c_9 => ?_) (fun c_9 => ?_)
    · refine gg_aldn dc_M_loadOf_16 rfl rfl ?_
      refine gg_bipush (v := 21) dc_M_loadOf_17 (by decide) ?_
      refine gg_ildn dc_M_loadOf_19 rfl rfl ?_
      refine gg_iconst (v := 1) dc_M_loadOf_20 (by decide) ?_
      refine gg_isub dc_M_loadOf_21 ?_
      refine gg_okV (sp_M_valueAt hm (b0 := 21) rfl (nI_pred k) (by omega)) dc_M_loadOf_22 ml_M_50 ce_M_valueAt ⟨Nat.le_of_ble_eq_true rfl, Nat.le_of_ble_eq_true rfl⟩ hm.1 rfl rfl (Nat.le_of_ble_eq_true rfl) ⟨rfl, rfl⟩ ⟨Nat.le_of_ble_eq_true rfl, Nat.le_of_ble_eq_true rfl⟩ ?_
      exact gg_iret dc_M_loadOf_25 rfl ⟨Nat.le_of_ble_eq_true rfl, Nat.le_of_ble_eq_true rfl⟩ (⟨rfl, rfl⟩)
    · exact absurd (show nI (k + 1) = nI 0 from c_9) (fun e => absurd ((nI_eq (by omega) (by omega)).mp e) (by omega))
set_option maxRecDepth 100000 in
set_option maxHeartbeats 4000000 in
theorem sp_M_errorOf {Γ : cx_T} {τ : Nat × (Nat → sh_T)} {ν : Nat → Nat → Int32} {X : Nat → Nat → Int32} {S : Nat → Int32} {m : Nat} (hm : sh_M τ.2 m) {x : Int32} (hC : LK S 42 10) (hz : nz_P S) : mt_P Γ mk_M_errorOf [.ref m, .int x] (τ, mv_N ν m (va_up X 1 S)) (fun v μ' => v = some (.int (em_S S x)) ∧ μ' = (τ, mv_N ν m (va_up X 1 (S)))) := by
  refine mt_of (L := [some (.ref m), some (.int x), none, none, none]) (by decide +kernel) (by simp [Value.category]) (Nat.le_of_ble_eq_true rfl) (lc_2_5 ()) ?_
  have hle := (ut_le (ls_P S 42) x (ls_n S 42) 0).2
  have hL1 := hC.1
  by_cases hn0 : ls_n S 42 = 0
  · refine gg_aldn dc_M_errorOf_0 rfl rfl ?_
    refine gg_getr dc_M_errorOf_1 lf_M_7 hm.1 rfl ?_
    refine gg_bipush (v := 42) dc_M_errorOf_4 (by decide) ?_
    refine gms_r (k := 42) dc_M_errorOf_6 hm ⟨rfl, Nat.le_of_ble_eq_true rfl⟩ ?_
    refine gx_top (hC.2) ?_
    refine gg_ifne dc_M_errorOf_7 (fun c_7 => ?_) (fun c_7 => ?_)
    · exact absurd (show nI (ls_n S 42) = 0 by rw [hn0]; rfl) c_7
    · refine gg_iconst (v := 0) dc_M_errorOf_10 (by decide) ?_
      exact gg_iret dc_M_errorOf_11 rfl ⟨Nat.le_of_ble_eq_true rfl, Nat.le_of_ble_eq_true rfl⟩ (⟨by unfold em_S; rw [if_pos hn0], rfl⟩)
  · rcases hu : ut_N (ls_P S 42) x (ls_n S 42) 0 with _ | k
    · refine gg_aldn dc_M_errorOf_0 rfl rfl ?_
      refine gg_getr dc_M_errorOf_1 lf_M_7 hm.1 rfl ?_
      refine gg_bipush (v := 42) dc_M_errorOf_4 (by decide) ?_
      refine gms_r (k := 42) dc_M_errorOf_6 hm ⟨rfl, Nat.le_of_ble_eq_true rfl⟩ ?_
      refine gx_top (hC.2) ?_
      refine gg_ifne dc_M_errorOf_7 (fun c_7 => ?_) (fun c_7 => ?_)
      · refine gg_aldn dc_M_errorOf_12 rfl rfl ?_
        refine gg_bipush (v := 42) dc_M_errorOf_13 (by decide) ?_
        refine gg_ildn dc_M_errorOf_15 rfl rfl ?_
        refine gg_okV (sp_M_upTo hm (b0 := 42) (N := 10) rfl hC (by omega)) dc_M_errorOf_16 ml_M_39 ce_M_upTo ⟨Nat.le_of_ble_eq_true rfl, Nat.le_of_ble_eq_true rfl⟩ hm.1 rfl rfl (Nat.le_of_ble_eq_true rfl) ⟨rfl, rfl⟩ ⟨Nat.le_of_ble_eq_true rfl, Nat.le_of_ble_eq_true rfl⟩ ?_
        rw [hu]
        refine gg_istn (i := 2) dc_M_errorOf_19 rfl (Nat.le_of_ble_eq_true rfl) rfl ?_
        dsimp only [List.set]
        refine gg_ildn dc_M_errorOf_20 rfl rfl ?_
        refine gg_ifne dc_M_errorOf_21 (fun c_21 => ?_) (fun c_21 => ?_)
        · exact absurd (by decide) c_21
        · refine gg_aldn dc_M_errorOf_24 rfl rfl ?_
          refine gg_bipush (v := 42) dc_M_errorOf_25 (by decide) ?_
          refine gg_iconst (v := 0) dc_M_errorOf_27 (by decide) ?_
          refine gg_okV (sp_M_valueAt hm (b0 := 42) (k0 := 0) rfl rfl (by omega)) dc_M_errorOf_28 ml_M_50 ce_M_valueAt ⟨Nat.le_of_ble_eq_true rfl, Nat.le_of_ble_eq_true rfl⟩ hm.1 rfl rfl (Nat.le_of_ble_eq_true rfl) ⟨rfl, rfl⟩ ⟨Nat.le_of_ble_eq_true rfl, Nat.le_of_ble_eq_true rfl⟩ ?_
          exact gg_iret dc_M_errorOf_31 rfl ⟨Nat.le_of_ble_eq_true rfl, Nat.le_of_ble_eq_true rfl⟩ (⟨by unfold em_S; rw [if_neg hn0, hu], rfl⟩)
      · exact absurd c_7 (fun e => hn0 ((nI_eq (b := 0) (by omega) (by omega)).mp e))
    · refine gg_aldn dc_M_errorOf_0 rfl rfl ?_
      refine gg_getr dc_M_errorOf_1 lf_M_7 hm.1 rfl ?_
      refine gg_bipush (v := 42) dc_M_errorOf_4 (by decide) ?_
      refine gms_r (k := 42) dc_M_errorOf_6 hm ⟨rfl, Nat.le_of_ble_eq_true rfl⟩ ?_
      refine gx_top (hC.2) ?_
      refine gg_ifne dc_M_errorOf_7 (fun c_7 => ?_) (fun c_7 => ?_)
      · refine gg_aldn dc_M_errorOf_12 rfl rfl ?_
        refine gg_bipush (v := 42) dc_M_errorOf_13 (by decide) ?_
        refine gg_ildn dc_M_errorOf_15 rfl rfl ?_
        refine gg_okV (sp_M_upTo hm (b0 := 42) (N := 10) rfl hC (by omega)) dc_M_errorOf_16 ml_M_39 ce_M_upTo ⟨Nat.le_of_ble_eq_true rfl, Nat.le_of_ble_eq_true rfl⟩ hm.1 rfl rfl (Nat.le_of_ble_eq_true rfl) ⟨rfl, rfl⟩ ⟨Nat.le_of_ble_eq_true rfl, Nat.le_of_ble_eq_true rfl⟩ ?_
        rw [hu]
        refine gg_istn (i := 2) dc_M_errorOf_19 rfl (Nat.le_of_ble_eq_true rfl) rfl ?_
        dsimp only [List.set]
        refine gg_ildn dc_M_errorOf_20 rfl rfl ?_
        refine gg_ifne dc_M_errorOf_21 (fun c_21 => ?_) (fun c_21 => ?_)
        · refine gg_aldn dc_M_errorOf_32 rfl rfl ?_
          refine gg_bipush (v := 42) dc_M_errorOf_33 (by decide) ?_
          refine gg_ildn dc_M_errorOf_35 rfl rfl ?_
          refine gg_iconst (v := 1) dc_M_errorOf_36 (by decide) ?_
          refine gg_isub dc_M_errorOf_37 ?_
          refine gg_okV (sp_M_valueAt hm (b0 := 42) rfl (nI_pred k) (by omega)) dc_M_errorOf_38 ml_M_50 ce_M_valueAt ⟨Nat.le_of_ble_eq_true rfl, Nat.le_of_ble_eq_true rfl⟩ hm.1 rfl rfl (Nat.le_of_ble_eq_true rfl) ⟨rfl, rfl⟩ ⟨Nat.le_of_ble_eq_true rfl, Nat.le_of_ble_eq_true rfl⟩ ?_
          refine gg_istn (i := 3) dc_M_errorOf_41 rfl (Nat.le_of_ble_eq_true rfl) rfl ?_
          dsimp only [List.set]
          refine gg_ildn dc_M_errorOf_42 rfl rfl ?_
          refine gg_aldn dc_M_errorOf_43 rfl rfl ?_
          refine gg_getr dc_M_errorOf_44 lf_M_7 hm.1 rfl ?_
          refine gg_bipush (v := 42) dc_M_errorOf_47 (by decide) ?_
          refine gms_r (k := 42) dc_M_errorOf_49 hm ⟨rfl, Nat.le_of_ble_eq_true rfl⟩ ?_
          refine gx_top (hC.2) ?_
          refine gg_icne dc_M_errorOf_50 (fun c_50 => ?_) (fun c_50 => ?_)
          · have hk9 : ¬ ls_n S 42 = k + 1 := fun e => c_50 (by rw [e])
            have hlt9 : k + 1 < ls_n S 42 := by omega
            refine gg_aldn dc_M_errorOf_55 rfl rfl ?_
            refine gg_bipush (v := 42) dc_M_errorOf_56 (by decide) ?_
            refine gg_ildn dc_M_errorOf_58 rfl rfl ?_
            refine gg_iconst (v := 1) dc_M_errorOf_59 (by decide) ?_
            refine gg_isub dc_M_errorOf_60 ?_
            refine gg_okV (sp_M_placeAt hm (b0 := 42) rfl (nI_pred k) (by omega)) dc_M_errorOf_61 ml_M_35 ce_M_placeAt ⟨Nat.le_of_ble_eq_true rfl, Nat.le_of_ble_eq_true rfl⟩ hm.1 rfl rfl (Nat.le_of_ble_eq_true rfl) ⟨rfl, rfl⟩ ⟨Nat.le_of_ble_eq_true rfl, Nat.le_of_ble_eq_true rfl⟩ ?_
            refine gg_ist (i := 4) dc_M_errorOf_64 (Nat.le_of_ble_eq_true rfl) rfl ?_
            dsimp only [List.set]
            refine gg_ildn dc_M_errorOf_66 rfl rfl ?_
            refine gg_aldn dc_M_errorOf_67 rfl rfl ?_
            refine gg_bipush (v := 42) dc_M_errorOf_68 (by decide) ?_
            refine gg_ildn dc_M_errorOf_70 rfl rfl ?_
            refine gg_okV (sp_M_valueAt hm (b0 := 42) rfl rfl (by omega)) dc_M_errorOf_71 ml_M_50 ce_M_valueAt ⟨Nat.le_of_ble_eq_true rfl, Nat.le_of_ble_eq_true rfl⟩ hm.1 rfl rfl (Nat.le_of_ble_eq_true rfl) ⟨rfl, rfl⟩ ⟨Nat.le_of_ble_eq_true rfl, Nat.le_of_ble_eq_true rfl⟩ ?_
            refine gg_ildn dc_M_errorOf_74 rfl rfl ?_
            refine gg_isub dc_M_errorOf_75 ?_
            refine gg_ildn dc_M_errorOf_76 rfl rfl ?_
            refine gg_ild dc_M_errorOf_77 rfl ?_
            refine gg_isub dc_M_errorOf_79 ?_
            refine gg_imul dc_M_errorOf_80 ?_
            refine gg_aldn dc_M_errorOf_81 rfl rfl ?_
            refine gg_bipush (v := 42) dc_M_errorOf_82 (by decide) ?_
            refine gg_ildn dc_M_errorOf_84 rfl rfl ?_
            refine gg_okV (sp_M_placeAt hm (b0 := 42) rfl rfl (by omega)) dc_M_errorOf_85 ml_M_35 ce_M_placeAt ⟨Nat.le_of_ble_eq_true rfl, Nat.le_of_ble_eq_true rfl⟩ hm.1 rfl rfl (Nat.le_of_ble_eq_true rfl) ⟨rfl, rfl⟩ ⟨Nat.le_of_ble_eq_true rfl, Nat.le_of_ble_eq_true rfl⟩ ?_
            refine gg_ild dc_M_errorOf_88 rfl ?_
            refine gg_isub dc_M_errorOf_90 ?_
            refine gg_okS (sp_M_down (hz k (by omega))) dc_M_errorOf_91 ml_M_110 ce_M_down ⟨Nat.le_of_ble_eq_true rfl, Nat.le_of_ble_eq_true rfl⟩ rfl (Nat.le_of_ble_eq_true rfl) ⟨rfl, rfl⟩ ⟨Nat.le_of_ble_eq_true rfl, Nat.le_of_ble_eq_true rfl⟩ ?_
            refine gg_iadd dc_M_errorOf_94 ?_
            exact gg_iret dc_M_errorOf_95 rfl ⟨Nat.le_of_ble_eq_true rfl, Nat.le_of_ble_eq_true rfl⟩ (⟨by unfold em_S; rw [if_neg hn0, hu]; show _ = some (Value.int (if _ then _ else _)); rw [if_neg hk9], rfl⟩)
          · refine gg_ildn dc_M_errorOf_53 rfl rfl ?_
            exact gg_iret dc_M_errorOf_54 rfl ⟨Nat.le_of_ble_eq_true rfl, Nat.le_of_ble_eq_true rfl⟩ (⟨by unfold em_S; rw [if_neg hn0, hu]; show _ = some (Value.int (if _ then _ else _)); rw [if_pos ((nI_eq (by omega) (by omega)).mp (by first | exact c_50.symm | exact (Classical.not_not.mp c_50).symm))], rfl⟩)
        · exact absurd (show nI (k + 1) = nI 0 from c_21) (fun e => absurd ((nI_eq (by omega) (by omega)).mp e) (by omega))
      · exact absurd c_7 (fun e => hn0 ((nI_eq (b := 0) (by omega) (by omega)).mp e))
set_option maxRecDepth 100000 in
set_option maxHeartbeats 4000000 in
theorem sp_M_torque {Γ : cx_T} {τ : Nat × (Nat → sh_T)} {ν : Nat → Nat → Int32} {X : Nat → Nat → Int32} {S : Nat → Int32} {m : Nat} (hm : sh_M τ.2 m)  : mt_P Γ mk_M_torque [.ref m] (τ, mv_N ν m (va_up X 1 S)) (fun v μ' => v = some (.int (to_M S)) ∧ μ' = (τ, mv_N ν m (va_up X 1 (S)))) := by
  refine mt_of (L := [some (.ref m), none]) (by decide +kernel) (by simp [Value.category]) (Nat.le_of_ble_eq_true rfl) (lc_1_2 ()) ?_
  refine gg_aldn dc_M_torque_0 rfl rfl ?_
  refine gg_getr dc_M_torque_1 lf_M_7 hm.1 rfl ?_
  refine gg_iconst (v := 1) dc_M_torque_4 (by decide) ?_
  refine gms_r (k := 1) dc_M_torque_5 hm ⟨rfl, Nat.le_of_ble_eq_true rfl⟩ ?_
  refine gg_aldn dc_M_torque_6 rfl rfl ?_
  refine gg_getr dc_M_torque_7 lf_M_7 hm.1 rfl ?_
  refine gg_iconst (v := 2) dc_M_torque_10 (by decide) ?_
  refine gms_r (k := 2) dc_M_torque_11 hm ⟨rfl, Nat.le_of_ble_eq_true rfl⟩ ?_
  refine gg_aldn dc_M_torque_12 rfl rfl ?_
  refine gg_getr dc_M_torque_13 lf_M_7 hm.1 rfl ?_
  refine gg_iconst (v := 3) dc_M_torque_16 (by decide) ?_
  refine gms_r (k := 3) dc_M_torque_17 hm ⟨rfl, Nat.le_of_ble_eq_true rfl⟩ ?_
  refine gg_imul dc_M_torque_18 ?_
  refine gg_bipush (v := 100) dc_M_torque_19 (by decide) ?_
  refine gg_idiv dc_M_torque_21 (by decide) ?_
  refine gg_isub dc_M_torque_22 ?_
  refine gg_istn (i := 1) dc_M_torque_23 rfl (Nat.le_of_ble_eq_true rfl) rfl ?_
  dsimp only [List.set]
  refine gg_ildn dc_M_torque_24 rfl rfl ?_
  refine gg_ifge dc_M_torque_25 (fun c_25 => ?_) (fun c_25 => ?_)
  · refine gg_ildn dc_M_torque_32 rfl rfl ?_
    exact gg_iret dc_M_torque_33 rfl ⟨Nat.le_of_ble_eq_true rfl, Nat.le_of_ble_eq_true rfl⟩ (⟨by unfold to_M; rw [if_pos c_25], rfl⟩)
  · refine gg_iconst (v := 0) dc_M_torque_28 (by decide) ?_
    refine gg_goto dc_M_torque_29 ?_
    exact gg_iret dc_M_torque_33 rfl ⟨Nat.le_of_ble_eq_true rfl, Nat.le_of_ble_eq_true rfl⟩ (⟨by unfold to_M; rw [if_neg c_25], rfl⟩)
set_option maxRecDepth 100000 in
set_option maxHeartbeats 4000000 in
theorem sp_M_follows {Γ : cx_T} {τ : Nat × (Nat → sh_T)} {ν : Nat → Nat → Int32} {X : Nat → Nat → Int32} {S : Nat → Int32} {m : Nat} (hm : sh_M τ.2 m)  : mt_P Γ mk_M_follows [.ref m] (τ, mv_N ν m (va_up X 1 S)) (fun v μ' => v = none ∧ μ' = (τ, mv_N ν m (va_up X 1 (fo_S S)))) := by
  refine mt_of (L := [some (.ref m), none]) (by decide +kernel) (by simp [Value.category]) (Nat.le_of_ble_eq_true rfl) (lc_1_2 ()) ?_
  refine gg_aldn dc_M_follows_0 rfl rfl ?_
  refine gg_getr dc_M_follows_1 lf_M_7 hm.1 rfl ?_
  refine gg_bipush (v := 7) dc_M_follows_4 (by decide) ?_
  refine gms_r (k := 7) dc_M_follows_6 hm ⟨rfl, Nat.le_of_ble_eq_true rfl⟩ ?_
  refine gg_aldn dc_M_follows_7 rfl rfl ?_
  refine gg_getr dc_M_follows_8 lf_M_7 hm.1 rfl ?_
  refine gg_iconst (v := 4) dc_M_follows_11 (by decide) ?_
  refine gms_r (k := 4) dc_M_follows_12 hm ⟨rfl, Nat.le_of_ble_eq_true rfl⟩ ?_
  refine gg_isub dc_M_follows_13 ?_
  refine gg_istn (i := 1) dc_M_follows_14 rfl (Nat.le_of_ble_eq_true rfl) rfl ?_
  dsimp only [List.set]
  refine gg_aldn dc_M_follows_15 rfl rfl ?_
  refine gg_getr dc_M_follows_16 lf_M_7 hm.1 rfl ?_
  refine gg_bipush (v := 8) dc_M_follows_19 (by decide) ?_
  refine gg_aldn dc_M_follows_21 rfl rfl ?_
  refine gg_getr dc_M_follows_22 lf_M_7 hm.1 rfl ?_
  refine gg_bipush (v := 8) dc_M_follows_25 (by decide) ?_
  refine gms_r (k := 8) dc_M_follows_27 hm ⟨rfl, Nat.le_of_ble_eq_true rfl⟩ ?_
  refine gg_ildn dc_M_follows_28 rfl rfl ?_
  refine gg_icge dc_M_follows_29 (fun c_29 => ?_) (fun c_29 => ?_)
  · refine gg_aldn dc_M_follows_36 rfl rfl ?_
    refine gg_getr dc_M_follows_37 lf_M_7 hm.1 rfl ?_
    refine gg_bipush (v := 8) dc_M_follows_40 (by decide) ?_
    refine gms_r (k := 8) dc_M_follows_42 hm ⟨rfl, Nat.le_of_ble_eq_true rfl⟩ ?_
    refine gg_aldn dc_M_follows_43 rfl rfl ?_
    refine gg_getr dc_M_follows_44 lf_M_7 hm.1 rfl ?_
    refine gg_bipush (v := 7) dc_M_follows_47 (by decide) ?_
    refine gms_r (k := 7) dc_M_follows_49 hm ⟨rfl, Nat.le_of_ble_eq_true rfl⟩ ?_
    refine gg_icle dc_M_follows_50 (fun c_50 => ?_) (fun c_50 => ?_)
    · refine gg_aldn dc_M_follows_63 rfl rfl ?_
      refine gg_getr dc_M_follows_64 lf_M_7 hm.1 rfl ?_
      refine gg_bipush (v := 8) dc_M_follows_67 (by decide) ?_
      refine gms_r (k := 8) dc_M_follows_69 hm ⟨rfl, Nat.le_of_ble_eq_true rfl⟩ ?_
      refine gms_w (k := 8) dc_M_follows_70 hm ⟨rfl, Nat.le_of_ble_eq_true rfl⟩ ?_
      exact gg_vret dc_M_follows_71 rfl ⟨Nat.le_of_ble_eq_true rfl, Nat.le_of_ble_eq_true rfl⟩ (⟨rfl, congrArg (fun z => (τ, mv_N ν m (va_up X 1 z))) (by unfold fo_S; rw [if_neg (Int32.not_lt.mpr c_29), if_neg (Int32.not_lt.mpr c_50)])⟩)
    · refine gg_aldn dc_M_follows_53 rfl rfl ?_
      refine gg_getr dc_M_follows_54 lf_M_7 hm.1 rfl ?_
      refine gg_bipush (v := 7) dc_M_follows_57 (by decide) ?_
      refine gms_r (k := 7) dc_M_follows_59 hm ⟨rfl, Nat.le_of_ble_eq_true rfl⟩ ?_
      refine gg_goto dc_M_follows_60 ?_
      refine gms_w (k := 8) dc_M_follows_70 hm ⟨rfl, Nat.le_of_ble_eq_true rfl⟩ ?_
      exact gg_vret dc_M_follows_71 rfl ⟨Nat.le_of_ble_eq_true rfl, Nat.le_of_ble_eq_true rfl⟩ (⟨rfl, congrArg (fun z => (τ, mv_N ν m (va_up X 1 z))) (by unfold fo_S; rw [if_neg (Int32.not_lt.mpr c_29), if_pos (Int32.not_le.mp c_50)])⟩)
  · refine gg_ildn dc_M_follows_32 rfl rfl ?_
    refine gg_goto dc_M_follows_33 ?_
    refine gms_w (k := 8) dc_M_follows_70 hm ⟨rfl, Nat.le_of_ble_eq_true rfl⟩ ?_
    exact gg_vret dc_M_follows_71 rfl ⟨Nat.le_of_ble_eq_true rfl, Nat.le_of_ble_eq_true rfl⟩ (⟨rfl, congrArg (fun z => (τ, mv_N ν m (va_up X 1 z))) (by unfold fo_S; rw [if_pos (Int32.not_le.mp c_29)])⟩)
set_option maxRecDepth 100000 in
set_option maxHeartbeats 4000000 in
theorem sp_M_microstep {Γ : cx_T} {τ : Nat × (Nat → sh_T)} {ν : Nat → Nat → Int32} {X : Nat → Nat → Int32} {S : Nat → Int32} {m : Nat} (hm : sh_M τ.2 m) {d : Int32} (hL : LK S 21 10) : mt_P Γ mk_M_microstep [.ref m, .int d] (τ, mv_N ν m (va_up X 1 S)) (fun v μ' => v = none ∧ μ' = (τ, mv_N ν m (va_up X 1 (ms_S S d)))) := by
  refine mt_of (L := [some (.ref m), some (.int d)]) (by decide +kernel) (by simp [Value.category]) (Nat.le_of_ble_eq_true rfl) (lc_2_2 ()) ?_
  refine gg_aldn dc_M_microstep_0 rfl rfl ?_
  refine gg_getr dc_M_microstep_1 lf_M_7 hm.1 rfl ?_
  refine gg_bipush (v := 12) dc_M_microstep_4 (by decide) ?_
  refine gg_dup2 dc_M_microstep_6 rfl rfl ?_
  refine gms_r (k := 12) dc_M_microstep_7 hm ⟨rfl, Nat.le_of_ble_eq_true rfl⟩ ?_
  refine gg_iconst (v := 1) dc_M_microstep_8 (by decide) ?_
  refine gg_iadd dc_M_microstep_9 ?_
  refine gms_w (k := 12) dc_M_microstep_10 hm ⟨rfl, Nat.le_of_ble_eq_true rfl⟩ ?_
  refine gg_aldn dc_M_microstep_11 rfl rfl ?_
  refine gg_getr dc_M_microstep_12 lf_M_7 hm.1 rfl ?_
  refine gg_bipush (v := 6) dc_M_microstep_15 (by decide) ?_
  refine gg_dup2 dc_M_microstep_17 rfl rfl ?_
  refine gms_r (k := 6) dc_M_microstep_18 hm ⟨rfl, Nat.le_of_ble_eq_true rfl⟩ ?_
  refine gg_ildn dc_M_microstep_19 rfl rfl ?_
  refine gg_aldn dc_M_microstep_20 rfl rfl ?_
  refine gg_getr dc_M_microstep_21 lf_M_7 hm.1 rfl ?_
  refine gg_iconst (v := 0) dc_M_microstep_24 (by decide) ?_
  refine gms_r (k := 0) dc_M_microstep_25 hm ⟨rfl, Nat.le_of_ble_eq_true rfl⟩ ?_
  refine gg_imul dc_M_microstep_26 ?_
  refine gg_iadd dc_M_microstep_27 ?_
  refine gms_w (k := 6) dc_M_microstep_28 hm ⟨rfl, Nat.le_of_ble_eq_true rfl⟩ ?_
  refine gg_aldn dc_M_microstep_29 rfl rfl ?_
  refine gg_getr dc_M_microstep_30 lf_M_7 hm.1 rfl ?_
  refine gg_bipush (v := 9) dc_M_microstep_33 (by decide) ?_
  refine gg_dup2 dc_M_microstep_35 rfl rfl ?_
  refine gms_r (k := 9) dc_M_microstep_36 hm ⟨rfl, Nat.le_of_ble_eq_true rfl⟩ ?_
  refine gg_ildn dc_M_microstep_37 rfl rfl ?_
  refine gg_aldn dc_M_microstep_38 rfl rfl ?_
  refine gg_getr dc_M_microstep_39 lf_M_7 hm.1 rfl ?_
  refine gg_iconst (v := 0) dc_M_microstep_42 (by decide) ?_
  refine gms_r (k := 0) dc_M_microstep_43 hm ⟨rfl, Nat.le_of_ble_eq_true rfl⟩ ?_
  refine gg_imul dc_M_microstep_44 ?_
  refine gg_iadd dc_M_microstep_45 ?_
  refine gms_w (k := 9) dc_M_microstep_46 hm ⟨rfl, Nat.le_of_ble_eq_true rfl⟩ ?_
  refine gg_aldn dc_M_microstep_47 rfl rfl ?_
  refine gg_okV (sp_M_torque hm) dc_M_microstep_48 ml_M_113 ce_M_torque ⟨Nat.le_of_ble_eq_true rfl, Nat.le_of_ble_eq_true rfl⟩ hm.1 rfl rfl (Nat.le_of_ble_eq_true rfl) ⟨rfl, rfl⟩ ⟨Nat.le_of_ble_eq_true rfl, Nat.le_of_ble_eq_true rfl⟩ ?_
  refine gg_aldn dc_M_microstep_51 rfl rfl ?_
  refine gg_aldn dc_M_microstep_52 rfl rfl ?_
  refine gg_getr dc_M_microstep_53 lf_M_7 hm.1 rfl ?_
  refine gg_bipush (v := 8) dc_M_microstep_56 (by decide) ?_
  refine gms_r (k := 8) dc_M_microstep_58 hm ⟨rfl, Nat.le_of_ble_eq_true rfl⟩ ?_
  refine gg_okV (sp_M_loadOf hm (hL.of rfl)) dc_M_microstep_59 ml_M_116 ce_M_loadOf ⟨Nat.le_of_ble_eq_true rfl, Nat.le_of_ble_eq_true rfl⟩ hm.1 rfl rfl (Nat.le_of_ble_eq_true rfl) ⟨rfl, rfl⟩ ⟨Nat.le_of_ble_eq_true rfl, Nat.le_of_ble_eq_true rfl⟩ ?_
  refine gg_iclt dc_M_microstep_62 (fun c_62 => ?_) (fun c_62 => ?_)
  · refine gg_aldn dc_M_microstep_115 rfl rfl ?_
    refine gg_getr dc_M_microstep_116 lf_M_7 hm.1 rfl ?_
    refine gg_bipush (v := 13) dc_M_microstep_119 (by decide) ?_
    refine gg_dup2 dc_M_microstep_121 rfl rfl ?_
    refine gms_r (k := 13) dc_M_microstep_122 hm ⟨rfl, Nat.le_of_ble_eq_true rfl⟩ ?_
    refine gg_iconst (v := 1) dc_M_microstep_123 (by decide) ?_
    refine gg_iadd dc_M_microstep_124 ?_
    refine gms_w (k := 13) dc_M_microstep_125 hm ⟨rfl, Nat.le_of_ble_eq_true rfl⟩ ?_
    refine gg_aldn dc_M_microstep_126 rfl rfl ?_
    refine gg_getr dc_M_microstep_127 lf_M_7 hm.1 rfl ?_
    refine gg_bipush (v := 9) dc_M_microstep_130 (by decide) ?_
    refine gms_r (k := 9) dc_M_microstep_132 hm ⟨rfl, Nat.le_of_ble_eq_true rfl⟩ ?_
    refine gg_bipush (v := 32) dc_M_microstep_133 (by decide) ?_
    refine gg_iclt dc_M_microstep_135 (fun c_135 => ?_) (fun c_135 => ?_)
    · refine gg_aldn dc_M_microstep_176 rfl rfl ?_
      refine gg_getr dc_M_microstep_177 lf_M_7 hm.1 rfl ?_
      refine gg_bipush (v := 9) dc_M_microstep_180 (by decide) ?_
      refine gms_r (k := 9) dc_M_microstep_182 hm ⟨rfl, Nat.le_of_ble_eq_true rfl⟩ ?_
      refine gg_bipush (v := (-32)) dc_M_microstep_183 (by decide) ?_
      refine gg_icgt dc_M_microstep_185 (fun c_185 => ?_) (fun c_185 => ?_)
      · exact gg_vret dc_M_microstep_223 rfl ⟨Nat.le_of_ble_eq_true rfl, Nat.le_of_ble_eq_true rfl⟩ (⟨rfl, congrArg (fun z => (τ, mv_N ν m (va_up X 1 z))) (show _ = ms_S S d from (((if_pos c_185).symm.trans (if_pos c_135).symm).trans (if_pos c_62).symm))⟩)
      · refine gg_aldn dc_M_microstep_188 rfl rfl ?_
        refine gg_getr dc_M_microstep_189 lf_M_7 hm.1 rfl ?_
        refine gg_bipush (v := 15) dc_M_microstep_192 (by decide) ?_
        refine gg_dup2 dc_M_microstep_194 rfl rfl ?_
        refine gms_r (k := 15) dc_M_microstep_195 hm ⟨rfl, Nat.le_of_ble_eq_true rfl⟩ ?_
        refine gg_iconst (v := 1) dc_M_microstep_196 (by decide) ?_
        refine gg_iadd dc_M_microstep_197 ?_
        refine gms_w (k := 15) dc_M_microstep_198 hm ⟨rfl, Nat.le_of_ble_eq_true rfl⟩ ?_
        refine gg_aldn dc_M_microstep_199 rfl rfl ?_
        refine gg_getr dc_M_microstep_200 lf_M_7 hm.1 rfl ?_
        refine gg_bipush (v := 10) dc_M_microstep_203 (by decide) ?_
        refine gg_dup2 dc_M_microstep_205 rfl rfl ?_
        refine gms_r (k := 10) dc_M_microstep_206 hm ⟨rfl, Nat.le_of_ble_eq_true rfl⟩ ?_
        refine gg_bipush (v := 64) dc_M_microstep_207 (by decide) ?_
        refine gg_isub dc_M_microstep_209 ?_
        refine gms_w (k := 10) dc_M_microstep_210 hm ⟨rfl, Nat.le_of_ble_eq_true rfl⟩ ?_
        refine gg_aldn dc_M_microstep_211 rfl rfl ?_
        refine gg_getr dc_M_microstep_212 lf_M_7 hm.1 rfl ?_
        refine gg_bipush (v := 9) dc_M_microstep_215 (by decide) ?_
        refine gg_dup2 dc_M_microstep_217 rfl rfl ?_
        refine gms_r (k := 9) dc_M_microstep_218 hm ⟨rfl, Nat.le_of_ble_eq_true rfl⟩ ?_
        refine gg_bipush (v := 64) dc_M_microstep_219 (by decide) ?_
        refine gg_iadd dc_M_microstep_221 ?_
        refine gms_w (k := 9) dc_M_microstep_222 hm ⟨rfl, Nat.le_of_ble_eq_true rfl⟩ ?_
        exact gg_vret dc_M_microstep_223 rfl ⟨Nat.le_of_ble_eq_true rfl, Nat.le_of_ble_eq_true rfl⟩ (⟨rfl, congrArg (fun z => (τ, mv_N ν m (va_up X 1 z))) (show _ = ms_S S d from (((if_neg c_185).symm.trans (if_pos c_135).symm).trans (if_pos c_62).symm))⟩)
    · refine gg_aldn dc_M_microstep_138 rfl rfl ?_
      refine gg_getr dc_M_microstep_139 lf_M_7 hm.1 rfl ?_
      refine gg_bipush (v := 14) dc_M_microstep_142 (by decide) ?_
      refine gg_dup2 dc_M_microstep_144 rfl rfl ?_
      refine gms_r (k := 14) dc_M_microstep_145 hm ⟨rfl, Nat.le_of_ble_eq_true rfl⟩ ?_
      refine gg_iconst (v := 1) dc_M_microstep_146 (by decide) ?_
      refine gg_iadd dc_M_microstep_147 ?_
      refine gms_w (k := 14) dc_M_microstep_148 hm ⟨rfl, Nat.le_of_ble_eq_true rfl⟩ ?_
      refine gg_aldn dc_M_microstep_149 rfl rfl ?_
      refine gg_getr dc_M_microstep_150 lf_M_7 hm.1 rfl ?_
      refine gg_bipush (v := 10) dc_M_microstep_153 (by decide) ?_
      refine gg_dup2 dc_M_microstep_155 rfl rfl ?_
      refine gms_r (k := 10) dc_M_microstep_156 hm ⟨rfl, Nat.le_of_ble_eq_true rfl⟩ ?_
      refine gg_bipush (v := 64) dc_M_microstep_157 (by decide) ?_
      refine gg_iadd dc_M_microstep_159 ?_
      refine gms_w (k := 10) dc_M_microstep_160 hm ⟨rfl, Nat.le_of_ble_eq_true rfl⟩ ?_
      refine gg_aldn dc_M_microstep_161 rfl rfl ?_
      refine gg_getr dc_M_microstep_162 lf_M_7 hm.1 rfl ?_
      refine gg_bipush (v := 9) dc_M_microstep_165 (by decide) ?_
      refine gg_dup2 dc_M_microstep_167 rfl rfl ?_
      refine gms_r (k := 9) dc_M_microstep_168 hm ⟨rfl, Nat.le_of_ble_eq_true rfl⟩ ?_
      refine gg_bipush (v := 64) dc_M_microstep_169 (by decide) ?_
      refine gg_isub dc_M_microstep_171 ?_
      refine gms_w (k := 9) dc_M_microstep_172 hm ⟨rfl, Nat.le_of_ble_eq_true rfl⟩ ?_
      refine gg_goto dc_M_microstep_173 ?_
      exact gg_vret dc_M_microstep_223 rfl ⟨Nat.le_of_ble_eq_true rfl, Nat.le_of_ble_eq_true rfl⟩ (⟨rfl, congrArg (fun z => (τ, mv_N ν m (va_up X 1 z))) (show _ = ms_S S d from ((if_neg c_135).symm.trans (if_pos c_62).symm))⟩)
  · refine gg_aldn dc_M_microstep_65 rfl rfl ?_
    refine gg_getr dc_M_microstep_66 lf_M_7 hm.1 rfl ?_
    refine gg_bipush (v := 16) dc_M_microstep_69 (by decide) ?_
    refine gg_dup2 dc_M_microstep_71 rfl rfl ?_
    refine gms_r (k := 16) dc_M_microstep_72 hm ⟨rfl, Nat.le_of_ble_eq_true rfl⟩ ?_
    refine gg_aldn dc_M_microstep_73 rfl rfl ?_
    refine gg_getr dc_M_microstep_74 lf_M_7 hm.1 rfl ?_
    refine gg_bipush (v := 9) dc_M_microstep_77 (by decide) ?_
    refine gms_r (k := 9) dc_M_microstep_79 hm ⟨rfl, Nat.le_of_ble_eq_true rfl⟩ ?_
    refine gg_okS (sp_M_size) dc_M_microstep_80 ml_M_120 ce_M_size ⟨Nat.le_of_ble_eq_true rfl, Nat.le_of_ble_eq_true rfl⟩ rfl (Nat.le_of_ble_eq_true rfl) ⟨rfl, rfl⟩ ⟨Nat.le_of_ble_eq_true rfl, Nat.le_of_ble_eq_true rfl⟩ ?_
    refine gg_iadd dc_M_microstep_83 ?_
    refine gms_w (k := 16) dc_M_microstep_84 hm ⟨rfl, Nat.le_of_ble_eq_true rfl⟩ ?_
    refine gg_aldn dc_M_microstep_85 rfl rfl ?_
    refine gg_getr dc_M_microstep_86 lf_M_7 hm.1 rfl ?_
    refine gg_bipush (v := 7) dc_M_microstep_89 (by decide) ?_
    refine gg_dup2 dc_M_microstep_91 rfl rfl ?_
    refine gms_r (k := 7) dc_M_microstep_92 hm ⟨rfl, Nat.le_of_ble_eq_true rfl⟩ ?_
    refine gg_aldn dc_M_microstep_93 rfl rfl ?_
    refine gg_getr dc_M_microstep_94 lf_M_7 hm.1 rfl ?_
    refine gg_bipush (v := 9) dc_M_microstep_97 (by decide) ?_
    refine gms_r (k := 9) dc_M_microstep_99 hm ⟨rfl, Nat.le_of_ble_eq_true rfl⟩ ?_
    refine gg_iadd dc_M_microstep_100 ?_
    refine gms_w (k := 7) dc_M_microstep_101 hm ⟨rfl, Nat.le_of_ble_eq_true rfl⟩ ?_
    refine gg_aldn dc_M_microstep_102 rfl rfl ?_
    refine gg_getr dc_M_microstep_103 lf_M_7 hm.1 rfl ?_
    refine gg_bipush (v := 9) dc_M_microstep_106 (by decide) ?_
    refine gg_iconst (v := 0) dc_M_microstep_108 (by decide) ?_
    refine gms_w (k := 9) dc_M_microstep_109 hm ⟨rfl, Nat.le_of_ble_eq_true rfl⟩ ?_
    refine gg_aldn dc_M_microstep_110 rfl rfl ?_
    refine gg_okVv (sp_M_follows hm) dc_M_microstep_111 ml_M_123 ce_M_follows ⟨Nat.le_of_ble_eq_true rfl, Nat.le_of_ble_eq_true rfl⟩ hm.1 rfl rfl (Nat.le_of_ble_eq_true rfl) ⟨rfl, rfl⟩ ⟨Nat.le_of_ble_eq_true rfl, Nat.le_of_ble_eq_true rfl⟩ ?_
    exact gg_vret dc_M_microstep_114 rfl ⟨Nat.le_of_ble_eq_true rfl, Nat.le_of_ble_eq_true rfl⟩ (⟨rfl, congrArg (fun z => (τ, mv_N ν m (va_up X 1 z))) (show _ = ms_S S d from (if_neg c_62).symm)⟩)
set_option maxRecDepth 100000 in
set_option maxHeartbeats 4000000 in
theorem sp_M_aimOf {Γ : cx_T} {τ : Nat × (Nat → sh_T)} {ν : Nat → Nat → Int32} {X : Nat → Nat → Int32} {S : Nat → Int32} {m : Nat} (hm : sh_M τ.2 m) {x : Int32} (hC : LK S 42 10) (hz : nz_P S) : mt_P Γ mk_M_aimOf [.ref m, .int x] (τ, mv_N ν m (va_up X 1 S)) (fun v μ' => v = some (.int (am_S S x)) ∧ μ' = (τ, mv_N ν m (va_up X 1 (S)))) := by
  refine mt_of (L := [some (.ref m), some (.int x)]) (by decide +kernel) (by simp [Value.category]) (Nat.le_of_ble_eq_true rfl) (lc_2_2 ()) ?_
  refine gg_ildn dc_M_aimOf_0 rfl rfl ?_
  refine gg_aldn dc_M_aimOf_1 rfl rfl ?_
  refine gg_ildn dc_M_aimOf_2 rfl rfl ?_
  refine gg_okV (sp_M_errorOf hm hC hz) dc_M_aimOf_3 ml_M_126 ce_M_errorOf ⟨Nat.le_of_ble_eq_true rfl, Nat.le_of_ble_eq_true rfl⟩ hm.1 rfl rfl (Nat.le_of_ble_eq_true rfl) ⟨rfl, rfl⟩ ⟨Nat.le_of_ble_eq_true rfl, Nat.le_of_ble_eq_true rfl⟩ ?_
  refine gg_iadd dc_M_aimOf_6 ?_
  exact gg_iret dc_M_aimOf_7 rfl ⟨Nat.le_of_ble_eq_true rfl, Nat.le_of_ble_eq_true rfl⟩ (⟨rfl, rfl⟩)
set_option maxRecDepth 100000 in
set_option maxHeartbeats 4000000 in
theorem sp_M_moves {Γ : cx_T} {τ : Nat × (Nat → sh_T)} {ν : Nat → Nat → Int32} {X : Nat → Nat → Int32} {S : Nat → Int32} {m : Nat} (hm : sh_M τ.2 m) {x : Int32} (hL : LK S 21 10) (hC : LK S 42 10) (hz : nz_P S) (h0 : ¬ S 0 = 0) : mt_P Γ mk_M_moves [.ref m, .int x] (τ, mv_N ν m (va_up X 1 S)) (fun v μ' => v = none ∧ μ' = (τ, mv_N ν m (va_up X 1 (mo_S S x)))) := by
  refine mt_of (L := [some (.ref m), some (.int x), none, none, none]) (by decide +kernel) (by simp [Value.category]) (Nat.le_of_ble_eq_true rfl) (lc_2_5 ()) ?_
  have loop : ∀ (st d : Int32) (R : Nat → Int32) (f i : Nat) (S : Nat → Int32), i + f = (sz_I st).toNatClampNeg → LK S 21 10 → fi_S d f S = R → gg_P Γ mk_M_moves (fun v μ' => v = none ∧ μ' = (τ, mv_N ν m (va_up X 1 R))) 0 0 34 [some (.ref m), some (.int x), some (.int st), some (.int d), some (.int (nI i))] [] (τ, mv_N ν m (va_up X 1 S)) := by
    intro st d R f
    have hz0 : (sz_I st).toNatClampNeg < 2 ^ 31 := by
      have := (sz_I st).toInt_lt
      show (sz_I st).toInt.toNat < _
      omega
    induction f with
    | zero =>
      intro i S hi hL hR
      refine gg_ild dc_M_moves_34 rfl ?_
      refine gg_ildn dc_M_moves_36 rfl rfl ?_
      refine gg_okS (sp_M_size) dc_M_moves_37 ml_M_120 ce_M_size ⟨Nat.le_of_ble_eq_true rfl, Nat.le_of_ble_eq_true rfl⟩ rfl (Nat.le_of_ble_eq_true rfl) ⟨rfl, rfl⟩ ⟨Nat.le_of_ble_eq_true rfl, Nat.le_of_ble_eq_true rfl⟩ ?_
      refine gg_icge dc_M_moves_40 (fun c_40 => ?_) (fun c_40 => ?_)
      · exact gg_vret dc_M_moves_54 rfl ⟨Nat.le_of_ble_eq_true rfl, Nat.le_of_ble_eq_true rfl⟩ (⟨rfl, by rw [← hR]; rfl⟩)
      · exact absurd (cn_le2 (by omega) (by omega)) c_40
    | succ f ih =>
      intro i S hi hL hR
      have hz9 : sz_I st = nI (sz_I st).toNatClampNeg := by
        have h1 : 0 < (sz_I st).toNatClampNeg := by omega
        apply Int32.toInt_inj.mp
        rw [nI_toInt hz0]
        have h2 : 0 < (sz_I st).toInt.toNat := h1
        show _ = (((sz_I st).toInt.toNat : Nat) : Int)
        omega
      refine gg_ild dc_M_moves_34 rfl ?_
      refine gg_ildn dc_M_moves_36 rfl rfl ?_
      refine gg_okS (sp_M_size) dc_M_moves_37 ml_M_120 ce_M_size ⟨Nat.le_of_ble_eq_true rfl, Nat.le_of_ble_eq_true rfl⟩ rfl (Nat.le_of_ble_eq_true rfl) ⟨rfl, rfl⟩ ⟨Nat.le_of_ble_eq_true rfl, Nat.le_of_ble_eq_true rfl⟩ ?_
      refine gg_icge dc_M_moves_40 (fun c_40 => ?_) (fun c_40 => ?_)
      · exact absurd c_40 (by rw [hz9, Int32.le_iff_toInt_le, nI_toInt (by omega), nI_toInt (by omega)]; omega)
      · refine gg_aldn dc_M_moves_43 rfl rfl ?_
        refine gg_ildn dc_M_moves_44 rfl rfl ?_
        refine gg_okVv (sp_M_microstep hm hL) dc_M_moves_45 ml_M_132 ce_M_microstep ⟨Nat.le_of_ble_eq_true rfl, Nat.le_of_ble_eq_true rfl⟩ hm.1 rfl rfl (Nat.le_of_ble_eq_true rfl) ⟨rfl, rfl⟩ ⟨Nat.le_of_ble_eq_true rfl, Nat.le_of_ble_eq_true rfl⟩ ?_
        refine gg_iinc (i := 4) dc_M_moves_48 rfl (Nat.le_of_ble_eq_true rfl) rfl ?_
        dsimp only [List.set]
        rw [show Int32.ofInt 1 = 1 from by decide]
        refine gg_goto dc_M_moves_51 ?_
        refine gg_e (ih (i + 1) (ms_S S d) (by omega) (hL.of (ms_o (by omega))) hR) (by rw [nI_1]) rfl rfl
  refine gg_aldn dc_M_moves_0 rfl rfl ?_
  refine gg_ildn dc_M_moves_1 rfl rfl ?_
  refine gg_okV (sp_M_aimOf hm hC hz) dc_M_moves_2 ml_M_129 ce_M_aimOf ⟨Nat.le_of_ble_eq_true rfl, Nat.le_of_ble_eq_true rfl⟩ hm.1 rfl rfl (Nat.le_of_ble_eq_true rfl) ⟨rfl, rfl⟩ ⟨Nat.le_of_ble_eq_true rfl, Nat.le_of_ble_eq_true rfl⟩ ?_
  refine gg_aldn dc_M_moves_5 rfl rfl ?_
  refine gg_getr dc_M_moves_6 lf_M_7 hm.1 rfl ?_
  refine gg_bipush (v := 6) dc_M_moves_9 (by decide) ?_
  refine gms_r (k := 6) dc_M_moves_11 hm ⟨rfl, Nat.le_of_ble_eq_true rfl⟩ ?_
  refine gg_isub dc_M_moves_12 ?_
  refine gg_aldn dc_M_moves_13 rfl rfl ?_
  refine gg_getr dc_M_moves_14 lf_M_7 hm.1 rfl ?_
  refine gg_iconst (v := 0) dc_M_moves_17 (by decide) ?_
  refine gms_r (k := 0) dc_M_moves_18 hm ⟨rfl, Nat.le_of_ble_eq_true rfl⟩ ?_
  refine gg_idiv dc_M_moves_19 (h0) ?_
  refine gg_istn (i := 2) dc_M_moves_20 rfl (Nat.le_of_ble_eq_true rfl) rfl ?_
  dsimp only [List.set]
  refine gg_ildn dc_M_moves_21 rfl rfl ?_
  refine gg_ifge dc_M_moves_22 (fun c_22 => ?_) (fun c_22 => ?_)
  · refine gg_iconst (v := 1) dc_M_moves_29 (by decide) ?_
    refine gg_istn (i := 3) dc_M_moves_30 rfl (Nat.le_of_ble_eq_true rfl) rfl ?_
    dsimp only [List.set]
    refine gg_iconst (v := 0) dc_M_moves_31 (by decide) ?_
    refine gg_ist (i := 4) dc_M_moves_32 (Nat.le_of_ble_eq_true rfl) rfl ?_
    dsimp only [List.set]
    have e9 : sn_I ((am_S S x - S 6) / S 0) = 1 := by unfold sn_I; rw [if_pos c_22]
    unfold mo_S
    rw [e9]
    exact loop _ _ _ _ 0 S (by omega) hL rfl
  · refine gg_iconst (v := (-1)) dc_M_moves_25 (by decide) ?_
    refine gg_goto dc_M_moves_26 ?_
    refine gg_istn (i := 3) dc_M_moves_30 rfl (Nat.le_of_ble_eq_true rfl) rfl ?_
    dsimp only [List.set]
    refine gg_iconst (v := 0) dc_M_moves_31 (by decide) ?_
    refine gg_ist (i := 4) dc_M_moves_32 (Nat.le_of_ble_eq_true rfl) rfl ?_
    dsimp only [List.set]
    have e9 : sn_I ((am_S S x - S 6) / S 0) = -1 := by unfold sn_I; rw [if_neg c_22]
    unfold mo_S
    rw [e9]
    exact loop _ _ _ _ 0 S (by omega) hL rfl
