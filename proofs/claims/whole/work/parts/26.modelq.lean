/-! the reference: its methods that change the present state -/
theorem cp_cp {S T A : Nat → Int32} {n : Nat} : cp_N S (cp_N T A n) n = cp_N S A n := by
  funext j; unfold cp_N; split <;> rfl
theorem cp_pc {S T A : Nat → Int32} {n : Nat} : cp_N (cp_N S A n) T n = cp_N S T n := by
  funext j; unfold cp_N; split <;> rfl
theorem cp_eq {S T : Nat → Int32} {n : Nat} (h : ∀ j : Nat, n ≤ j → T j = S j) : cp_N S T n = S := by
  funext j; unfold cp_N
  by_cases c : j < n
  · rw [if_pos c]
  · rw [if_neg c]; exact h j (by omega)
theorem rc_1 {X : Nat → Nat → Int32} {S T : Nat → Int32} (h : ∀ j : Nat, 80 ≤ j → T j = S j) : va_up (va_up (va_up X 4 (cp_N S (X 4) 80)) 4 (cp_N T (va_up X 4 (cp_N S (X 4) 80) 4) 80)) 1 (cp_N (va_up X 4 (cp_N S (X 4) 80) 4) T 80) = va_up (va_up X 4 (cp_N T (X 4) 80)) 1 S := by
  rw [va_vv, va_up_self, cp_cp, cp_pc, cp_eq h]
theorem nt_4 {X : Nat → Nat → Int32} {S B : Nat → Int32} : nt_X (va_up (va_up X 4 B) 1 S) = va_up (nt_X (va_up X 1 S)) 4 B := by
  unfold nt_X
  rw [show va_up (va_up X 4 B) 1 S 0 2 = X 0 2 from rfl, show va_up X 1 S 0 2 = X 0 2 from rfl]
  by_cases c : X 0 2 = 6
  · rw [if_pos c, if_pos c]
    funext a j
    by_cases e4 : a = 4
    · subst e4; simp [up_2, va_up]
    · simp [up_2, va_up, e4]
  · rw [if_neg c, if_neg c]
    funext a j
    by_cases e4 : a = 4
    · subst e4; simp [up_2, va_up]
    · simp [up_2, va_up, e4]
theorem rc_2 {X : Nat → Nat → Int32} {S T : Nat → Int32} (h : ∀ j : Nat, 80 ≤ j → T j = S j) : va_up (va_up (nt_X (va_up (va_up X 4 (cp_N T (X 4) 80)) 1 S)) 4 (cp_N S (nt_X (va_up (va_up X 4 (cp_N T (X 4) 80)) 1 S) 4) 80)) 1 (cp_N (nt_X (va_up (va_up X 4 (cp_N T (X 4) 80)) 1 S) 4) S 80) = va_up (va_up (nt_X (va_up X 1 S)) 4 (cp_N S (X 4) 80)) 1 T := by
  rw [nt_4, va_vv, va_up_self, cp_cp, cp_pc, cp_eq (fun j hj => (h j hj).symm)]
theorem sp_M_seeksW {Γ : cx_T} {τ : Nat × (Nat → sh_T)} {ν : Nat → Nat → Int32} {X : Nat → Nat → Int32} {S : Nat → Int32} {m : Nat} (hm : sh_M τ.2 m) {w : Int32} (hL : LK S 21 10) : mt_P Γ mk_M_seeks [.ref m, .int w] (τ, mv_N ν m (va_up X 1 S)) (fun v μ' => v = some (.int (if 0 < (se_S S w).2 then 1 else 0)) ∧ μ' = (τ, mv_N ν m (va_up X 1 ((se_S S w).1)))) := by
  by_cases hw : w = 0
  · exact sp_M_seeks0 hm hw hL
  · exact sp_M_seeks1 hm hw hL
theorem se_o {S : Nat → Int32} {w : Int32} {j : Nat} (h : j < 6 ∨ j = 11 ∨ 17 ≤ j) : (se_S S w).1 j = S j := by
  unfold se_S
  split
  · rw [lp_o h, lp_o h]
  · rw [lp_o h, lp_o h]
theorem mo_o {S : Nat → Int32} {x : Int32} {j : Nat} (h : j < 6 ∨ j = 11 ∨ 17 ≤ j) : mo_S S x j = S j := fi_o h _ _
/-- one command added, from behind -/
def pq_N (V : Nat → Int32) (y : Int32) : Nat → Nat
  | 0 => 0
  | k + 1 => if V k < y then pq_N V y k else k + 1
theorem pq_le {V : Nat → Int32} {y : Int32} : ∀ k : Nat, pq_N V y k ≤ k
  | 0 => Nat.le_refl _
  | k + 1 => by
    unfold pq_N
    split
    · exact Nat.le_succ_of_le (pq_le k)
    · exact Nat.le_refl _
def ca_S (S : Nat → Int32) (x y : Int32) (n u : Nat) : Nat → Int32 := upd (upd (upd (sf_S S 63 (2 * u + 2) (2 * n + 2)) (64 + 2 * u) x) (65 + 2 * u) y) 63 (nI (n + 1))
theorem sf_2 {S : Nat → Int32} {k n : Nat} (h : k < n) : upd (upd (sf_S S 63 (2 * (k + 1) + 2) (2 * n + 2)) (64 + 2 * (k + 1)) (S (64 + 2 * k))) (65 + 2 * (k + 1)) (S (65 + 2 * k)) = sf_S S 63 (2 * k + 2) (2 * n + 2) := by
  funext j; unfold upd sf_S
  by_cases e : j = 65 + 2 * (k + 1)
  · subst e; rw [if_pos rfl, if_pos (by omega), show 65 + 2 * (k + 1) - 2 = 65 + 2 * k by omega]
  · rw [if_neg e]
    by_cases e2 : j = 64 + 2 * (k + 1)
    · subst e2; rw [if_pos rfl, if_pos (by omega), show 64 + 2 * (k + 1) - 2 = 64 + 2 * k by omega]
    · rw [if_neg e2]
      by_cases c : 63 + (2 * (k + 1) + 2) < j ∧ j ≤ 63 + (2 * n + 2)
      · rw [if_pos c, if_pos (by omega)]
      · rw [if_neg c, if_neg (by omega)]
def cd_S (S : Nat → Int32) : Nat → Int32 := sg_S (upd S 63 (nI (ls_n S 63 - 1))) 63 1 (2 * (ls_n S 63 - 1) + 1)
def ro_S (S : Nat → Int32) : Nat → Int32 := if in_I (am_S (cd_S S) (S 64)) (-20000) 20000 = 0 then cd_S S else mo_S (cd_S S) (S 64)
def rn_S : Nat → (Nat → Int32) → (Nat → Int32)
  | 0, S => S
  | c + 1, S => if ls_n S 63 = 0 then S else rn_S c (ro_S S)
/-- what the ways through the lists need of a row -/
def RI (S : Nat → Int32) : Prop := LK S 21 10 ∧ LK S 42 10 ∧ LK S 63 8 ∧ nz_P S ∧ ¬ S 0 = 0
theorem nz_P.of {S T : Nat → Int32} (h : nz_P S) (e : ∀ j : Nat, 42 ≤ j → j < 63 → T j = S j) (h10 : ls_n S 42 ≤ 10) : nz_P T := by
  intro i hi
  have e0 : ls_n T 42 = ls_n S 42 := by unfold ls_n; rw [e 42 (by omega) (by omega)]
  rw [e0] at hi
  have := h i hi
  unfold ls_P at this ⊢
  rw [e _ (by omega) (by omega), e _ (by omega) (by omega)]
  exact this
theorem cd_o {S : Nat → Int32} {j : Nat} (h : j < 63) : cd_S S j = S j := by
  unfold cd_S sg_S
  rw [if_neg (by omega), ud_ne (by omega)]
theorem RI.cd {S : Nat → Int32} (h : RI S) : RI (cd_S S) := by
  obtain ⟨h1, h2, h3, h4, h5⟩ := h
  refine ⟨h1.of (cd_o (by omega)), h2.of (cd_o (by omega)), ?_, h4.of (fun j _ hj => cd_o hj) h2.1, by rw [cd_o (by omega)]; exact h5⟩
  have hle := h3.1
  have e : cd_S S 63 = nI (ls_n S 63 - 1) := by unfold cd_S; rw [sg_b (by omega), ud_eq]
  have e2 : ls_n (cd_S S) 63 = ls_n S 63 - 1 := by
    show (cd_S S 63).toNatClampNeg = _
    rw [e, nI_clamp (by omega)]
  exact ⟨by omega, by rw [e2]; exact e⟩
theorem RI.mo {S : Nat → Int32} {x : Int32} (h : RI S) : RI (mo_S S x) := by
  obtain ⟨h1, h2, h3, h4, h5⟩ := h
  exact ⟨h1.of (mo_o (by omega)), h2.of (mo_o (by omega)), h3.of (mo_o (by omega)), h4.of (fun j _ hj => mo_o (by omega)) h2.1, by rw [mo_o (by omega)]; exact h5⟩
theorem RI.ro {S : Nat → Int32} (h : RI S) : RI (ro_S S) := by
  unfold ro_S
  split
  · exact h.cd
  · exact h.cd.mo
theorem cd_n {S : Nat → Int32} : ls_n (cd_S S) 63 = ls_n S 63 - 1 ∨ 8 < ls_n S 63 := by
  by_cases h : 8 < ls_n S 63
  · exact Or.inr h
  · left
    have e : cd_S S 63 = nI (ls_n S 63 - 1) := by unfold cd_S; rw [sg_b (by omega), ud_eq]
    show (cd_S S 63).toNatClampNeg = _
    rw [e, nI_clamp (by omega)]
theorem ro_n {S : Nat → Int32} (h : RI S) : ls_n (ro_S S) 63 = ls_n S 63 - 1 := by
  have h8 := h.2.2.1.1
  unfold ro_S
  split
  · exact cd_n.resolve_right (by omega)
  · show (mo_S (cd_S S) (S 64) 63).toNatClampNeg = _
    rw [mo_o (by omega)]
    exact cd_n.resolve_right (by omega)
set_option maxRecDepth 100000 in
set_option maxHeartbeats 4000000 in
theorem sp_M_setsI {Γ : cx_T} {τ : Nat × (Nat → sh_T)} {ν : Nat → Nat → Int32} {X : Nat → Nat → Int32} {S : Nat → Int32} {m : Nat} (hm : sh_M τ.2 m) {b x y e : Int32} {b0 : Nat} (hb : b = nI b0) (hL : LK S b0 10) (hN : b0 + 2 + 2 * 10 < 80 - 2) (h : y = e) (hh : ha_S S b0 x = 0) : mt_P Γ mk_M_sets [.ref m, .int b, .int x, .int y, .int e] (τ, mv_N ν m (va_up X 1 S)) (fun v μ' => v = some (.int (-1000002)) ∧ μ' = (τ, mv_N ν m (va_up (X) 1 (S)))) := by
  refine mt_of (L := [some (.ref m), some (.int b), some (.int x), some (.int y), some (.int e), none, none]) (by decide +kernel) (by simp [Value.category]) (Nat.le_of_ble_eq_true rfl) (lc_5_7 ()) ?_
  refine gg_aldn dc_M_sets_0 rfl rfl ?_
  refine gg_ildn dc_M_sets_1 rfl rfl ?_
  refine gg_ildn dc_M_sets_2 rfl rfl ?_
  refine gg_okV (sp_M_has hm hb hL (by omega)) dc_M_sets_3 ml_M_42 ce_M_has ⟨Nat.le_of_ble_eq_true rfl, Nat.le_of_ble_eq_true rfl⟩ hm.1 rfl rfl (Nat.le_of_ble_eq_true rfl) ⟨rfl, rfl⟩ ⟨Nat.le_of_ble_eq_true rfl, Nat.le_of_ble_eq_true rfl⟩ ?_
  refine gg_ist (i := 5) dc_M_sets_6 (Nat.le_of_ble_eq_true rfl) rfl ?_
  dsimp only [List.set]
  refine gg_ildn dc_M_sets_8 rfl rfl ?_
  refine gg_ild dc_M_sets_9 rfl ?_
  refine gg_icne dc_M_sets_11 (fun c_11 => ?_) (fun c_11 => ?_)
  · exact absurd h c_11
  · refine gg_ild dc_M_sets_14 rfl ?_
    refine gg_ifne dc_M_sets_16 (fun c_16 => ?_) (fun c_16 => ?_)
    · exact absurd hh c_16
    · refine gg_ldc dc_M_sets_19 lk_M_30 ?_
      exact gg_iret dc_M_sets_21 rfl ⟨Nat.le_of_ble_eq_true rfl, Nat.le_of_ble_eq_true rfl⟩ (⟨rfl, rfl⟩)
set_option maxRecDepth 100000 in
set_option maxHeartbeats 4000000 in
theorem sp_M_setsC {Γ : cx_T} {τ : Nat × (Nat → sh_T)} {ν : Nat → Nat → Int32} {X : Nat → Nat → Int32} {S : Nat → Int32} {m : Nat} (hm : sh_M τ.2 m) {b x y e : Int32} {b0 : Nat} (hb : b = nI b0) (hL : LK S b0 10) (hN : b0 + 2 + 2 * 10 < 80 - 2) (h : ¬ y = e) (hh : ha_S S b0 x = 0) (h10 : S b0 = 10) : mt_P Γ mk_M_sets [.ref m, .int b, .int x, .int y, .int e] (τ, mv_N ν m (va_up X 1 S)) (fun v μ' => v = some (.int (-1000003)) ∧ μ' = (τ, mv_N ν m (va_up (X) 1 (S)))) := by
  refine mt_of (L := [some (.ref m), some (.int b), some (.int x), some (.int y), some (.int e), none, none]) (by decide +kernel) (by simp [Value.category]) (Nat.le_of_ble_eq_true rfl) (lc_5_7 ()) ?_
  refine gg_aldn dc_M_sets_0 rfl rfl ?_
  refine gg_ildn dc_M_sets_1 rfl rfl ?_
  refine gg_ildn dc_M_sets_2 rfl rfl ?_
  refine gg_okV (sp_M_has hm hb hL (by omega)) dc_M_sets_3 ml_M_42 ce_M_has ⟨Nat.le_of_ble_eq_true rfl, Nat.le_of_ble_eq_true rfl⟩ hm.1 rfl rfl (Nat.le_of_ble_eq_true rfl) ⟨rfl, rfl⟩ ⟨Nat.le_of_ble_eq_true rfl, Nat.le_of_ble_eq_true rfl⟩ ?_
  refine gg_ist (i := 5) dc_M_sets_6 (Nat.le_of_ble_eq_true rfl) rfl ?_
  dsimp only [List.set]
  refine gg_ildn dc_M_sets_8 rfl rfl ?_
  refine gg_ild dc_M_sets_9 rfl ?_
  refine gg_icne dc_M_sets_11 (fun c_11 => ?_) (fun c_11 => ?_)
  · refine gg_ildn dc_M_sets_22 rfl rfl ?_
    refine gg_ild dc_M_sets_23 rfl ?_
    refine gg_iceq dc_M_sets_25 (fun c_25 => ?_) (fun c_25 => ?_)
    · exact absurd c_25 h
    · refine gg_ild dc_M_sets_28 rfl ?_
      refine gg_ifne dc_M_sets_30 (fun c_30 => ?_) (fun c_30 => ?_)
      · exact absurd hh c_30
      · refine gg_aldn dc_M_sets_33 rfl rfl ?_
        refine gg_getr dc_M_sets_34 lf_M_7 hm.1 rfl ?_
        refine gg_ildn dc_M_sets_37 rfl rfl ?_
        refine gms_r (k := b0) dc_M_sets_38 hm (⟨hb, by omega⟩) ?_
        refine gg_bipush (v := 10) dc_M_sets_39 (by decide) ?_
        refine gg_icne dc_M_sets_41 (fun c_41 => ?_) (fun c_41 => ?_)
        · exact absurd h10 c_41
        · refine gg_ldc dc_M_sets_44 lk_M_46 ?_
          exact gg_iret dc_M_sets_46 rfl ⟨Nat.le_of_ble_eq_true rfl, Nat.le_of_ble_eq_true rfl⟩ (⟨rfl, rfl⟩)
  · exact absurd c_11 h
set_option maxRecDepth 100000 in
set_option maxHeartbeats 4000000 in
theorem sp_M_setsR {Γ : cx_T} {τ : Nat × (Nat → sh_T)} {ν : Nat → Nat → Int32} {X : Nat → Nat → Int32} {S : Nat → Int32} {m : Nat} (hm : sh_M τ.2 m) {b x y e : Int32} {b0 : Nat} (hb : b = nI b0) (hL : LK S b0 10) (hN : b0 + 2 + 2 * 10 < 80 - 2) (hp : PS X) (h : y = e) (hh : ¬ ha_S S b0 x = 0) : mt_P Γ mk_M_sets [.ref m, .int b, .int x, .int y, .int e] (τ, mv_N ν m (va_up X 1 S)) (fun v μ' => v = some (.int (ls_V S b0 (ut_S S b0 x - 1))) ∧ μ' = (τ, mv_N ν m (va_up (nt_X (va_up X 1 S)) 1 (mr_S S b0 x)))) := by
  refine mt_of (L := [some (.ref m), some (.int b), some (.int x), some (.int y), some (.int e), none, none]) (by decide +kernel) (by simp [Value.category]) (Nat.le_of_ble_eq_true rfl) (lc_5_7 ()) ?_
  obtain ⟨k, hk, hp9⟩ := ha_1 hh
  have hle : ut_S S b0 x ≤ ls_n S b0 := by
    have := (ut_le (ls_P S b0) x (ls_n S b0) 0).2
    unfold ut_S
    omega
  have hL1 := hL.1
  rw [show ut_S S b0 x - 1 = k by rw [show ut_S S b0 x = k + 1 from hk]; rfl]
  refine gg_aldn dc_M_sets_0 rfl rfl ?_
  refine gg_ildn dc_M_sets_1 rfl rfl ?_
  refine gg_ildn dc_M_sets_2 rfl rfl ?_
  refine gg_okV (sp_M_has hm hb hL (by omega)) dc_M_sets_3 ml_M_42 ce_M_has ⟨Nat.le_of_ble_eq_true rfl, Nat.le_of_ble_eq_true rfl⟩ hm.1 rfl rfl (Nat.le_of_ble_eq_true rfl) ⟨rfl, rfl⟩ ⟨Nat.le_of_ble_eq_true rfl, Nat.le_of_ble_eq_true rfl⟩ ?_
  refine gg_ist (i := 5) dc_M_sets_6 (Nat.le_of_ble_eq_true rfl) rfl ?_
  dsimp only [List.set]
  refine gg_ildn dc_M_sets_8 rfl rfl ?_
  refine gg_ild dc_M_sets_9 rfl ?_
  refine gg_icne dc_M_sets_11 (fun c_11 => ?_) (fun c_11 => ?_)
  · exact absurd h c_11
  · refine gg_ild dc_M_sets_14 rfl ?_
    refine gg_ifne dc_M_sets_16 (fun c_16 => ?_) (fun c_16 => ?_)
    · refine gg_ildn dc_M_sets_22 rfl rfl ?_
      refine gg_ild dc_M_sets_23 rfl ?_
      refine gg_iceq dc_M_sets_25 (fun c_25 => ?_) (fun c_25 => ?_)
      · refine gg_aldn dc_M_sets_47 rfl rfl ?_
        refine gg_okVv (sp_M_notesS hm hp) dc_M_sets_48 ml_M_47 ce_M_notes ⟨Nat.le_of_ble_eq_true rfl, Nat.le_of_ble_eq_true rfl⟩ hm.1 rfl rfl (Nat.le_of_ble_eq_true rfl) ⟨rfl, rfl⟩ ⟨Nat.le_of_ble_eq_true rfl, Nat.le_of_ble_eq_true rfl⟩ ?_
        refine gg_ild dc_M_sets_51 rfl ?_
        refine gg_ifeq dc_M_sets_53 (fun c_53 => ?_) (fun c_53 => ?_)
        · exact absurd c_53 hh
        · refine gg_aldn dc_M_sets_56 rfl rfl ?_
          refine gg_ildn dc_M_sets_57 rfl rfl ?_
          refine gg_aldn dc_M_sets_58 rfl rfl ?_
          refine gg_ildn dc_M_sets_59 rfl rfl ?_
          refine gg_ildn dc_M_sets_60 rfl rfl ?_
          refine gg_okV (sp_M_upTo hm hb hL (by omega)) dc_M_sets_61 ml_M_39 ce_M_upTo ⟨Nat.le_of_ble_eq_true rfl, Nat.le_of_ble_eq_true rfl⟩ hm.1 rfl rfl (Nat.le_of_ble_eq_true rfl) ⟨rfl, rfl⟩ ⟨Nat.le_of_ble_eq_true rfl, Nat.le_of_ble_eq_true rfl⟩ ?_
          rw [show ut_N (ls_P S b0) x (ls_n S b0) 0 = k + 1 from hk]
          refine gg_iconst (v := 1) dc_M_sets_64 (by decide) ?_
          refine gg_isub dc_M_sets_65 ?_
          refine gx_top (nI_pred k) ?_
          refine gg_okV (sp_M_valueAt hm hb rfl (by omega)) dc_M_sets_66 ml_M_50 ce_M_valueAt ⟨Nat.le_of_ble_eq_true rfl, Nat.le_of_ble_eq_true rfl⟩ hm.1 rfl rfl (Nat.le_of_ble_eq_true rfl) ⟨rfl, rfl⟩ ⟨Nat.le_of_ble_eq_true rfl, Nat.le_of_ble_eq_true rfl⟩ ?_
          refine gg_goto dc_M_sets_69 ?_
          refine gg_ist (i := 6) dc_M_sets_74 (Nat.le_of_ble_eq_true rfl) rfl ?_
          dsimp only [List.set]
          refine gg_ildn dc_M_sets_76 rfl rfl ?_
          refine gg_ild dc_M_sets_77 rfl ?_
          refine gg_icne dc_M_sets_79 (fun c_79 => ?_) (fun c_79 => ?_)
          · exact absurd h c_79
          · refine gg_aldn dc_M_sets_82 rfl rfl ?_
            refine gg_ildn dc_M_sets_83 rfl rfl ?_
            refine gg_ildn dc_M_sets_84 rfl rfl ?_
            refine gg_okVv (sp_M_removes hm hb hL (by omega) hh) dc_M_sets_85 ml_M_53 ce_M_removes ⟨Nat.le_of_ble_eq_true rfl, Nat.le_of_ble_eq_true rfl⟩ hm.1 rfl rfl (Nat.le_of_ble_eq_true rfl) ⟨rfl, rfl⟩ ⟨Nat.le_of_ble_eq_true rfl, Nat.le_of_ble_eq_true rfl⟩ ?_
            refine gg_goto dc_M_sets_88 ?_
            refine gg_ild dc_M_sets_98 rfl ?_
            exact gg_iret dc_M_sets_100 rfl ⟨Nat.le_of_ble_eq_true rfl, Nat.le_of_ble_eq_true rfl⟩ (⟨rfl, rfl⟩)
      · exact absurd h c_25
    · exact absurd c_16 hh
set_option maxRecDepth 100000 in
set_option maxHeartbeats 4000000 in
theorem sp_M_setsN {Γ : cx_T} {τ : Nat × (Nat → sh_T)} {ν : Nat → Nat → Int32} {X : Nat → Nat → Int32} {S : Nat → Int32} {m : Nat} (hm : sh_M τ.2 m) {b x y e : Int32} {b0 : Nat} (hb : b = nI b0) (hL : LK S b0 10) (hN : b0 + 2 + 2 * 10 < 80 - 2) (hp : PS X) (h : ¬ y = e) (hh : ha_S S b0 x = 0) (h10 : ¬ S b0 = 10) : mt_P Γ mk_M_sets [.ref m, .int b, .int x, .int y, .int e] (τ, mv_N ν m (va_up X 1 S)) (fun v μ' => v = some (.int (e)) ∧ μ' = (τ, mv_N ν m (va_up (nt_X (va_up X 1 S)) 1 (mp_S S b0 x y)))) := by
  refine mt_of (L := [some (.ref m), some (.int b), some (.int x), some (.int y), some (.int e), none, none]) (by decide +kernel) (by simp [Value.category]) (Nat.le_of_ble_eq_true rfl) (lc_5_7 ()) ?_
  have hL1 := hL.1
  refine gg_aldn dc_M_sets_0 rfl rfl ?_
  refine gg_ildn dc_M_sets_1 rfl rfl ?_
  refine gg_ildn dc_M_sets_2 rfl rfl ?_
  refine gg_okV (sp_M_has hm hb hL (by omega)) dc_M_sets_3 ml_M_42 ce_M_has ⟨Nat.le_of_ble_eq_true rfl, Nat.le_of_ble_eq_true rfl⟩ hm.1 rfl rfl (Nat.le_of_ble_eq_true rfl) ⟨rfl, rfl⟩ ⟨Nat.le_of_ble_eq_true rfl, Nat.le_of_ble_eq_true rfl⟩ ?_
  refine gg_ist (i := 5) dc_M_sets_6 (Nat.le_of_ble_eq_true rfl) rfl ?_
  dsimp only [List.set]
  refine gg_ildn dc_M_sets_8 rfl rfl ?_
  refine gg_ild dc_M_sets_9 rfl ?_
  refine gg_icne dc_M_sets_11 (fun c_11 => ?_) (fun c_11 => ?_)
  · refine gg_ildn dc_M_sets_22 rfl rfl ?_
    refine gg_ild dc_M_sets_23 rfl ?_
    refine gg_iceq dc_M_sets_25 (fun c_25 => ?_) (fun c_25 => ?_)
    · exact absurd c_25 h
    · refine gg_ild dc_M_sets_28 rfl ?_
      refine gg_ifne dc_M_sets_30 (fun c_30 => ?_) (fun c_30 => ?_)
      · exact absurd hh c_30
      · refine gg_aldn dc_M_sets_33 rfl rfl ?_
        refine gg_getr dc_M_sets_34 lf_M_7 hm.1 rfl ?_
        refine gg_ildn dc_M_sets_37 rfl rfl ?_
        refine gms_r (k := b0) dc_M_sets_38 hm (⟨hb, by omega⟩) ?_
        refine gg_bipush (v := 10) dc_M_sets_39 (by decide) ?_
        refine gg_icne dc_M_sets_41 (fun c_41 => ?_) (fun c_41 => ?_)
        · refine gg_aldn dc_M_sets_47 rfl rfl ?_
          refine gg_okVv (sp_M_notesS hm hp) dc_M_sets_48 ml_M_47 ce_M_notes ⟨Nat.le_of_ble_eq_true rfl, Nat.le_of_ble_eq_true rfl⟩ hm.1 rfl rfl (Nat.le_of_ble_eq_true rfl) ⟨rfl, rfl⟩ ⟨Nat.le_of_ble_eq_true rfl, Nat.le_of_ble_eq_true rfl⟩ ?_
          refine gg_ild dc_M_sets_51 rfl ?_
          refine gg_ifeq dc_M_sets_53 (fun c_53 => ?_) (fun c_53 => ?_)
          · refine gg_ild dc_M_sets_72 rfl ?_
            refine gg_ist (i := 6) dc_M_sets_74 (Nat.le_of_ble_eq_true rfl) rfl ?_
            dsimp only [List.set]
            refine gg_ildn dc_M_sets_76 rfl rfl ?_
            refine gg_ild dc_M_sets_77 rfl ?_
            refine gg_icne dc_M_sets_79 (fun c_79 => ?_) (fun c_79 => ?_)
            · refine gg_aldn dc_M_sets_91 rfl rfl ?_
              refine gg_ildn dc_M_sets_92 rfl rfl ?_
              refine gg_ildn dc_M_sets_93 rfl rfl ?_
              refine gg_ildn dc_M_sets_94 rfl rfl ?_
              refine gg_okVv (sp_M_putsN hm hb hL (by omega) hh (by omega)) dc_M_sets_95 ml_M_57 ce_M_puts ⟨Nat.le_of_ble_eq_true rfl, Nat.le_of_ble_eq_true rfl⟩ hm.1 rfl rfl (Nat.le_of_ble_eq_true rfl) ⟨rfl, rfl⟩ ⟨Nat.le_of_ble_eq_true rfl, Nat.le_of_ble_eq_true rfl⟩ ?_
              refine gg_ild dc_M_sets_98 rfl ?_
              exact gg_iret dc_M_sets_100 rfl ⟨Nat.le_of_ble_eq_true rfl, Nat.le_of_ble_eq_true rfl⟩ (⟨rfl, rfl⟩)
            · exact absurd c_79 h
          · exact absurd hh c_53
        · exact absurd c_41 h10
  · exact absurd c_11 h
set_option maxRecDepth 100000 in
set_option maxHeartbeats 4000000 in
theorem sp_M_setsY {Γ : cx_T} {τ : Nat × (Nat → sh_T)} {ν : Nat → Nat → Int32} {X : Nat → Nat → Int32} {S : Nat → Int32} {m : Nat} (hm : sh_M τ.2 m) {b x y e : Int32} {b0 : Nat} (hb : b = nI b0) (hL : LK S b0 10) (hN : b0 + 2 + 2 * 10 < 80 - 2) (hp : PS X) (h : ¬ y = e) (hh : ¬ ha_S S b0 x = 0) : mt_P Γ mk_M_sets [.ref m, .int b, .int x, .int y, .int e] (τ, mv_N ν m (va_up X 1 S)) (fun v μ' => v = some (.int (ls_V S b0 (ut_S S b0 x - 1))) ∧ μ' = (τ, mv_N ν m (va_up (nt_X (va_up X 1 S)) 1 (mp_S S b0 x y)))) := by
  refine mt_of (L := [some (.ref m), some (.int b), some (.int x), some (.int y), some (.int e), none, none]) (by decide +kernel) (by simp [Value.category]) (Nat.le_of_ble_eq_true rfl) (lc_5_7 ()) ?_
  obtain ⟨k, hk, hp9⟩ := ha_1 hh
  have hle : ut_S S b0 x ≤ ls_n S b0 := by
    have := (ut_le (ls_P S b0) x (ls_n S b0) 0).2
    unfold ut_S
    omega
  have hL1 := hL.1
  rw [show ut_S S b0 x - 1 = k by rw [show ut_S S b0 x = k + 1 from hk]; rfl]
  refine gg_aldn dc_M_sets_0 rfl rfl ?_
  refine gg_ildn dc_M_sets_1 rfl rfl ?_
  refine gg_ildn dc_M_sets_2 rfl rfl ?_
  refine gg_okV (sp_M_has hm hb hL (by omega)) dc_M_sets_3 ml_M_42 ce_M_has ⟨Nat.le_of_ble_eq_true rfl, Nat.le_of_ble_eq_true rfl⟩ hm.1 rfl rfl (Nat.le_of_ble_eq_true rfl) ⟨rfl, rfl⟩ ⟨Nat.le_of_ble_eq_true rfl, Nat.le_of_ble_eq_true rfl⟩ ?_
  refine gg_ist (i := 5) dc_M_sets_6 (Nat.le_of_ble_eq_true rfl) rfl ?_
  dsimp only [List.set]
  refine gg_ildn dc_M_sets_8 rfl rfl ?_
  refine gg_ild dc_M_sets_9 rfl ?_
  refine gg_icne dc_M_sets_11 (fun c_11 => ?_) (fun c_11 => ?_)
  · refine gg_ildn dc_M_sets_22 rfl rfl ?_
    refine gg_ild dc_M_sets_23 rfl ?_
    refine gg_iceq dc_M_sets_25 (fun c_25 => ?_) (fun c_25 => ?_)
    · exact absurd c_25 h
    · refine gg_ild dc_M_sets_28 rfl ?_
      refine gg_ifne dc_M_sets_30 (fun c_30 => ?_) (fun c_30 => ?_)
      · refine gg_aldn dc_M_sets_47 rfl rfl ?_
        refine gg_okVv (sp_M_notesS hm hp) dc_M_sets_48 ml_M_47 ce_M_notes ⟨Nat.le_of_ble_eq_true rfl, Nat.le_of_ble_eq_true rfl⟩ hm.1 rfl rfl (Nat.le_of_ble_eq_true rfl) ⟨rfl, rfl⟩ ⟨Nat.le_of_ble_eq_true rfl, Nat.le_of_ble_eq_true rfl⟩ ?_
        refine gg_ild dc_M_sets_51 rfl ?_
        refine gg_ifeq dc_M_sets_53 (fun c_53 => ?_) (fun c_53 => ?_)
        · exact absurd c_53 hh
        · refine gg_aldn dc_M_sets_56 rfl rfl ?_
          refine gg_ildn dc_M_sets_57 rfl rfl ?_
          refine gg_aldn dc_M_sets_58 rfl rfl ?_
          refine gg_ildn dc_M_sets_59 rfl rfl ?_
          refine gg_ildn dc_M_sets_60 rfl rfl ?_
          refine gg_okV (sp_M_upTo hm hb hL (by omega)) dc_M_sets_61 ml_M_39 ce_M_upTo ⟨Nat.le_of_ble_eq_true rfl, Nat.le_of_ble_eq_true rfl⟩ hm.1 rfl rfl (Nat.le_of_ble_eq_true rfl) ⟨rfl, rfl⟩ ⟨Nat.le_of_ble_eq_true rfl, Nat.le_of_ble_eq_true rfl⟩ ?_
          rw [show ut_N (ls_P S b0) x (ls_n S b0) 0 = k + 1 from hk]
          refine gg_iconst (v := 1) dc_M_sets_64 (by decide) ?_
          refine gg_isub dc_M_sets_65 ?_
          refine gx_top (nI_pred k) ?_
          refine gg_okV (sp_M_valueAt hm hb rfl (by omega)) dc_M_sets_66 ml_M_50 ce_M_valueAt ⟨Nat.le_of_ble_eq_true rfl, Nat.le_of_ble_eq_true rfl⟩ hm.1 rfl rfl (Nat.le_of_ble_eq_true rfl) ⟨rfl, rfl⟩ ⟨Nat.le_of_ble_eq_true rfl, Nat.le_of_ble_eq_true rfl⟩ ?_
          refine gg_goto dc_M_sets_69 ?_
          refine gg_ist (i := 6) dc_M_sets_74 (Nat.le_of_ble_eq_true rfl) rfl ?_
          dsimp only [List.set]
          refine gg_ildn dc_M_sets_76 rfl rfl ?_
          refine gg_ild dc_M_sets_77 rfl ?_
          refine gg_icne dc_M_sets_79 (fun c_79 => ?_) (fun c_79 => ?_)
          · refine gg_aldn dc_M_sets_91 rfl rfl ?_
            refine gg_ildn dc_M_sets_92 rfl rfl ?_
            refine gg_ildn dc_M_sets_93 rfl rfl ?_
            refine gg_ildn dc_M_sets_94 rfl rfl ?_
            refine gg_okVv (sp_M_putsY hm hb hL (by omega) hh) dc_M_sets_95 ml_M_57 ce_M_puts ⟨Nat.le_of_ble_eq_true rfl, Nat.le_of_ble_eq_true rfl⟩ hm.1 rfl rfl (Nat.le_of_ble_eq_true rfl) ⟨rfl, rfl⟩ ⟨Nat.le_of_ble_eq_true rfl, Nat.le_of_ble_eq_true rfl⟩ ?_
            refine gg_ild dc_M_sets_98 rfl ?_
            exact gg_iret dc_M_sets_100 rfl ⟨Nat.le_of_ble_eq_true rfl, Nat.le_of_ble_eq_true rfl⟩ (⟨rfl, rfl⟩)
          · exact absurd c_79 h
      · exact absurd c_30 hh
  · exact absurd c_11 h
set_option maxRecDepth 100000 in
set_option maxHeartbeats 4000000 in
theorem sp_M_setLoadB {Γ : cx_T} {τ : Nat × (Nat → sh_T)} {ν : Nat → Nat → Int32} {X : Nat → Nat → Int32} {S : Nat → Int32} {m : Nat} (hm : sh_M τ.2 m) {x y : Int32} (h : in_I x (-20000) 20000 = 0 ∨ in_I y (-1) 200 = 0) : mt_P Γ mk_M_setLoad [.ref m, .int x, .int y] (τ, mv_N ν m (va_up X 1 S)) (fun v μ' => v = some (.int (-1000001)) ∧ μ' = (τ, mv_N ν m (va_up (X) 1 (S)))) := by
  refine mt_of (L := [some (.ref m), some (.int x), some (.int y)]) (by decide +kernel) (by simp [Value.category]) (Nat.le_of_ble_eq_true rfl) (lc_3_3 ()) ?_
  refine gg_ildn dc_M_setLoad_0 rfl rfl ?_
  refine gg_okS (sp_M_isPlace) dc_M_setLoad_1 ml_M_65 ce_M_isPlace ⟨Nat.le_of_ble_eq_true rfl, Nat.le_of_ble_eq_true rfl⟩ rfl (Nat.le_of_ble_eq_true rfl) ⟨rfl, rfl⟩ ⟨Nat.le_of_ble_eq_true rfl, Nat.le_of_ble_eq_true rfl⟩ ?_
  refine gg_ifeq dc_M_setLoad_4 (fun c_4 => ?_) (fun c_4 => ?_)
  · refine gg_ldc dc_M_setLoad_30 lk_M_64 ?_
    exact gg_iret dc_M_setLoad_32 rfl ⟨Nat.le_of_ble_eq_true rfl, Nat.le_of_ble_eq_true rfl⟩ (⟨rfl, rfl⟩)
  · refine gg_ildn dc_M_setLoad_7 rfl rfl ?_
    refine gg_iconst (v := (-1)) dc_M_setLoad_8 (by decide) ?_
    refine gg_sipush (v := 200) dc_M_setLoad_9 (by decide) ?_
    refine gg_okS (sp_M_in) dc_M_setLoad_12 ml_M_31 ce_M_in ⟨Nat.le_of_ble_eq_true rfl, Nat.le_of_ble_eq_true rfl⟩ rfl (Nat.le_of_ble_eq_true rfl) ⟨rfl, rfl⟩ ⟨Nat.le_of_ble_eq_true rfl, Nat.le_of_ble_eq_true rfl⟩ ?_
    refine gg_ifeq dc_M_setLoad_15 (fun c_15 => ?_) (fun c_15 => ?_)
    · refine gg_ldc dc_M_setLoad_30 lk_M_64 ?_
      exact gg_iret dc_M_setLoad_32 rfl ⟨Nat.le_of_ble_eq_true rfl, Nat.le_of_ble_eq_true rfl⟩ (⟨rfl, rfl⟩)
    · exact absurd (h.resolve_left c_4) c_15
set_option maxRecDepth 100000 in
set_option maxHeartbeats 4000000 in
theorem sp_M_setLoad {Γ : cx_T} {τ : Nat × (Nat → sh_T)} {ν : Nat → Nat → Int32} {X : Nat → Nat → Int32} {S : Nat → Int32} {m : Nat} (hm : sh_M τ.2 m) {x y : Int32} {Y : Nat → Nat → Int32} {r : Int32} (h1 : ¬ in_I x (-20000) 20000 = 0) (h2 : ¬ in_I y (-1) 200 = 0) (hr : mt_P Γ mk_M_sets [.ref m, .int 21, .int x, .int y, .int (-1)] (τ, mv_N ν m (va_up X 1 S)) (fun v μ' => v = some (.int r) ∧ μ' = (τ, mv_N ν m Y))) : mt_P Γ mk_M_setLoad [.ref m, .int x, .int y] (τ, mv_N ν m (va_up X 1 S)) (fun v μ' => v = some (.int (r)) ∧ μ' = (τ, mv_N ν m (Y))) := by
  refine mt_of (L := [some (.ref m), some (.int x), some (.int y)]) (by decide +kernel) (by simp [Value.category]) (Nat.le_of_ble_eq_true rfl) (lc_3_3 ()) ?_
  refine gg_ildn dc_M_setLoad_0 rfl rfl ?_
  refine gg_okS (sp_M_isPlace) dc_M_setLoad_1 ml_M_65 ce_M_isPlace ⟨Nat.le_of_ble_eq_true rfl, Nat.le_of_ble_eq_true rfl⟩ rfl (Nat.le_of_ble_eq_true rfl) ⟨rfl, rfl⟩ ⟨Nat.le_of_ble_eq_true rfl, Nat.le_of_ble_eq_true rfl⟩ ?_
  refine gg_ifeq dc_M_setLoad_4 (fun c_4 => ?_) (fun c_4 => ?_)
  · exact absurd c_4 h1
  · refine gg_ildn dc_M_setLoad_7 rfl rfl ?_
    refine gg_iconst (v := (-1)) dc_M_setLoad_8 (by decide) ?_
    refine gg_sipush (v := 200) dc_M_setLoad_9 (by decide) ?_
    refine gg_okS (sp_M_in) dc_M_setLoad_12 ml_M_31 ce_M_in ⟨Nat.le_of_ble_eq_true rfl, Nat.le_of_ble_eq_true rfl⟩ rfl (Nat.le_of_ble_eq_true rfl) ⟨rfl, rfl⟩ ⟨Nat.le_of_ble_eq_true rfl, Nat.le_of_ble_eq_true rfl⟩ ?_
    refine gg_ifeq dc_M_setLoad_15 (fun c_15 => ?_) (fun c_15 => ?_)
    · exact absurd c_15 h2
    · refine gg_aldn dc_M_setLoad_18 rfl rfl ?_
      refine gg_bipush (v := 21) dc_M_setLoad_19 (by decide) ?_
      refine gg_ildn dc_M_setLoad_21 rfl rfl ?_
      refine gg_ildn dc_M_setLoad_22 rfl rfl ?_
      refine gg_iconst (v := (-1)) dc_M_setLoad_23 (by decide) ?_
      refine gg_okV (hr) dc_M_setLoad_24 ml_M_69 ce_M_sets ⟨Nat.le_of_ble_eq_true rfl, Nat.le_of_ble_eq_true rfl⟩ hm.1 rfl rfl (Nat.le_of_ble_eq_true rfl) ⟨rfl, rfl⟩ ⟨Nat.le_of_ble_eq_true rfl, Nat.le_of_ble_eq_true rfl⟩ ?_
      refine gg_goto dc_M_setLoad_27 ?_
      exact gg_iret dc_M_setLoad_32 rfl ⟨Nat.le_of_ble_eq_true rfl, Nat.le_of_ble_eq_true rfl⟩ (⟨rfl, rfl⟩)
set_option maxRecDepth 100000 in
set_option maxHeartbeats 4000000 in
theorem sp_M_setCombB {Γ : cx_T} {τ : Nat × (Nat → sh_T)} {ν : Nat → Nat → Int32} {X : Nat → Nat → Int32} {S : Nat → Int32} {m : Nat} (hm : sh_M τ.2 m) {x y : Int32} (h : in_I x (-20000) 20000 = 0 ∨ in_I y (-99) 100 = 0) : mt_P Γ mk_M_setComb [.ref m, .int x, .int y] (τ, mv_N ν m (va_up X 1 S)) (fun v μ' => v = some (.int (-1000001)) ∧ μ' = (τ, mv_N ν m (va_up (X) 1 (S)))) := by
  refine mt_of (L := [some (.ref m), some (.int x), some (.int y)]) (by decide +kernel) (by simp [Value.category]) (Nat.le_of_ble_eq_true rfl) (lc_3_3 ()) ?_
  refine gg_ildn dc_M_setComb_0 rfl rfl ?_
  refine gg_okS (sp_M_isPlace) dc_M_setComb_1 ml_M_65 ce_M_isPlace ⟨Nat.le_of_ble_eq_true rfl, Nat.le_of_ble_eq_true rfl⟩ rfl (Nat.le_of_ble_eq_true rfl) ⟨rfl, rfl⟩ ⟨Nat.le_of_ble_eq_true rfl, Nat.le_of_ble_eq_true rfl⟩ ?_
  refine gg_ifeq dc_M_setComb_4 (fun c_4 => ?_) (fun c_4 => ?_)
  · refine gg_ldc dc_M_setComb_31 lk_M_64 ?_
    exact gg_iret dc_M_setComb_33 rfl ⟨Nat.le_of_ble_eq_true rfl, Nat.le_of_ble_eq_true rfl⟩ (⟨rfl, rfl⟩)
  · refine gg_ildn dc_M_setComb_7 rfl rfl ?_
    refine gg_bipush (v := (-99)) dc_M_setComb_8 (by decide) ?_
    refine gg_bipush (v := 100) dc_M_setComb_10 (by decide) ?_
    refine gg_okS (sp_M_in) dc_M_setComb_12 ml_M_31 ce_M_in ⟨Nat.le_of_ble_eq_true rfl, Nat.le_of_ble_eq_true rfl⟩ rfl (Nat.le_of_ble_eq_true rfl) ⟨rfl, rfl⟩ ⟨Nat.le_of_ble_eq_true rfl, Nat.le_of_ble_eq_true rfl⟩ ?_
    refine gg_ifeq dc_M_setComb_15 (fun c_15 => ?_) (fun c_15 => ?_)
    · refine gg_ldc dc_M_setComb_31 lk_M_64 ?_
      exact gg_iret dc_M_setComb_33 rfl ⟨Nat.le_of_ble_eq_true rfl, Nat.le_of_ble_eq_true rfl⟩ (⟨rfl, rfl⟩)
    · exact absurd (h.resolve_left c_4) c_15
set_option maxRecDepth 100000 in
set_option maxHeartbeats 4000000 in
theorem sp_M_setComb {Γ : cx_T} {τ : Nat × (Nat → sh_T)} {ν : Nat → Nat → Int32} {X : Nat → Nat → Int32} {S : Nat → Int32} {m : Nat} (hm : sh_M τ.2 m) {x y : Int32} {Y : Nat → Nat → Int32} {r : Int32} (h1 : ¬ in_I x (-20000) 20000 = 0) (h2 : ¬ in_I y (-99) 100 = 0) (hr : mt_P Γ mk_M_sets [.ref m, .int 42, .int x, .int y, .int 100] (τ, mv_N ν m (va_up X 1 S)) (fun v μ' => v = some (.int r) ∧ μ' = (τ, mv_N ν m Y))) : mt_P Γ mk_M_setComb [.ref m, .int x, .int y] (τ, mv_N ν m (va_up X 1 S)) (fun v μ' => v = some (.int (r)) ∧ μ' = (τ, mv_N ν m (Y))) := by
  refine mt_of (L := [some (.ref m), some (.int x), some (.int y)]) (by decide +kernel) (by simp [Value.category]) (Nat.le_of_ble_eq_true rfl) (lc_3_3 ()) ?_
  refine gg_ildn dc_M_setComb_0 rfl rfl ?_
  refine gg_okS (sp_M_isPlace) dc_M_setComb_1 ml_M_65 ce_M_isPlace ⟨Nat.le_of_ble_eq_true rfl, Nat.le_of_ble_eq_true rfl⟩ rfl (Nat.le_of_ble_eq_true rfl) ⟨rfl, rfl⟩ ⟨Nat.le_of_ble_eq_true rfl, Nat.le_of_ble_eq_true rfl⟩ ?_
  refine gg_ifeq dc_M_setComb_4 (fun c_4 => ?_) (fun c_4 => ?_)
  · exact absurd c_4 h1
  · refine gg_ildn dc_M_setComb_7 rfl rfl ?_
    refine gg_bipush (v := (-99)) dc_M_setComb_8 (by decide) ?_
    refine gg_bipush (v := 100) dc_M_setComb_10 (by decide) ?_
    refine gg_okS (sp_M_in) dc_M_setComb_12 ml_M_31 ce_M_in ⟨Nat.le_of_ble_eq_true rfl, Nat.le_of_ble_eq_true rfl⟩ rfl (Nat.le_of_ble_eq_true rfl) ⟨rfl, rfl⟩ ⟨Nat.le_of_ble_eq_true rfl, Nat.le_of_ble_eq_true rfl⟩ ?_
    refine gg_ifeq dc_M_setComb_15 (fun c_15 => ?_) (fun c_15 => ?_)
    · exact absurd c_15 h2
    · refine gg_aldn dc_M_setComb_18 rfl rfl ?_
      refine gg_bipush (v := 42) dc_M_setComb_19 (by decide) ?_
      refine gg_ildn dc_M_setComb_21 rfl rfl ?_
      refine gg_ildn dc_M_setComb_22 rfl rfl ?_
      refine gg_bipush (v := 100) dc_M_setComb_23 (by decide) ?_
      refine gg_okV (hr) dc_M_setComb_25 ml_M_69 ce_M_sets ⟨Nat.le_of_ble_eq_true rfl, Nat.le_of_ble_eq_true rfl⟩ hm.1 rfl rfl (Nat.le_of_ble_eq_true rfl) ⟨rfl, rfl⟩ ⟨Nat.le_of_ble_eq_true rfl, Nat.le_of_ble_eq_true rfl⟩ ?_
      refine gg_goto dc_M_setComb_28 ?_
      exact gg_iret dc_M_setComb_33 rfl ⟨Nat.le_of_ble_eq_true rfl, Nat.le_of_ble_eq_true rfl⟩ (⟨rfl, rfl⟩)
set_option maxRecDepth 100000 in
set_option maxHeartbeats 4000000 in
theorem sp_M_moveToB {Γ : cx_T} {τ : Nat × (Nat → sh_T)} {ν : Nat → Nat → Int32} {X : Nat → Nat → Int32} {S : Nat → Int32} {m : Nat} (hm : sh_M τ.2 m) {x : Int32} (h : in_I x (-20000) 20000 = 0) : mt_P Γ mk_M_moveTo [.ref m, .int x] (τ, mv_N ν m (va_up X 1 S)) (fun v μ' => v = some (.int (-1000001)) ∧ μ' = (τ, mv_N ν m (va_up (X) 1 (S)))) := by
  refine mt_of (L := [some (.ref m), some (.int x), none]) (by decide +kernel) (by simp [Value.category]) (Nat.le_of_ble_eq_true rfl) (lc_2_3 ()) ?_
  refine gg_ildn dc_M_moveTo_0 rfl rfl ?_
  refine gg_okS (sp_M_isPlace) dc_M_moveTo_1 ml_M_65 ce_M_isPlace ⟨Nat.le_of_ble_eq_true rfl, Nat.le_of_ble_eq_true rfl⟩ rfl (Nat.le_of_ble_eq_true rfl) ⟨rfl, rfl⟩ ⟨Nat.le_of_ble_eq_true rfl, Nat.le_of_ble_eq_true rfl⟩ ?_
  refine gg_ifne dc_M_moveTo_4 (fun c_4 => ?_) (fun c_4 => ?_)
  · exact absurd h c_4
  · refine gg_ldc dc_M_moveTo_7 lk_M_64 ?_
    exact gg_iret dc_M_moveTo_9 rfl ⟨Nat.le_of_ble_eq_true rfl, Nat.le_of_ble_eq_true rfl⟩ (⟨rfl, rfl⟩)
set_option maxRecDepth 100000 in
set_option maxHeartbeats 4000000 in
theorem sp_M_moveToI {Γ : cx_T} {τ : Nat × (Nat → sh_T)} {ν : Nat → Nat → Int32} {X : Nat → Nat → Int32} {S : Nat → Int32} {m : Nat} (hm : sh_M τ.2 m) {x : Int32} (hR : RI S) (h1 : ¬ in_I x (-20000) 20000 = 0) (h : in_I (am_S S x) (-20000) 20000 = 0) : mt_P Γ mk_M_moveTo [.ref m, .int x] (τ, mv_N ν m (va_up X 1 S)) (fun v μ' => v = some (.int (-1000002)) ∧ μ' = (τ, mv_N ν m (va_up (X) 1 (S)))) := by
  refine mt_of (L := [some (.ref m), some (.int x), none]) (by decide +kernel) (by simp [Value.category]) (Nat.le_of_ble_eq_true rfl) (lc_2_3 ()) ?_
  refine gg_ildn dc_M_moveTo_0 rfl rfl ?_
  refine gg_okS (sp_M_isPlace) dc_M_moveTo_1 ml_M_65 ce_M_isPlace ⟨Nat.le_of_ble_eq_true rfl, Nat.le_of_ble_eq_true rfl⟩ rfl (Nat.le_of_ble_eq_true rfl) ⟨rfl, rfl⟩ ⟨Nat.le_of_ble_eq_true rfl, Nat.le_of_ble_eq_true rfl⟩ ?_
  refine gg_ifne dc_M_moveTo_4 (fun c_4 => ?_) (fun c_4 => ?_)
  · refine gg_aldn dc_M_moveTo_10 rfl rfl ?_
    refine gg_ildn dc_M_moveTo_11 rfl rfl ?_
    refine gg_okV (sp_M_aimOf hm hR.2.1 hR.2.2.2.1) dc_M_moveTo_12 ml_M_129 ce_M_aimOf ⟨Nat.le_of_ble_eq_true rfl, Nat.le_of_ble_eq_true rfl⟩ hm.1 rfl rfl (Nat.le_of_ble_eq_true rfl) ⟨rfl, rfl⟩ ⟨Nat.le_of_ble_eq_true rfl, Nat.le_of_ble_eq_true rfl⟩ ?_
    refine gg_okS (sp_M_isPlace) dc_M_moveTo_15 ml_M_65 ce_M_isPlace ⟨Nat.le_of_ble_eq_true rfl, Nat.le_of_ble_eq_true rfl⟩ rfl (Nat.le_of_ble_eq_true rfl) ⟨rfl, rfl⟩ ⟨Nat.le_of_ble_eq_true rfl, Nat.le_of_ble_eq_true rfl⟩ ?_
    refine gg_ifne dc_M_moveTo_18 (fun c_18 => ?_) (fun c_18 => ?_)
    · exact absurd h c_18
    · refine gg_ldc dc_M_moveTo_21 lk_M_30 ?_
      exact gg_iret dc_M_moveTo_23 rfl ⟨Nat.le_of_ble_eq_true rfl, Nat.le_of_ble_eq_true rfl⟩ (⟨rfl, rfl⟩)
  · exact absurd c_4 h1
set_option maxRecDepth 100000 in
set_option maxHeartbeats 4000000 in
theorem sp_M_moveTo {Γ : cx_T} {τ : Nat × (Nat → sh_T)} {ν : Nat → Nat → Int32} {X : Nat → Nat → Int32} {S : Nat → Int32} {m : Nat} (hm : sh_M τ.2 m) {x : Int32} (hp : PS X) (hR : RI S) (h1 : ¬ in_I x (-20000) 20000 = 0) (h : ¬ in_I (am_S S x) (-20000) 20000 = 0) : mt_P Γ mk_M_moveTo [.ref m, .int x] (τ, mv_N ν m (va_up X 1 S)) (fun v μ' => v = some (.int (mo_S S x 10 - S 10)) ∧ μ' = (τ, mv_N ν m (va_up (nt_X (va_up X 1 S)) 1 (mo_S S x)))) := by
  refine mt_of (L := [some (.ref m), some (.int x), none]) (by decide +kernel) (by simp [Value.category]) (Nat.le_of_ble_eq_true rfl) (lc_2_3 ()) ?_
  refine gg_ildn dc_M_moveTo_0 rfl rfl ?_
  refine gg_okS (sp_M_isPlace) dc_M_moveTo_1 ml_M_65 ce_M_isPlace ⟨Nat.le_of_ble_eq_true rfl, Nat.le_of_ble_eq_true rfl⟩ rfl (Nat.le_of_ble_eq_true rfl) ⟨rfl, rfl⟩ ⟨Nat.le_of_ble_eq_true rfl, Nat.le_of_ble_eq_true rfl⟩ ?_
  refine gg_ifne dc_M_moveTo_4 (fun c_4 => ?_) (fun c_4 => ?_)
  · refine gg_aldn dc_M_moveTo_10 rfl rfl ?_
    refine gg_ildn dc_M_moveTo_11 rfl rfl ?_
    refine gg_okV (sp_M_aimOf hm hR.2.1 hR.2.2.2.1) dc_M_moveTo_12 ml_M_129 ce_M_aimOf ⟨Nat.le_of_ble_eq_true rfl, Nat.le_of_ble_eq_true rfl⟩ hm.1 rfl rfl (Nat.le_of_ble_eq_true rfl) ⟨rfl, rfl⟩ ⟨Nat.le_of_ble_eq_true rfl, Nat.le_of_ble_eq_true rfl⟩ ?_
    refine gg_okS (sp_M_isPlace) dc_M_moveTo_15 ml_M_65 ce_M_isPlace ⟨Nat.le_of_ble_eq_true rfl, Nat.le_of_ble_eq_true rfl⟩ rfl (Nat.le_of_ble_eq_true rfl) ⟨rfl, rfl⟩ ⟨Nat.le_of_ble_eq_true rfl, Nat.le_of_ble_eq_true rfl⟩ ?_
    refine gg_ifne dc_M_moveTo_18 (fun c_18 => ?_) (fun c_18 => ?_)
    · refine gg_aldn dc_M_moveTo_24 rfl rfl ?_
      refine gg_okVv (sp_M_notesS hm hp) dc_M_moveTo_25 ml_M_47 ce_M_notes ⟨Nat.le_of_ble_eq_true rfl, Nat.le_of_ble_eq_true rfl⟩ hm.1 rfl rfl (Nat.le_of_ble_eq_true rfl) ⟨rfl, rfl⟩ ⟨Nat.le_of_ble_eq_true rfl, Nat.le_of_ble_eq_true rfl⟩ ?_
      refine gg_aldn dc_M_moveTo_28 rfl rfl ?_
      refine gg_getr dc_M_moveTo_29 lf_M_7 hm.1 rfl ?_
      refine gg_bipush (v := 10) dc_M_moveTo_32 (by decide) ?_
      refine gms_r (k := 10) dc_M_moveTo_34 hm ⟨rfl, Nat.le_of_ble_eq_true rfl⟩ ?_
      refine gg_istn (i := 2) dc_M_moveTo_35 rfl (Nat.le_of_ble_eq_true rfl) rfl ?_
      dsimp only [List.set]
      refine gg_aldn dc_M_moveTo_36 rfl rfl ?_
      refine gg_ildn dc_M_moveTo_37 rfl rfl ?_
      refine gg_okVv (sp_M_moves hm hR.1 hR.2.1 hR.2.2.2.1 hR.2.2.2.2) dc_M_moveTo_38 ml_M_136 ce_M_moves ⟨Nat.le_of_ble_eq_true rfl, Nat.le_of_ble_eq_true rfl⟩ hm.1 rfl rfl (Nat.le_of_ble_eq_true rfl) ⟨rfl, rfl⟩ ⟨Nat.le_of_ble_eq_true rfl, Nat.le_of_ble_eq_true rfl⟩ ?_
      refine gg_aldn dc_M_moveTo_41 rfl rfl ?_
      refine gg_getr dc_M_moveTo_42 lf_M_7 hm.1 rfl ?_
      refine gg_bipush (v := 10) dc_M_moveTo_45 (by decide) ?_
      refine gms_r (k := 10) dc_M_moveTo_47 hm ⟨rfl, Nat.le_of_ble_eq_true rfl⟩ ?_
      refine gg_ildn dc_M_moveTo_48 rfl rfl ?_
      refine gg_isub dc_M_moveTo_49 ?_
      exact gg_iret dc_M_moveTo_50 rfl ⟨Nat.le_of_ble_eq_true rfl, Nat.le_of_ble_eq_true rfl⟩ (⟨rfl, rfl⟩)
    · exact absurd c_18 h
  · exact absurd c_4 h1
set_option maxRecDepth 100000 in
set_option maxHeartbeats 4000000 in
theorem sp_M_addCommandB {Γ : cx_T} {τ : Nat × (Nat → sh_T)} {ν : Nat → Nat → Int32} {X : Nat → Nat → Int32} {S : Nat → Int32} {m : Nat} (hm : sh_M τ.2 m) {x y : Int32} (h : in_I x (-20000) 20000 = 0 ∨ in_I y 0 9 = 0) : mt_P Γ mk_M_addCommand [.ref m, .int x, .int y] (τ, mv_N ν m (va_up X 1 S)) (fun v μ' => v = some (.int (-1000001)) ∧ μ' = (τ, mv_N ν m (va_up (X) 1 (S)))) := by
  refine mt_of (L := [some (.ref m), some (.int x), some (.int y), none]) (by decide +kernel) (by simp [Value.category]) (Nat.le_of_ble_eq_true rfl) (lc_3_4 ()) ?_
  refine gg_ildn dc_M_addCommand_0 rfl rfl ?_
  refine gg_okS (sp_M_isPlace) dc_M_addCommand_1 ml_M_65 ce_M_isPlace ⟨Nat.le_of_ble_eq_true rfl, Nat.le_of_ble_eq_true rfl⟩ rfl (Nat.le_of_ble_eq_true rfl) ⟨rfl, rfl⟩ ⟨Nat.le_of_ble_eq_true rfl, Nat.le_of_ble_eq_true rfl⟩ ?_
  refine gg_ifeq dc_M_addCommand_4 (fun c_4 => ?_) (fun c_4 => ?_)
  · refine gg_ldc dc_M_addCommand_17 lk_M_64 ?_
    exact gg_iret dc_M_addCommand_19 rfl ⟨Nat.le_of_ble_eq_true rfl, Nat.le_of_ble_eq_true rfl⟩ (⟨rfl, rfl⟩)
  · refine gg_ildn dc_M_addCommand_7 rfl rfl ?_
    refine gg_iconst (v := 0) dc_M_addCommand_8 (by decide) ?_
    refine gg_bipush (v := 9) dc_M_addCommand_9 (by decide) ?_
    refine gg_okS (sp_M_in) dc_M_addCommand_11 ml_M_31 ce_M_in ⟨Nat.le_of_ble_eq_true rfl, Nat.le_of_ble_eq_true rfl⟩ rfl (Nat.le_of_ble_eq_true rfl) ⟨rfl, rfl⟩ ⟨Nat.le_of_ble_eq_true rfl, Nat.le_of_ble_eq_true rfl⟩ ?_
    refine gg_ifne dc_M_addCommand_14 (fun c_14 => ?_) (fun c_14 => ?_)
    · exact absurd (h.resolve_left c_4) c_14
    · refine gg_ldc dc_M_addCommand_17 lk_M_64 ?_
      exact gg_iret dc_M_addCommand_19 rfl ⟨Nat.le_of_ble_eq_true rfl, Nat.le_of_ble_eq_true rfl⟩ (⟨rfl, rfl⟩)
set_option maxRecDepth 100000 in
set_option maxHeartbeats 4000000 in
theorem sp_M_addCommandC {Γ : cx_T} {τ : Nat × (Nat → sh_T)} {ν : Nat → Nat → Int32} {X : Nat → Nat → Int32} {S : Nat → Int32} {m : Nat} (hm : sh_M τ.2 m) {x y : Int32} (h1 : ¬ in_I x (-20000) 20000 = 0) (h2 : ¬ in_I y 0 9 = 0) (h : S 63 = 8) : mt_P Γ mk_M_addCommand [.ref m, .int x, .int y] (τ, mv_N ν m (va_up X 1 S)) (fun v μ' => v = some (.int (-1000003)) ∧ μ' = (τ, mv_N ν m (va_up (X) 1 (S)))) := by
  refine mt_of (L := [some (.ref m), some (.int x), some (.int y), none]) (by decide +kernel) (by simp [Value.category]) (Nat.le_of_ble_eq_true rfl) (lc_3_4 ()) ?_
  refine gg_ildn dc_M_addCommand_0 rfl rfl ?_
  refine gg_okS (sp_M_isPlace) dc_M_addCommand_1 ml_M_65 ce_M_isPlace ⟨Nat.le_of_ble_eq_true rfl, Nat.le_of_ble_eq_true rfl⟩ rfl (Nat.le_of_ble_eq_true rfl) ⟨rfl, rfl⟩ ⟨Nat.le_of_ble_eq_true rfl, Nat.le_of_ble_eq_true rfl⟩ ?_
  refine gg_ifeq dc_M_addCommand_4 (fun c_4 => ?_) (fun c_4 => ?_)
  · exact absurd c_4 h1
  · refine gg_ildn dc_M_addCommand_7 rfl rfl ?_
    refine gg_iconst (v := 0) dc_M_addCommand_8 (by decide) ?_
    refine gg_bipush (v := 9) dc_M_addCommand_9 (by decide) ?_
    refine gg_okS (sp_M_in) dc_M_addCommand_11 ml_M_31 ce_M_in ⟨Nat.le_of_ble_eq_true rfl, Nat.le_of_ble_eq_true rfl⟩ rfl (Nat.le_of_ble_eq_true rfl) ⟨rfl, rfl⟩ ⟨Nat.le_of_ble_eq_true rfl, Nat.le_of_ble_eq_true rfl⟩ ?_
    refine gg_ifne dc_M_addCommand_14 (fun c_14 => ?_) (fun c_14 => ?_)
    · refine gg_aldn dc_M_addCommand_20 rfl rfl ?_
      refine gg_getr dc_M_addCommand_21 lf_M_7 hm.1 rfl ?_
      refine gg_bipush (v := 63) dc_M_addCommand_24 (by decide) ?_
      refine gms_r (k := 63) dc_M_addCommand_26 hm ⟨rfl, Nat.le_of_ble_eq_true rfl⟩ ?_
      refine gg_bipush (v := 8) dc_M_addCommand_27 (by decide) ?_
      refine gg_icne dc_M_addCommand_29 (fun c_29 => ?_) (fun c_29 => ?_)
      · exact absurd h c_29
      · refine gg_ldc dc_M_addCommand_32 lk_M_46 ?_
        exact gg_iret dc_M_addCommand_34 rfl ⟨Nat.le_of_ble_eq_true rfl, Nat.le_of_ble_eq_true rfl⟩ (⟨rfl, rfl⟩)
    · exact absurd c_14 h2
set_option maxRecDepth 100000 in
set_option maxHeartbeats 4000000 in
theorem sp_M_addCommand {Γ : cx_T} {τ : Nat × (Nat → sh_T)} {ν : Nat → Nat → Int32} {X : Nat → Nat → Int32} {S : Nat → Int32} {m : Nat} (hm : sh_M τ.2 m) {x y : Int32} {n : Nat} (hp : PS X) (h1 : ¬ in_I x (-20000) 20000 = 0) (h2 : ¬ in_I y 0 9 = 0) (hn : S 63 = nI n) (hlt : n < 8) : mt_P Γ mk_M_addCommand [.ref m, .int x, .int y] (τ, mv_N ν m (va_up X 1 S)) (fun v μ' => v = some (.int (nI (n + 1))) ∧ μ' = (τ, mv_N ν m (va_up (nt_X (va_up X 1 S)) 1 (ca_S S x y n (pq_N (fun k => S (65 + 2 * k)) y n))))) := by
  refine mt_of (L := [some (.ref m), some (.int x), some (.int y), none]) (by decide +kernel) (by simp [Value.category]) (Nat.le_of_ble_eq_true rfl) (lc_3_4 ()) ?_
  have loop : ∀ (Y : Nat → Nat → Int32) (k : Nat), k ≤ n → pq_N (fun k => S (65 + 2 * k)) y k = pq_N (fun k => S (65 + 2 * k)) y n → gg_P Γ mk_M_addCommand (fun v μ' => v = some (.int (nI (n + 1))) ∧ μ' = (τ, mv_N ν m (va_up Y 1 (ca_S S x y n (pq_N (fun k => S (65 + 2 * k)) y n))))) 0 0 47 [some (.ref m), some (.int x), some (.int y), some (.int (nI k))] [] (τ, mv_N ν m (va_up Y 1 (sf_S S 63 (2 * k + 2) (2 * n + 2)))) := by
    intro Y k
    induction k with
    | zero =>
      intro hk hu
      refine gg_ildn dc_M_addCommand_47 rfl rfl ?_
      refine gg_ifle dc_M_addCommand_48 (fun c_48 => ?_) (fun c_48 => ?_)
      · refine gg_aldn dc_M_addCommand_107 rfl rfl ?_
        refine gg_getr dc_M_addCommand_108 lf_M_7 hm.1 rfl ?_
        refine gg_bipush (v := 64) dc_M_addCommand_111 (by decide) ?_
        refine gg_iconst (v := 2) dc_M_addCommand_113 (by decide) ?_
        refine gg_ildn dc_M_addCommand_114 rfl rfl ?_
        refine gg_imul dc_M_addCommand_115 ?_
        refine gg_iadd dc_M_addCommand_116 ?_
        refine gg_ildn dc_M_addCommand_117 rfl rfl ?_
        refine gms_w (k := 64 + 2 * 0) dc_M_addCommand_118 hm (⟨by rw [show (64 : Int32) = nI 64 from rfl, tw_0, nI_add], by omega⟩) ?_
        refine gg_aldn dc_M_addCommand_119 rfl rfl ?_
        refine gg_getr dc_M_addCommand_120 lf_M_7 hm.1 rfl ?_
        refine gg_bipush (v := 65) dc_M_addCommand_123 (by decide) ?_
        refine gg_iconst (v := 2) dc_M_addCommand_125 (by decide) ?_
        refine gg_ildn dc_M_addCommand_126 rfl rfl ?_
        refine gg_imul dc_M_addCommand_127 ?_
        refine gg_iadd dc_M_addCommand_128 ?_
        refine gg_ildn dc_M_addCommand_129 rfl rfl ?_
        refine gms_w (k := 65 + 2 * 0) dc_M_addCommand_130 hm (⟨by rw [show (65 : Int32) = nI 65 from rfl, tw_0, nI_add], by omega⟩) ?_
        refine gg_aldn dc_M_addCommand_131 rfl rfl ?_
        refine gg_getr dc_M_addCommand_132 lf_M_7 hm.1 rfl ?_
        refine gg_bipush (v := 63) dc_M_addCommand_135 (by decide) ?_
        refine gg_dup2 dc_M_addCommand_137 rfl rfl ?_
        refine gms_r (k := 63) dc_M_addCommand_138 hm ⟨rfl, Nat.le_of_ble_eq_true rfl⟩ ?_
        refine gx_top (show upd (upd (sf_S S 63 (2 * 0 + 2) (2 * n + 2)) (64 + 2 * 0) x) (65 + 2 * 0) y 63 = nI n by rw [ud_ne (by omega), ud_ne (by omega), sf_b]; exact hn) ?_
        refine gg_iconst (v := 1) dc_M_addCommand_139 (by decide) ?_
        refine gg_iadd dc_M_addCommand_140 ?_
        refine gx_top (nI_1 n) ?_
        refine gms_w (k := 63) dc_M_addCommand_141 hm ⟨rfl, Nat.le_of_ble_eq_true rfl⟩ ?_
        refine gg_aldn dc_M_addCommand_142 rfl rfl ?_
        refine gg_getr dc_M_addCommand_143 lf_M_7 hm.1 rfl ?_
        refine gg_bipush (v := 63) dc_M_addCommand_146 (by decide) ?_
        refine gms_r (k := 63) dc_M_addCommand_148 hm ⟨rfl, Nat.le_of_ble_eq_true rfl⟩ ?_
        refine gx_top (ud_eq) ?_
        exact gg_iret dc_M_addCommand_149 rfl ⟨Nat.le_of_ble_eq_true rfl, Nat.le_of_ble_eq_true rfl⟩ (⟨rfl, by rw [← hu]; rfl⟩)
      · exact absurd (Int32.le_refl _) c_48
    | succ k ih =>
      intro hk hu
      refine gg_ildn dc_M_addCommand_47 rfl rfl ?_
      refine gg_ifle dc_M_addCommand_48 (fun c_48 => ?_) (fun c_48 => ?_)
      · exact absurd c_48 (by
          refine Int32.not_le.mpr (nI_lt (a := 0) (by omega) (by omega)))
      · refine gg_aldn dc_M_addCommand_51 rfl rfl ?_
        refine gg_ildn dc_M_addCommand_52 rfl rfl ?_
        refine gg_iconst (v := 1) dc_M_addCommand_53 (by decide) ?_
        refine gg_isub dc_M_addCommand_54 ?_
        refine gg_iconst (v := 1) dc_M_addCommand_55 (by decide) ?_
        refine gg_okV (sp_M_commandOf hm (k := k) (q := 1) (nI_pred k) rfl (by omega) (by omega)) dc_M_addCommand_56 ml_M_139 ce_M_commandOf ⟨Nat.le_of_ble_eq_true rfl, Nat.le_of_ble_eq_true rfl⟩ hm.1 rfl rfl (Nat.le_of_ble_eq_true rfl) ⟨rfl, rfl⟩ ⟨Nat.le_of_ble_eq_true rfl, Nat.le_of_ble_eq_true rfl⟩ ?_
        refine gx_top (show (sf_S S 63 (2 * (k + 1) + 2) (2 * n + 2)) (64 + 2 * k + 1) = S (65 + 2 * k) by unfold sf_S; rw [if_neg (by omega), show 64 + 2 * k + 1 = 65 + 2 * k by omega]) ?_
        refine gg_ildn dc_M_addCommand_59 rfl rfl ?_
        refine gg_icge dc_M_addCommand_60 (fun c_60 => ?_) (fun c_60 => ?_)
        · refine gg_aldn dc_M_addCommand_107 rfl rfl ?_
          refine gg_getr dc_M_addCommand_108 lf_M_7 hm.1 rfl ?_
          refine gg_bipush (v := 64) dc_M_addCommand_111 (by decide) ?_
          refine gg_iconst (v := 2) dc_M_addCommand_113 (by decide) ?_
          refine gg_ildn dc_M_addCommand_114 rfl rfl ?_
          refine gg_imul dc_M_addCommand_115 ?_
          refine gg_iadd dc_M_addCommand_116 ?_
          refine gg_ildn dc_M_addCommand_117 rfl rfl ?_
          refine gms_w (k := 64 + 2 * (k + 1)) dc_M_addCommand_118 hm (⟨by rw [show (64 : Int32) = nI 64 from rfl, tw_0, nI_add], by omega⟩) ?_
          refine gg_aldn dc_M_addCommand_119 rfl rfl ?_
          refine gg_getr dc_M_addCommand_120 lf_M_7 hm.1 rfl ?_
          refine gg_bipush (v := 65) dc_M_addCommand_123 (by decide) ?_
          refine gg_iconst (v := 2) dc_M_addCommand_125 (by decide) ?_
          refine gg_ildn dc_M_addCommand_126 rfl rfl ?_
          refine gg_imul dc_M_addCommand_127 ?_
          refine gg_iadd dc_M_addCommand_128 ?_
          refine gg_ildn dc_M_addCommand_129 rfl rfl ?_
          refine gms_w (k := 65 + 2 * (k + 1)) dc_M_addCommand_130 hm (⟨by rw [show (65 : Int32) = nI 65 from rfl, tw_0, nI_add], by omega⟩) ?_
          refine gg_aldn dc_M_addCommand_131 rfl rfl ?_
          refine gg_getr dc_M_addCommand_132 lf_M_7 hm.1 rfl ?_
          refine gg_bipush (v := 63) dc_M_addCommand_135 (by decide) ?_
          refine gg_dup2 dc_M_addCommand_137 rfl rfl ?_
          refine gms_r (k := 63) dc_M_addCommand_138 hm ⟨rfl, Nat.le_of_ble_eq_true rfl⟩ ?_
          refine gx_top (show upd (upd (sf_S S 63 (2 * (k + 1) + 2) (2 * n + 2)) (64 + 2 * (k + 1)) x) (65 + 2 * (k + 1)) y 63 = nI n by rw [ud_ne (by omega), ud_ne (by omega), sf_b]; exact hn) ?_
          refine gg_iconst (v := 1) dc_M_addCommand_139 (by decide) ?_
          refine gg_iadd dc_M_addCommand_140 ?_
          refine gx_top (nI_1 n) ?_
          refine gms_w (k := 63) dc_M_addCommand_141 hm ⟨rfl, Nat.le_of_ble_eq_true rfl⟩ ?_
          refine gg_aldn dc_M_addCommand_142 rfl rfl ?_
          refine gg_getr dc_M_addCommand_143 lf_M_7 hm.1 rfl ?_
          refine gg_bipush (v := 63) dc_M_addCommand_146 (by decide) ?_
          refine gms_r (k := 63) dc_M_addCommand_148 hm ⟨rfl, Nat.le_of_ble_eq_true rfl⟩ ?_
          refine gx_top (ud_eq) ?_
          exact gg_iret dc_M_addCommand_149 rfl ⟨Nat.le_of_ble_eq_true rfl, Nat.le_of_ble_eq_true rfl⟩ (⟨rfl, by rw [← hu, show pq_N (fun k => S (65 + 2 * k)) y (k + 1) = k + 1 from if_neg (by first | exact Int32.not_lt.mpr c_60 | exact c_60)]; rfl⟩)
        · refine gg_aldn dc_M_addCommand_63 rfl rfl ?_
          refine gg_getr dc_M_addCommand_64 lf_M_7 hm.1 rfl ?_
          refine gg_bipush (v := 64) dc_M_addCommand_67 (by decide) ?_
          refine gg_iconst (v := 2) dc_M_addCommand_69 (by decide) ?_
          refine gg_ildn dc_M_addCommand_70 rfl rfl ?_
          refine gg_imul dc_M_addCommand_71 ?_
          refine gg_iadd dc_M_addCommand_72 ?_
          refine gg_aldn dc_M_addCommand_73 rfl rfl ?_
          refine gg_ildn dc_M_addCommand_74 rfl rfl ?_
          refine gg_iconst (v := 1) dc_M_addCommand_75 (by decide) ?_
          refine gg_isub dc_M_addCommand_76 ?_
          refine gg_iconst (v := 0) dc_M_addCommand_77 (by decide) ?_
          refine gg_okV (sp_M_commandOf hm (k := k) (q := 0) (nI_pred k) rfl (by omega) (by omega)) dc_M_addCommand_78 ml_M_139 ce_M_commandOf ⟨Nat.le_of_ble_eq_true rfl, Nat.le_of_ble_eq_true rfl⟩ hm.1 rfl rfl (Nat.le_of_ble_eq_true rfl) ⟨rfl, rfl⟩ ⟨Nat.le_of_ble_eq_true rfl, Nat.le_of_ble_eq_true rfl⟩ ?_
          refine gx_top (show (sf_S S 63 (2 * (k + 1) + 2) (2 * n + 2)) (64 + 2 * k + 0) = S (64 + 2 * k) by unfold sf_S; rw [if_neg (by omega), Nat.add_zero]) ?_
          refine gms_w (k := 64 + 2 * (k + 1)) dc_M_addCommand_81 hm (⟨by rw [show (64 : Int32) = nI 64 from rfl, tw_0, nI_add], by omega⟩) ?_
          refine gg_aldn dc_M_addCommand_82 rfl rfl ?_
          refine gg_getr dc_M_addCommand_83 lf_M_7 hm.1 rfl ?_
          refine gg_bipush (v := 65) dc_M_addCommand_86 (by decide) ?_
          refine gg_iconst (v := 2) dc_M_addCommand_88 (by decide) ?_
          refine gg_ildn dc_M_addCommand_89 rfl rfl ?_
          refine gg_imul dc_M_addCommand_90 ?_
          refine gg_iadd dc_M_addCommand_91 ?_
          refine gg_aldn dc_M_addCommand_92 rfl rfl ?_
          refine gg_ildn dc_M_addCommand_93 rfl rfl ?_
          refine gg_iconst (v := 1) dc_M_addCommand_94 (by decide) ?_
          refine gg_isub dc_M_addCommand_95 ?_
          refine gg_iconst (v := 1) dc_M_addCommand_96 (by decide) ?_
          refine gg_okV (sp_M_commandOf hm (k := k) (q := 1) (nI_pred k) rfl (by omega) (by omega)) dc_M_addCommand_97 ml_M_139 ce_M_commandOf ⟨Nat.le_of_ble_eq_true rfl, Nat.le_of_ble_eq_true rfl⟩ hm.1 rfl rfl (Nat.le_of_ble_eq_true rfl) ⟨rfl, rfl⟩ ⟨Nat.le_of_ble_eq_true rfl, Nat.le_of_ble_eq_true rfl⟩ ?_
          refine gx_top (show upd (sf_S S 63 (2 * (k + 1) + 2) (2 * n + 2)) (64 + 2 * (k + 1)) (S (64 + 2 * k)) (64 + 2 * k + 1) = S (65 + 2 * k) by unfold sf_S; rw [ud_ne (by omega), if_neg (by omega), show 64 + 2 * k + 1 = 65 + 2 * k by omega]) ?_
          refine gms_w (k := 65 + 2 * (k + 1)) dc_M_addCommand_100 hm (⟨by rw [show (65 : Int32) = nI 65 from rfl, tw_0, nI_add], by omega⟩) ?_
          refine gg_iinc (i := 3) dc_M_addCommand_101 rfl (Nat.le_of_ble_eq_true rfl) rfl ?_
          dsimp only [List.set]
          rw [show Int32.ofInt (-1) = (-1) from by decide]
          refine gg_goto dc_M_addCommand_104 ?_
          rw [sf_2 (by omega)]
          exact gg_e (ih (by omega) (by rw [← hu]; exact (if_pos (Int32.not_le.mp c_60)).symm)) (by rw [pk_m1]) rfl rfl
  refine gg_ildn dc_M_addCommand_0 rfl rfl ?_
  refine gg_okS (sp_M_isPlace) dc_M_addCommand_1 ml_M_65 ce_M_isPlace ⟨Nat.le_of_ble_eq_true rfl, Nat.le_of_ble_eq_true rfl⟩ rfl (Nat.le_of_ble_eq_true rfl) ⟨rfl, rfl⟩ ⟨Nat.le_of_ble_eq_true rfl, Nat.le_of_ble_eq_true rfl⟩ ?_
  refine gg_ifeq dc_M_addCommand_4 (fun c_4 => ?_) (fun c_4 => ?_)
  · exact absurd c_4 h1
  · refine gg_ildn dc_M_addCommand_7 rfl rfl ?_
    refine gg_iconst (v := 0) dc_M_addCommand_8 (by decide) ?_
    refine gg_bipush (v := 9) dc_M_addCommand_9 (by decide) ?_
    refine gg_okS (sp_M_in) dc_M_addCommand_11 ml_M_31 ce_M_in ⟨Nat.le_of_ble_eq_true rfl, Nat.le_of_ble_eq_true rfl⟩ rfl (Nat.le_of_ble_eq_true rfl) ⟨rfl, rfl⟩ ⟨Nat.le_of_ble_eq_true rfl, Nat.le_of_ble_eq_true rfl⟩ ?_
    refine gg_ifne dc_M_addCommand_14 (fun c_14 => ?_) (fun c_14 => ?_)
    · refine gg_aldn dc_M_addCommand_20 rfl rfl ?_
      refine gg_getr dc_M_addCommand_21 lf_M_7 hm.1 rfl ?_
      refine gg_bipush (v := 63) dc_M_addCommand_24 (by decide) ?_
      refine gms_r (k := 63) dc_M_addCommand_26 hm ⟨rfl, Nat.le_of_ble_eq_true rfl⟩ ?_
      refine gg_bipush (v := 8) dc_M_addCommand_27 (by decide) ?_
      refine gg_icne dc_M_addCommand_29 (fun c_29 => ?_) (fun c_29 => ?_)
      · refine gg_aldn dc_M_addCommand_35 rfl rfl ?_
        refine gg_okVv (sp_M_notesS hm hp) dc_M_addCommand_36 ml_M_47 ce_M_notes ⟨Nat.le_of_ble_eq_true rfl, Nat.le_of_ble_eq_true rfl⟩ hm.1 rfl rfl (Nat.le_of_ble_eq_true rfl) ⟨rfl, rfl⟩ ⟨Nat.le_of_ble_eq_true rfl, Nat.le_of_ble_eq_true rfl⟩ ?_
        refine gg_aldn dc_M_addCommand_39 rfl rfl ?_
        refine gg_getr dc_M_addCommand_40 lf_M_7 hm.1 rfl ?_
        refine gg_bipush (v := 63) dc_M_addCommand_43 (by decide) ?_
        refine gms_r (k := 63) dc_M_addCommand_45 hm ⟨rfl, Nat.le_of_ble_eq_true rfl⟩ ?_
        refine gx_top (hn) ?_
        refine gg_istn (i := 3) dc_M_addCommand_46 rfl (Nat.le_of_ble_eq_true rfl) rfl ?_
        dsimp only [List.set]
        exact gg_e (loop _ n (by omega) rfl) rfl rfl (by rw [sf_0])
      · exact absurd ((nI_eq (b := 8) (by omega) (by omega)).mp (hn.symm.trans c_29)) (by omega)
    · exact absurd c_14 h2
set_option maxRecDepth 100000 in
set_option maxHeartbeats 4000000 in
theorem sp_M_reachesB {Γ : cx_T} {τ : Nat × (Nat → sh_T)} {ν : Nat → Nat → Int32} {X : Nat → Nat → Int32} {S : Nat → Int32} {m : Nat} (hm : sh_M τ.2 m) {w : Int32} (h : in_I w 0 1 = 0) : mt_P Γ mk_M_reaches [.ref m, .int w] (τ, mv_N ν m (va_up X 1 S)) (fun v μ' => v = some (.int (-1000001)) ∧ μ' = (τ, mv_N ν m (va_up (X) 1 (S)))) := by
  refine mt_of (L := [some (.ref m), some (.int w), none]) (by decide +kernel) (by simp [Value.category]) (Nat.le_of_ble_eq_true rfl) (lc_2_3 ()) ?_
  refine gg_ildn dc_M_reaches_0 rfl rfl ?_
  refine gg_iconst (v := 0) dc_M_reaches_1 (by decide) ?_
  refine gg_iconst (v := 1) dc_M_reaches_2 (by decide) ?_
  refine gg_okS (sp_M_in) dc_M_reaches_3 ml_M_31 ce_M_in ⟨Nat.le_of_ble_eq_true rfl, Nat.le_of_ble_eq_true rfl⟩ rfl (Nat.le_of_ble_eq_true rfl) ⟨rfl, rfl⟩ ⟨Nat.le_of_ble_eq_true rfl, Nat.le_of_ble_eq_true rfl⟩ ?_
  refine gg_ifne dc_M_reaches_6 (fun c_6 => ?_) (fun c_6 => ?_)
  · exact absurd h c_6
  · refine gg_ldc dc_M_reaches_9 lk_M_64 ?_
    exact gg_iret dc_M_reaches_11 rfl ⟨Nat.le_of_ble_eq_true rfl, Nat.le_of_ble_eq_true rfl⟩ (⟨rfl, rfl⟩)
set_option maxRecDepth 100000 in
set_option maxHeartbeats 4000000 in
theorem sp_M_reachesI {Γ : cx_T} {τ : Nat × (Nat → sh_T)} {ν : Nat → Nat → Int32} {X : Nat → Nat → Int32} {S : Nat → Int32} {m : Nat} (hm : sh_M τ.2 m) {w : Int32} (h1 : ¬ in_I w 0 1 = 0) (h : S 18 = 0) : mt_P Γ mk_M_reaches [.ref m, .int w] (τ, mv_N ν m (va_up X 1 S)) (fun v μ' => v = some (.int (-1000002)) ∧ μ' = (τ, mv_N ν m (va_up (X) 1 (S)))) := by
  refine mt_of (L := [some (.ref m), some (.int w), none]) (by decide +kernel) (by simp [Value.category]) (Nat.le_of_ble_eq_true rfl) (lc_2_3 ()) ?_
  refine gg_ildn dc_M_reaches_0 rfl rfl ?_
  refine gg_iconst (v := 0) dc_M_reaches_1 (by decide) ?_
  refine gg_iconst (v := 1) dc_M_reaches_2 (by decide) ?_
  refine gg_okS (sp_M_in) dc_M_reaches_3 ml_M_31 ce_M_in ⟨Nat.le_of_ble_eq_true rfl, Nat.le_of_ble_eq_true rfl⟩ rfl (Nat.le_of_ble_eq_true rfl) ⟨rfl, rfl⟩ ⟨Nat.le_of_ble_eq_true rfl, Nat.le_of_ble_eq_true rfl⟩ ?_
  refine gg_ifne dc_M_reaches_6 (fun c_6 => ?_) (fun c_6 => ?_)
  · refine gg_aldn dc_M_reaches_12 rfl rfl ?_
    refine gg_getr dc_M_reaches_13 lf_M_7 hm.1 rfl ?_
    refine gg_bipush (v := 18) dc_M_reaches_16 (by decide) ?_
    refine gms_r (k := 18) dc_M_reaches_18 hm ⟨rfl, Nat.le_of_ble_eq_true rfl⟩ ?_
    refine gg_ifne dc_M_reaches_19 (fun c_19 => ?_) (fun c_19 => ?_)
    · exact absurd h c_19
    · refine gg_ldc dc_M_reaches_22 lk_M_30 ?_
      exact gg_iret dc_M_reaches_24 rfl ⟨Nat.le_of_ble_eq_true rfl, Nat.le_of_ble_eq_true rfl⟩ (⟨rfl, rfl⟩)
  · exact absurd c_6 h1
set_option maxRecDepth 100000 in
set_option maxHeartbeats 4000000 in
theorem sp_M_reachesN {Γ : cx_T} {τ : Nat × (Nat → sh_T)} {ν : Nat → Nat → Int32} {X : Nat → Nat → Int32} {S : Nat → Int32} {m : Nat} (hm : sh_M τ.2 m) {w : Int32} (hL : LK S 21 10) (h1 : ¬ in_I w 0 1 = 0) (h2 : ¬ S 18 = 0) (h : (se_S S w).2 = 0) : mt_P Γ mk_M_reaches [.ref m, .int w] (τ, mv_N ν m (va_up X 1 S)) (fun v μ' => v = some (.int (-1000009)) ∧ μ' = (τ, mv_N ν m (va_up (va_up X 4 (cp_N (se_S S w).1 (X 4) 80)) 1 (S)))) := by
  refine mt_of (L := [some (.ref m), some (.int w), none]) (by decide +kernel) (by simp [Value.category]) (Nat.le_of_ble_eq_true rfl) (lc_2_3 ()) ?_
  refine gg_ildn dc_M_reaches_0 rfl rfl ?_
  refine gg_iconst (v := 0) dc_M_reaches_1 (by decide) ?_
  refine gg_iconst (v := 1) dc_M_reaches_2 (by decide) ?_
  refine gg_okS (sp_M_in) dc_M_reaches_3 ml_M_31 ce_M_in ⟨Nat.le_of_ble_eq_true rfl, Nat.le_of_ble_eq_true rfl⟩ rfl (Nat.le_of_ble_eq_true rfl) ⟨rfl, rfl⟩ ⟨Nat.le_of_ble_eq_true rfl, Nat.le_of_ble_eq_true rfl⟩ ?_
  refine gg_ifne dc_M_reaches_6 (fun c_6 => ?_) (fun c_6 => ?_)
  · refine gg_aldn dc_M_reaches_12 rfl rfl ?_
    refine gg_getr dc_M_reaches_13 lf_M_7 hm.1 rfl ?_
    refine gg_bipush (v := 18) dc_M_reaches_16 (by decide) ?_
    refine gms_r (k := 18) dc_M_reaches_18 hm ⟨rfl, Nat.le_of_ble_eq_true rfl⟩ ?_
    refine gg_ifne dc_M_reaches_19 (fun c_19 => ?_) (fun c_19 => ?_)
    · refine gg_aldn dc_M_reaches_25 rfl rfl ?_
      refine gg_okVv (sp_M_putAsideS hm) dc_M_reaches_26 ml_M_99 ce_M_putAside ⟨Nat.le_of_ble_eq_true rfl, Nat.le_of_ble_eq_true rfl⟩ hm.1 rfl rfl (Nat.le_of_ble_eq_true rfl) ⟨rfl, rfl⟩ ⟨Nat.le_of_ble_eq_true rfl, Nat.le_of_ble_eq_true rfl⟩ ?_
      refine gg_aldn dc_M_reaches_29 rfl rfl ?_
      refine gg_ildn dc_M_reaches_30 rfl rfl ?_
      refine gg_okV (sp_M_seeksW hm hL) dc_M_reaches_31 ml_M_142 ce_M_seeks ⟨Nat.le_of_ble_eq_true rfl, Nat.le_of_ble_eq_true rfl⟩ hm.1 rfl rfl (Nat.le_of_ble_eq_true rfl) ⟨rfl, rfl⟩ ⟨Nat.le_of_ble_eq_true rfl, Nat.le_of_ble_eq_true rfl⟩ ?_
      refine gg_istn (i := 2) dc_M_reaches_34 rfl (Nat.le_of_ble_eq_true rfl) rfl ?_
      dsimp only [List.set]
      refine gg_aldn dc_M_reaches_35 rfl rfl ?_
      refine gg_okVv (sp_M_swapsS hm) dc_M_reaches_36 ml_M_106 ce_M_swaps ⟨Nat.le_of_ble_eq_true rfl, Nat.le_of_ble_eq_true rfl⟩ hm.1 rfl rfl (Nat.le_of_ble_eq_true rfl) ⟨rfl, rfl⟩ ⟨Nat.le_of_ble_eq_true rfl, Nat.le_of_ble_eq_true rfl⟩ ?_
      rw [rc_1 (show ∀ j : Nat, 80 ≤ j → (se_S S w).1 j = S j from fun j hj => se_o (by omega))]
      refine gg_ildn dc_M_reaches_39 rfl rfl ?_
      refine gg_ifne dc_M_reaches_40 (fun c_40 => ?_) (fun c_40 => ?_)
      · exact absurd (if_neg (by omega)) c_40
      · refine gg_ldc dc_M_reaches_43 lk_M_145 ?_
        exact gg_iret dc_M_reaches_45 rfl ⟨Nat.le_of_ble_eq_true rfl, Nat.le_of_ble_eq_true rfl⟩ (⟨rfl, rfl⟩)
    · exact absurd c_19 h2
  · exact absurd c_6 h1
set_option maxRecDepth 100000 in
set_option maxHeartbeats 4000000 in
theorem sp_M_reaches {Γ : cx_T} {τ : Nat × (Nat → sh_T)} {ν : Nat → Nat → Int32} {X : Nat → Nat → Int32} {S : Nat → Int32} {m : Nat} (hm : sh_M τ.2 m) {w : Int32} (hp : PS X) (hL : LK S 21 10) (h1 : ¬ in_I w 0 1 = 0) (h2 : ¬ S 18 = 0) (h : ¬ (se_S S w).2 = 0) : mt_P Γ mk_M_reaches [.ref m, .int w] (τ, mv_N ν m (va_up X 1 S)) (fun v μ' => v = some (.int (0)) ∧ μ' = (τ, mv_N ν m (va_up (va_up (nt_X (va_up X 1 S)) 4 (cp_N S (X 4) 80)) 1 (upd (se_S S w).1 17 ((se_S S w).1 17 + 1))))) := by
  refine mt_of (L := [some (.ref m), some (.int w), none]) (by decide +kernel) (by simp [Value.category]) (Nat.le_of_ble_eq_true rfl) (lc_2_3 ()) ?_
  refine gg_ildn dc_M_reaches_0 rfl rfl ?_
  refine gg_iconst (v := 0) dc_M_reaches_1 (by decide) ?_
  refine gg_iconst (v := 1) dc_M_reaches_2 (by decide) ?_
  refine gg_okS (sp_M_in) dc_M_reaches_3 ml_M_31 ce_M_in ⟨Nat.le_of_ble_eq_true rfl, Nat.le_of_ble_eq_true rfl⟩ rfl (Nat.le_of_ble_eq_true rfl) ⟨rfl, rfl⟩ ⟨Nat.le_of_ble_eq_true rfl, Nat.le_of_ble_eq_true rfl⟩ ?_
  refine gg_ifne dc_M_reaches_6 (fun c_6 => ?_) (fun c_6 => ?_)
  · refine gg_aldn dc_M_reaches_12 rfl rfl ?_
    refine gg_getr dc_M_reaches_13 lf_M_7 hm.1 rfl ?_
    refine gg_bipush (v := 18) dc_M_reaches_16 (by decide) ?_
    refine gms_r (k := 18) dc_M_reaches_18 hm ⟨rfl, Nat.le_of_ble_eq_true rfl⟩ ?_
    refine gg_ifne dc_M_reaches_19 (fun c_19 => ?_) (fun c_19 => ?_)
    · refine gg_aldn dc_M_reaches_25 rfl rfl ?_
      refine gg_okVv (sp_M_putAsideS hm) dc_M_reaches_26 ml_M_99 ce_M_putAside ⟨Nat.le_of_ble_eq_true rfl, Nat.le_of_ble_eq_true rfl⟩ hm.1 rfl rfl (Nat.le_of_ble_eq_true rfl) ⟨rfl, rfl⟩ ⟨Nat.le_of_ble_eq_true rfl, Nat.le_of_ble_eq_true rfl⟩ ?_
      refine gg_aldn dc_M_reaches_29 rfl rfl ?_
      refine gg_ildn dc_M_reaches_30 rfl rfl ?_
      refine gg_okV (sp_M_seeksW hm hL) dc_M_reaches_31 ml_M_142 ce_M_seeks ⟨Nat.le_of_ble_eq_true rfl, Nat.le_of_ble_eq_true rfl⟩ hm.1 rfl rfl (Nat.le_of_ble_eq_true rfl) ⟨rfl, rfl⟩ ⟨Nat.le_of_ble_eq_true rfl, Nat.le_of_ble_eq_true rfl⟩ ?_
      refine gg_istn (i := 2) dc_M_reaches_34 rfl (Nat.le_of_ble_eq_true rfl) rfl ?_
      dsimp only [List.set]
      refine gg_aldn dc_M_reaches_35 rfl rfl ?_
      refine gg_okVv (sp_M_swapsS hm) dc_M_reaches_36 ml_M_106 ce_M_swaps ⟨Nat.le_of_ble_eq_true rfl, Nat.le_of_ble_eq_true rfl⟩ hm.1 rfl rfl (Nat.le_of_ble_eq_true rfl) ⟨rfl, rfl⟩ ⟨Nat.le_of_ble_eq_true rfl, Nat.le_of_ble_eq_true rfl⟩ ?_
      rw [rc_1 (show ∀ j : Nat, 80 ≤ j → (se_S S w).1 j = S j from fun j hj => se_o (by omega))]
      refine gg_ildn dc_M_reaches_39 rfl rfl ?_
      refine gg_ifne dc_M_reaches_40 (fun c_40 => ?_) (fun c_40 => ?_)
      · refine gg_aldn dc_M_reaches_46 rfl rfl ?_
        refine gg_okVv (sp_M_notesS hm (show PS (va_up X 4 _) from hp)) dc_M_reaches_47 ml_M_47 ce_M_notes ⟨Nat.le_of_ble_eq_true rfl, Nat.le_of_ble_eq_true rfl⟩ hm.1 rfl rfl (Nat.le_of_ble_eq_true rfl) ⟨rfl, rfl⟩ ⟨Nat.le_of_ble_eq_true rfl, Nat.le_of_ble_eq_true rfl⟩ ?_
        refine gg_aldn dc_M_reaches_50 rfl rfl ?_
        refine gg_okVv (sp_M_swapsS hm) dc_M_reaches_51 ml_M_106 ce_M_swaps ⟨Nat.le_of_ble_eq_true rfl, Nat.le_of_ble_eq_true rfl⟩ hm.1 rfl rfl (Nat.le_of_ble_eq_true rfl) ⟨rfl, rfl⟩ ⟨Nat.le_of_ble_eq_true rfl, Nat.le_of_ble_eq_true rfl⟩ ?_
        rw [rc_2 (show ∀ j : Nat, 80 ≤ j → (se_S S w).1 j = S j from fun j hj => se_o (by omega))]
        refine gg_aldn dc_M_reaches_54 rfl rfl ?_
        refine gg_getr dc_M_reaches_55 lf_M_7 hm.1 rfl ?_
        refine gg_bipush (v := 17) dc_M_reaches_58 (by decide) ?_
        refine gg_dup2 dc_M_reaches_60 rfl rfl ?_
        refine gms_r (k := 17) dc_M_reaches_61 hm ⟨rfl, Nat.le_of_ble_eq_true rfl⟩ ?_
        refine gg_iconst (v := 1) dc_M_reaches_62 (by decide) ?_
        refine gg_iadd dc_M_reaches_63 ?_
        refine gms_w (k := 17) dc_M_reaches_64 hm ⟨rfl, Nat.le_of_ble_eq_true rfl⟩ ?_
        refine gg_iconst (v := 0) dc_M_reaches_65 (by decide) ?_
        exact gg_iret dc_M_reaches_66 rfl ⟨Nat.le_of_ble_eq_true rfl, Nat.le_of_ble_eq_true rfl⟩ (⟨rfl, rfl⟩)
      · exact absurd ((if_pos (by omega)).symm.trans c_40) (by decide)
    · exact absurd c_19 h2
  · exact absurd c_6 h1
set_option maxRecDepth 100000 in
set_option maxHeartbeats 4000000 in
theorem sp_M_homeE {Γ : cx_T} {τ : Nat × (Nat → sh_T)} {ν : Nat → Nat → Int32} {X : Nat → Nat → Int32} {S : Nat → Int32} {m : Nat} (hm : sh_M τ.2 m) {w : Int32} {Y : Nat → Nat → Int32} {r : Int32} (hr : mt_P Γ mk_M_reaches [.ref m, .int w] (τ, mv_N ν m (va_up X 1 S)) (fun v μ' => v = some (.int r) ∧ μ' = (τ, mv_N ν m Y))) (h : ¬ r = 0) : mt_P Γ mk_M_home [.ref m, .int w] (τ, mv_N ν m (va_up X 1 S)) (fun v μ' => v = some (.int (r)) ∧ μ' = (τ, mv_N ν m (Y))) := by
  refine mt_of (L := [some (.ref m), some (.int w), none, none]) (by decide +kernel) (by simp [Value.category]) (Nat.le_of_ble_eq_true rfl) (lc_2_4 ()) ?_
  refine gg_aldn dc_M_home_0 rfl rfl ?_
  refine gg_ildn dc_M_home_1 rfl rfl ?_
  refine gg_okV (hr) dc_M_home_2 ml_M_146 ce_M_reaches ⟨Nat.le_of_ble_eq_true rfl, Nat.le_of_ble_eq_true rfl⟩ hm.1 rfl rfl (Nat.le_of_ble_eq_true rfl) ⟨rfl, rfl⟩ ⟨Nat.le_of_ble_eq_true rfl, Nat.le_of_ble_eq_true rfl⟩ ?_
  refine gg_istn (i := 2) dc_M_home_5 rfl (Nat.le_of_ble_eq_true rfl) rfl ?_
  dsimp only [List.set]
  refine gg_ildn dc_M_home_6 rfl rfl ?_
  refine gg_ifeq dc_M_home_7 (fun c_7 => ?_) (fun c_7 => ?_)
  · exact absurd c_7 h
  · refine gg_ildn dc_M_home_10 rfl rfl ?_
    exact gg_iret dc_M_home_11 rfl ⟨Nat.le_of_ble_eq_true rfl, Nat.le_of_ble_eq_true rfl⟩ (⟨rfl, rfl⟩)
set_option maxRecDepth 100000 in
set_option maxHeartbeats 4000000 in
theorem sp_M_home {Γ : cx_T} {τ : Nat × (Nat → sh_T)} {ν : Nat → Nat → Int32} {X : Nat → Nat → Int32} {S : Nat → Int32} {m : Nat} (hm : sh_M τ.2 m) {w : Int32} {Y : Nat → Nat → Int32} {T : Nat → Int32} (hr : mt_P Γ mk_M_reaches [.ref m, .int w] (τ, mv_N ν m (va_up X 1 S)) (fun v μ' => v = some (.int 0) ∧ μ' = (τ, mv_N ν m (va_up Y 1 T)))) : mt_P Γ mk_M_home [.ref m, .int w] (τ, mv_N ν m (va_up X 1 S)) (fun v μ' => v = some (.int ((if w = 0 then T 19 + T 5 else T 20) - T 6)) ∧ μ' = (τ, mv_N ν m (va_up Y 1 (upd (upd T 6 (T 6 + ((if w = 0 then T 19 + T 5 else T 20) - T 6))) 11 (T 11 + ((if w = 0 then T 19 + T 5 else T 20) - T 6)))))) := by
  refine mt_of (L := [some (.ref m), some (.int w), none, none]) (by decide +kernel) (by simp [Value.category]) (Nat.le_of_ble_eq_true rfl) (lc_2_4 ()) ?_
  refine gg_aldn dc_M_home_0 rfl rfl ?_
  refine gg_ildn dc_M_home_1 rfl rfl ?_
  refine gg_okV (hr) dc_M_home_2 ml_M_146 ce_M_reaches ⟨Nat.le_of_ble_eq_true rfl, Nat.le_of_ble_eq_true rfl⟩ hm.1 rfl rfl (Nat.le_of_ble_eq_true rfl) ⟨rfl, rfl⟩ ⟨Nat.le_of_ble_eq_true rfl, Nat.le_of_ble_eq_true rfl⟩ ?_
  refine gg_istn (i := 2) dc_M_home_5 rfl (Nat.le_of_ble_eq_true rfl) rfl ?_
  dsimp only [List.set]
  refine gg_ildn dc_M_home_6 rfl rfl ?_
  refine gg_ifeq dc_M_home_7 (fun c_7 => ?_) (fun c_7 => ?_)
  · refine gg_aldn dc_M_home_12 rfl rfl ?_
    refine gg_ildn dc_M_home_13 rfl rfl ?_
    refine gg_okV (sp_M_due hm) dc_M_home_14 ml_M_149 ce_M_due ⟨Nat.le_of_ble_eq_true rfl, Nat.le_of_ble_eq_true rfl⟩ hm.1 rfl rfl (Nat.le_of_ble_eq_true rfl) ⟨rfl, rfl⟩ ⟨Nat.le_of_ble_eq_true rfl, Nat.le_of_ble_eq_true rfl⟩ ?_
    refine gg_aldn dc_M_home_17 rfl rfl ?_
    refine gg_getr dc_M_home_18 lf_M_7 hm.1 rfl ?_
    refine gg_bipush (v := 6) dc_M_home_21 (by decide) ?_
    refine gms_r (k := 6) dc_M_home_23 hm ⟨rfl, Nat.le_of_ble_eq_true rfl⟩ ?_
    refine gg_isub dc_M_home_24 ?_
    refine gg_istn (i := 3) dc_M_home_25 rfl (Nat.le_of_ble_eq_true rfl) rfl ?_
    dsimp only [List.set]
    refine gg_aldn dc_M_home_26 rfl rfl ?_
    refine gg_getr dc_M_home_27 lf_M_7 hm.1 rfl ?_
    refine gg_bipush (v := 6) dc_M_home_30 (by decide) ?_
    refine gg_dup2 dc_M_home_32 rfl rfl ?_
    refine gms_r (k := 6) dc_M_home_33 hm ⟨rfl, Nat.le_of_ble_eq_true rfl⟩ ?_
    refine gg_ildn dc_M_home_34 rfl rfl ?_
    refine gg_iadd dc_M_home_35 ?_
    refine gms_w (k := 6) dc_M_home_36 hm ⟨rfl, Nat.le_of_ble_eq_true rfl⟩ ?_
    refine gg_aldn dc_M_home_37 rfl rfl ?_
    refine gg_getr dc_M_home_38 lf_M_7 hm.1 rfl ?_
    refine gg_bipush (v := 11) dc_M_home_41 (by decide) ?_
    refine gg_dup2 dc_M_home_43 rfl rfl ?_
    refine gms_r (k := 11) dc_M_home_44 hm ⟨rfl, Nat.le_of_ble_eq_true rfl⟩ ?_
    refine gg_ildn dc_M_home_45 rfl rfl ?_
    refine gg_iadd dc_M_home_46 ?_
    refine gms_w (k := 11) dc_M_home_47 hm ⟨rfl, Nat.le_of_ble_eq_true rfl⟩ ?_
    refine gg_ildn dc_M_home_48 rfl rfl ?_
    exact gg_iret dc_M_home_49 rfl ⟨Nat.le_of_ble_eq_true rfl, Nat.le_of_ble_eq_true rfl⟩ (⟨rfl, rfl⟩)
  · exact absurd rfl c_7
set_option maxRecDepth 100000 in
set_option maxHeartbeats 4000000 in
theorem sp_M_checkE {Γ : cx_T} {τ : Nat × (Nat → sh_T)} {ν : Nat → Nat → Int32} {X : Nat → Nat → Int32} {S : Nat → Int32} {m : Nat} (hm : sh_M τ.2 m) {w : Int32} {Y : Nat → Nat → Int32} {r : Int32} (hr : mt_P Γ mk_M_reaches [.ref m, .int w] (τ, mv_N ν m (va_up X 1 S)) (fun v μ' => v = some (.int r) ∧ μ' = (τ, mv_N ν m Y))) (h : ¬ r = 0) : mt_P Γ mk_M_check [.ref m, .int w] (τ, mv_N ν m (va_up X 1 S)) (fun v μ' => v = some (.int (r)) ∧ μ' = (τ, mv_N ν m (Y))) := by
  refine mt_of (L := [some (.ref m), some (.int w), none]) (by decide +kernel) (by simp [Value.category]) (Nat.le_of_ble_eq_true rfl) (lc_2_3 ()) ?_
  refine gg_aldn dc_M_check_0 rfl rfl ?_
  refine gg_ildn dc_M_check_1 rfl rfl ?_
  refine gg_okV (hr) dc_M_check_2 ml_M_146 ce_M_reaches ⟨Nat.le_of_ble_eq_true rfl, Nat.le_of_ble_eq_true rfl⟩ hm.1 rfl rfl (Nat.le_of_ble_eq_true rfl) ⟨rfl, rfl⟩ ⟨Nat.le_of_ble_eq_true rfl, Nat.le_of_ble_eq_true rfl⟩ ?_
  refine gg_istn (i := 2) dc_M_check_5 rfl (Nat.le_of_ble_eq_true rfl) rfl ?_
  dsimp only [List.set]
  refine gg_ildn dc_M_check_6 rfl rfl ?_
  refine gg_ifeq dc_M_check_7 (fun c_7 => ?_) (fun c_7 => ?_)
  · exact absurd c_7 h
  · refine gg_ildn dc_M_check_10 rfl rfl ?_
    refine gg_goto dc_M_check_11 ?_
    exact gg_iret dc_M_check_27 rfl ⟨Nat.le_of_ble_eq_true rfl, Nat.le_of_ble_eq_true rfl⟩ (⟨rfl, rfl⟩)
set_option maxRecDepth 100000 in
set_option maxHeartbeats 4000000 in
theorem sp_M_check {Γ : cx_T} {τ : Nat × (Nat → sh_T)} {ν : Nat → Nat → Int32} {X : Nat → Nat → Int32} {S : Nat → Int32} {m : Nat} (hm : sh_M τ.2 m) {w : Int32} {Y : Nat → Nat → Int32} {T : Nat → Int32} (hr : mt_P Γ mk_M_reaches [.ref m, .int w] (τ, mv_N ν m (va_up X 1 S)) (fun v μ' => v = some (.int 0) ∧ μ' = (τ, mv_N ν m (va_up Y 1 T)))) : mt_P Γ mk_M_check [.ref m, .int w] (τ, mv_N ν m (va_up X 1 S)) (fun v μ' => v = some (.int (T 6 - (if w = 0 then T 19 + T 5 else T 20))) ∧ μ' = (τ, mv_N ν m (va_up Y 1 T))) := by
  refine mt_of (L := [some (.ref m), some (.int w), none]) (by decide +kernel) (by simp [Value.category]) (Nat.le_of_ble_eq_true rfl) (lc_2_3 ()) ?_
  refine gg_aldn dc_M_check_0 rfl rfl ?_
  refine gg_ildn dc_M_check_1 rfl rfl ?_
  refine gg_okV (hr) dc_M_check_2 ml_M_146 ce_M_reaches ⟨Nat.le_of_ble_eq_true rfl, Nat.le_of_ble_eq_true rfl⟩ hm.1 rfl rfl (Nat.le_of_ble_eq_true rfl) ⟨rfl, rfl⟩ ⟨Nat.le_of_ble_eq_true rfl, Nat.le_of_ble_eq_true rfl⟩ ?_
  refine gg_istn (i := 2) dc_M_check_5 rfl (Nat.le_of_ble_eq_true rfl) rfl ?_
  dsimp only [List.set]
  refine gg_ildn dc_M_check_6 rfl rfl ?_
  refine gg_ifeq dc_M_check_7 (fun c_7 => ?_) (fun c_7 => ?_)
  · refine gg_aldn dc_M_check_14 rfl rfl ?_
    refine gg_getr dc_M_check_15 lf_M_7 hm.1 rfl ?_
    refine gg_bipush (v := 6) dc_M_check_18 (by decide) ?_
    refine gms_r (k := 6) dc_M_check_20 hm ⟨rfl, Nat.le_of_ble_eq_true rfl⟩ ?_
    refine gg_aldn dc_M_check_21 rfl rfl ?_
    refine gg_ildn dc_M_check_22 rfl rfl ?_
    refine gg_okV (sp_M_due hm) dc_M_check_23 ml_M_149 ce_M_due ⟨Nat.le_of_ble_eq_true rfl, Nat.le_of_ble_eq_true rfl⟩ hm.1 rfl rfl (Nat.le_of_ble_eq_true rfl) ⟨rfl, rfl⟩ ⟨Nat.le_of_ble_eq_true rfl, Nat.le_of_ble_eq_true rfl⟩ ?_
    refine gg_isub dc_M_check_26 ?_
    exact gg_iret dc_M_check_27 rfl ⟨Nat.le_of_ble_eq_true rfl, Nat.le_of_ble_eq_true rfl⟩ (⟨rfl, rfl⟩)
  · exact absurd rfl c_7
