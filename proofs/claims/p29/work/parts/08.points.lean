def ut_N (P : Nat → Int32) (x : Int32) : Nat → Nat → Nat
  | 0, i => i
  | d + 1, i => if P i ≤ x then ut_N P x d (i + 1) else i
theorem ut_le (P : Nat → Int32) (x : Int32) : ∀ (d i : Nat), i ≤ ut_N P x d i ∧ ut_N P x d i ≤ i + d
  | 0, i => ⟨Nat.le_refl _, Nat.le_refl _⟩
  | d + 1, i => by
    unfold ut_N
    split
    · have := ut_le P x d (i + 1)
      omega
    · omega
theorem ut_s {P : Nat → Int32} {x : Int32} {d i : Nat} (h : P i ≤ x) : ut_N P x (d + 1) i = ut_N P x d (i + 1) := by
  show (if P i ≤ x then _ else _) = _
  rw [if_pos h]
theorem ut_e {P : Nat → Int32} {x : Int32} {d i : Nat} (h : ¬ P i ≤ x) : ut_N P x (d + 1) i = i := by
  show (if P i ≤ x then _ else _) = _
  rw [if_neg h]
def pk_I (u : Nat) (V : Nat → Int32) (d : Int32) : Int32 := match u with
  | 0 => d
  | k + 1 => V k
def ha_N (u : Nat) (P : Nat → Int32) (x : Int32) : Int32 := match u with
  | 0 => 0
  | k + 1 => if P k = x then 1 else 0
/-- a row of points or commands: its shape -/
def sh_Pt (sh : Nat → sh_T) (q : Nat) : Prop := sh q = .inr (.inr (2, [some (some (q + 1)), some (some (q + 2)), none])) ∧ sh (q + 1) = .inl (0, 10) ∧ sh (q + 2) = .inl (0, 10)
def sh_Cm (sh : Nat → sh_T) (q : Nat) : Prop := sh q = .inr (.inr (1, [some (some (q + 1)), some (some (q + 2)), none])) ∧ sh (q + 1) = .inl (0, 8) ∧ sh (q + 2) = .inl (0, 8)
/-- a row of places in memory, of a class that is one of places -/
def sh_Pl (sh : Nat → sh_T) (ci N q : Nat) : Prop := sh q = .inr (.inr (ci, [some (some (q + 1)), some (some (q + 2)), none])) ∧ sh (q + 1) = .inl (0, N) ∧ sh (q + 2) = .inl (0, N)
def pt_set (ν : Nat → Nat → Int32) (q : Nat) (s : Int32) (P V : Nat → Int32) : Nat → Nat → Int32 := va_up (va_up (up_2 ν q 2 s) (q + 1) P) (q + 2) V
theorem m2_s {ν : Nat → Nat → Int32} {q : Nat} {s : Int32} {P V : Nat → Int32} : up_2 (m2_N ν q P V) q 2 s = pt_set ν q s P V := by
  funext b k
  unfold pt_set up_2 m2_N va_up
  by_cases h2 : b = q + 2
  · subst h2; simp
  · by_cases h1 : b = q + 1
    · subst h1; simp
    · simp [h1, h2]
def in_F (g : Nat → Int32) (u n : Nat) (x : Int32) : Nat → Int32 := upd (og_I g u n) u x
set_option maxRecDepth 100000 in
set_option maxHeartbeats 4000000 in
theorem sp_P_lastUpTo {Γ : cx_T} {τ : Nat × (Nat → sh_T)} {ν : Nat → Nat → Int32} {q n : Nat} {x : Int32} (hq : sh_Pt τ.2 q) (hn : ν q 2 = nI n) (h10 : n ≤ 10) : mt_P Γ mk_P_lastUpTo [.ref q, .int x] (τ, ν) (fun v μ' => v = some (.int (nI (ut_N (ν (q + 1)) x n 0) - 1)) ∧ μ' = (τ, ν)) := by
  refine mt_of (L := [some (.ref q), some (.int x), none, none]) (by decide +kernel) (by simp [Value.category]) (Nat.le_of_ble_eq_true rfl) (lc_2_4 ()) ?_
  obtain ⟨h0, h1, h2⟩ := id hq
  have loop : ∀ (d i : Nat), i + d = n → ut_N (ν (q + 1)) x d i = ut_N (ν (q + 1)) x n 0 → gg_P Γ mk_P_lastUpTo (fun v μ' => v = some (.int (nI (ut_N (ν (q + 1)) x n 0) - 1)) ∧ μ' = (τ, ν)) 0 0 4 [some (.ref q), some (.int x), some (.int (nI i - 1)), some (.int (nI i))] [] (τ, ν) := by
    intro d
    induction d with
    | zero =>
      intro i hi hu
      have hi : i = n := by omega
      subst hi
      refine gg_ildn dc_P_lastUpTo_4 rfl rfl ?_
      refine gg_aldn dc_P_lastUpTo_5 rfl rfl ?_
      refine gx_geti dc_P_lastUpTo_6 lf_P_33 h0 rfl ?_
      rw [hn]
      refine gg_icge dc_P_lastUpTo_9 (fun c_9 => ?_) (fun c_9 => ?_)
      · refine gg_ildn dc_P_lastUpTo_39 rfl rfl ?_
        exact gg_iret dc_P_lastUpTo_40 rfl ⟨Nat.le_of_ble_eq_true rfl, Nat.le_of_ble_eq_true rfl⟩ (⟨by rw [← hu]; rfl, rfl⟩)
      · exact absurd (Int32.le_refl _) c_9
    | succ d ih =>
      intro i hi hu
      refine gg_ildn dc_P_lastUpTo_4 rfl rfl ?_
      refine gg_aldn dc_P_lastUpTo_5 rfl rfl ?_
      refine gx_geti dc_P_lastUpTo_6 lf_P_33 h0 rfl ?_
      rw [hn]
      refine gg_icge dc_P_lastUpTo_9 (fun c_9 => ?_) (fun c_9 => ?_)
      · exact absurd c_9 (nI_ge (by omega) (by omega))
      · refine gg_ildn dc_P_lastUpTo_12 rfl rfl ?_
        refine gg_aldn dc_P_lastUpTo_13 rfl rfl ?_
        refine gg_getr dc_P_lastUpTo_14 lf_P_29 h0 rfl ?_
        refine gg_alen dc_P_lastUpTo_17 (Or.inl h1) rfl ?_
        refine gg_icge dc_P_lastUpTo_18 (fun c_18 => ?_) (fun c_18 => ?_)
        · exact absurd c_18 (nI_ge (a := i) (b := 10) (by omega) (by omega))
        · refine gg_aldn dc_P_lastUpTo_21 rfl rfl ?_
          refine gg_getr dc_P_lastUpTo_22 lf_P_29 h0 rfl ?_
          refine gg_ildn dc_P_lastUpTo_25 rfl rfl ?_
          refine gx_iald dc_P_lastUpTo_26 h1 (vp_in_nI (by omega) (by omega)) ?_
          rw [nI_clamp (by omega)]
          refine gg_ildn dc_P_lastUpTo_27 rfl rfl ?_
          refine gg_icgt dc_P_lastUpTo_28 (fun c_28 => ?_) (fun c_28 => ?_)
          · refine gg_ildn dc_P_lastUpTo_39 rfl rfl ?_
            exact gg_iret dc_P_lastUpTo_40 rfl ⟨Nat.le_of_ble_eq_true rfl, Nat.le_of_ble_eq_true rfl⟩ (⟨by rw [← hu, ut_e (Int32.not_le.mpr c_28)], rfl⟩)
          · refine gg_ildn dc_P_lastUpTo_31 rfl rfl ?_
            refine gg_istn (i := 2) dc_P_lastUpTo_32 rfl (Nat.le_of_ble_eq_true rfl) rfl ?_
            dsimp only [List.set]
            refine gg_iinc (i := 3) dc_P_lastUpTo_33 rfl (Nat.le_of_ble_eq_true rfl) rfl ?_
            dsimp only [List.set]
            rw [show Int32.ofInt 1 = 1 from by decide]
            refine gg_goto dc_P_lastUpTo_36 ?_
            refine gg_e (ih (i + 1) (by omega) (by rw [← hu, ut_s (Int32.not_lt.mp c_28)])) (by rw [nI_pred, nI_1]) rfl rfl
  refine gg_iconst (v := (-1)) dc_P_lastUpTo_0 (by decide) ?_
  refine gg_istn (i := 2) dc_P_lastUpTo_1 rfl (Nat.le_of_ble_eq_true rfl) rfl ?_
  dsimp only [List.set]
  refine gg_iconst (v := 0) dc_P_lastUpTo_2 (by decide) ?_
  refine gg_istn (i := 3) dc_P_lastUpTo_3 rfl (Nat.le_of_ble_eq_true rfl) rfl ?_
  dsimp only [List.set]
  refine gg_e (loop n 0 (by omega) rfl) (by rw [show nI 0 - 1 = -1 by decide, nI_0]) rfl rfl
theorem sp_P_lu0 {Γ : cx_T} {τ : Nat × (Nat → sh_T)} {ν : Nat → Nat → Int32} {q n : Nat} {x : Int32} (hq : sh_Pt τ.2 q) (hn : ν q 2 = nI n) (h10 : n ≤ 10) (hu : ut_N (ν (q + 1)) x n 0 = 0) : mt_P Γ mk_P_lastUpTo [.ref q, .int x] (τ, ν) (fun v μ' => v = some (.int (-1)) ∧ μ' = (τ, ν)) := by
  have h := sp_P_lastUpTo (Γ := Γ) (x := x) hq hn h10
  rw [hu] at h
  exact h
theorem sp_P_luK {Γ : cx_T} {τ : Nat × (Nat → sh_T)} {ν : Nat → Nat → Int32} {q n : Nat} {x : Int32} (hq : sh_Pt τ.2 q) (hn : ν q 2 = nI n) (h10 : n ≤ 10) {k : Nat} (hu : ut_N (ν (q + 1)) x n 0 = k + 1) : mt_P Γ mk_P_lastUpTo [.ref q, .int x] (τ, ν) (fun v μ' => v = some (.int (nI k)) ∧ μ' = (τ, ν)) := by
  have h := sp_P_lastUpTo (Γ := Γ) (x := x) hq hn h10
  rw [hu, nI_pred] at h
  exact h
set_option maxRecDepth 100000 in
set_option maxHeartbeats 4000000 in
theorem sp_P_isAt0 {Γ : cx_T} {τ : Nat × (Nat → sh_T)} {ν : Nat → Nat → Int32} {q : Nat} {x : Int32} : mt_P Γ mk_P_isAt [.ref q, .int (-1), .int x] (τ, ν) (fun v μ' => v = some (.int (0)) ∧ μ' = (τ, ν)) := by
  refine mt_of (L := [some (.ref q), some (.int (-1)), some (.int x)]) (by decide +kernel) (by simp [Value.category]) (Nat.le_of_ble_eq_true rfl) (lc_3_3 ()) ?_
  refine gg_ildn dc_P_isAt_0 rfl rfl ?_
  refine gg_iflt dc_P_isAt_1 (fun c_1 => ?_) (fun c_1 => ?_)
  · refine gg_iconst (v := 0) dc_P_isAt_20 (by decide) ?_
    exact gg_zret dc_P_isAt_21 rfl (by first | exact Or.inl rfl | exact Or.inr rfl | assumption) ⟨Nat.le_of_ble_eq_true rfl, Nat.le_of_ble_eq_true rfl⟩ (⟨rfl, rfl⟩)
  · exact absurd (by decide) c_1
set_option maxRecDepth 100000 in
set_option maxHeartbeats 4000000 in
theorem sp_P_isAtK {Γ : cx_T} {τ : Nat × (Nat → sh_T)} {ν : Nat → Nat → Int32} {q k : Nat} {x : Int32} (hq : sh_Pt τ.2 q) (hk : k < 10) : mt_P Γ mk_P_isAt [.ref q, .int (nI k), .int x] (τ, ν) (fun v μ' => v = some (.int (if ν (q + 1) k = x then 1 else 0)) ∧ μ' = (τ, ν)) := by
  refine mt_of (L := [some (.ref q), some (.int (nI k)), some (.int x)]) (by decide +kernel) (by simp [Value.category]) (Nat.le_of_ble_eq_true rfl) (lc_3_3 ()) ?_
  obtain ⟨h0, h1, h2⟩ := id hq
  refine gg_ildn dc_P_isAt_0 rfl rfl ?_
  refine gg_iflt dc_P_isAt_1 (fun c_1 => ?_) (fun c_1 => ?_)
  · exact absurd c_1 (nI_pos (by omega))
  · refine gg_aldn dc_P_isAt_4 rfl rfl ?_
    refine gg_getr dc_P_isAt_5 lf_P_29 h0 rfl ?_
    refine gg_ildn dc_P_isAt_8 rfl rfl ?_
    refine gg_okS (sp_R_atE h1 (by omega) rfl hk) dc_P_isAt_9 ml_P_23 ce_R_at ⟨Nat.le_of_ble_eq_true rfl, Nat.le_of_ble_eq_true rfl⟩ rfl (Nat.le_of_ble_eq_true rfl) ⟨rfl, rfl⟩ ⟨Nat.le_of_ble_eq_true rfl, Nat.le_of_ble_eq_true rfl⟩ ?_
    refine gg_ildn dc_P_isAt_12 rfl rfl ?_
    refine gg_icne dc_P_isAt_13 (fun c_13 => ?_) (fun c_13 => ?_)
    · refine gg_iconst (v := 0) dc_P_isAt_20 (by decide) ?_
      exact gg_zret dc_P_isAt_21 rfl (by first | exact Or.inl rfl | exact Or.inr rfl | assumption) ⟨Nat.le_of_ble_eq_true rfl, Nat.le_of_ble_eq_true rfl⟩ (⟨by rw [if_neg c_13], rfl⟩)
    · refine gg_iconst (v := 1) dc_P_isAt_16 (by decide) ?_
      refine gg_goto dc_P_isAt_17 ?_
      exact gg_zret dc_P_isAt_21 rfl (by first | exact Or.inl rfl | exact Or.inr rfl | assumption) ⟨Nat.le_of_ble_eq_true rfl, Nat.le_of_ble_eq_true rfl⟩ (⟨by rw [if_pos (by first | exact c_13 | exact Classical.not_not.mp c_13)], rfl⟩)
set_option maxRecDepth 100000 in
set_option maxHeartbeats 4000000 in
theorem sp_P_valueUpTo {Γ : cx_T} {τ : Nat × (Nat → sh_T)} {ν : Nat → Nat → Int32} {q n : Nat} {x : Int32} (hq : sh_Pt τ.2 q) (hn : ν q 2 = nI n) (h10 : n ≤ 10) {d : Int32} : mt_P Γ mk_P_valueUpTo [.ref q, .int x, .int d] (τ, ν) (fun v μ' => v = some (.int (pk_I (ut_N (ν (q + 1)) x n 0) (ν (q + 2)) d)) ∧ μ' = (τ, ν)) := by
  refine mt_of (L := [some (.ref q), some (.int x), some (.int d), none]) (by decide +kernel) (by simp [Value.category]) (Nat.le_of_ble_eq_true rfl) (lc_3_4 ()) ?_
  obtain ⟨h0, h1, h2⟩ := id hq
  have hle := (ut_le (ν (q + 1)) x n 0).2
  rcases hu : ut_N (ν (q + 1)) x n 0 with _ | k
  · refine gg_aldn dc_P_valueUpTo_0 rfl rfl ?_
    refine gg_ildn dc_P_valueUpTo_1 rfl rfl ?_
    refine gg_okV (sp_P_lu0 hq hn h10 hu) dc_P_valueUpTo_2 ml_P_11 ce_P_lastUpTo ⟨Nat.le_of_ble_eq_true rfl, Nat.le_of_ble_eq_true rfl⟩ h0 rfl rfl (Nat.le_of_ble_eq_true rfl) ⟨rfl, rfl⟩ ⟨Nat.le_of_ble_eq_true rfl, Nat.le_of_ble_eq_true rfl⟩ ?_
    refine gg_istn (i := 3) dc_P_valueUpTo_5 rfl (Nat.le_of_ble_eq_true rfl) rfl ?_
    dsimp only [List.set]
    refine gg_ildn dc_P_valueUpTo_6 rfl rfl ?_
    refine gg_iflt dc_P_valueUpTo_7 (fun c_7 => ?_) (fun c_7 => ?_)
    · refine gg_ildn dc_P_valueUpTo_21 rfl rfl ?_
      exact gg_iret dc_P_valueUpTo_22 rfl ⟨Nat.le_of_ble_eq_true rfl, Nat.le_of_ble_eq_true rfl⟩ (⟨rfl, rfl⟩)
    · exact absurd (by decide) c_7
  · have hk : k < n := by omega
    refine gg_aldn dc_P_valueUpTo_0 rfl rfl ?_
    refine gg_ildn dc_P_valueUpTo_1 rfl rfl ?_
    refine gg_okV (sp_P_luK hq hn h10 hu) dc_P_valueUpTo_2 ml_P_11 ce_P_lastUpTo ⟨Nat.le_of_ble_eq_true rfl, Nat.le_of_ble_eq_true rfl⟩ h0 rfl rfl (Nat.le_of_ble_eq_true rfl) ⟨rfl, rfl⟩ ⟨Nat.le_of_ble_eq_true rfl, Nat.le_of_ble_eq_true rfl⟩ ?_
    refine gg_istn (i := 3) dc_P_valueUpTo_5 rfl (Nat.le_of_ble_eq_true rfl) rfl ?_
    dsimp only [List.set]
    refine gg_ildn dc_P_valueUpTo_6 rfl rfl ?_
    refine gg_iflt dc_P_valueUpTo_7 (fun c_7 => ?_) (fun c_7 => ?_)
    · exact absurd c_7 (nI_pos (by omega))
    · refine gg_aldn dc_P_valueUpTo_10 rfl rfl ?_
      refine gg_getr dc_P_valueUpTo_11 lf_P_19 h0 rfl ?_
      refine gg_ildn dc_P_valueUpTo_14 rfl rfl ?_
      refine gg_okS (sp_R_atE h2 (by omega) rfl (by omega)) dc_P_valueUpTo_15 ml_P_23 ce_R_at ⟨Nat.le_of_ble_eq_true rfl, Nat.le_of_ble_eq_true rfl⟩ rfl (Nat.le_of_ble_eq_true rfl) ⟨rfl, rfl⟩ ⟨Nat.le_of_ble_eq_true rfl, Nat.le_of_ble_eq_true rfl⟩ ?_
      refine gg_goto dc_P_valueUpTo_18 ?_
      exact gg_iret dc_P_valueUpTo_22 rfl ⟨Nat.le_of_ble_eq_true rfl, Nat.le_of_ble_eq_true rfl⟩ (⟨rfl, rfl⟩)
set_option maxRecDepth 100000 in
set_option maxHeartbeats 4000000 in
theorem sp_P_placeUpTo {Γ : cx_T} {τ : Nat × (Nat → sh_T)} {ν : Nat → Nat → Int32} {q n : Nat} {x : Int32} (hq : sh_Pt τ.2 q) (hn : ν q 2 = nI n) (h10 : n ≤ 10) : mt_P Γ mk_P_placeUpTo [.ref q, .int x] (τ, ν) (fun v μ' => v = some (.int (pk_I (ut_N (ν (q + 1)) x n 0) (ν (q + 1)) (-1000000000))) ∧ μ' = (τ, ν)) := by
  refine mt_of (L := [some (.ref q), some (.int x), none]) (by decide +kernel) (by simp [Value.category]) (Nat.le_of_ble_eq_true rfl) (lc_2_3 ()) ?_
  obtain ⟨h0, h1, h2⟩ := id hq
  have hle := (ut_le (ν (q + 1)) x n 0).2
  rcases hu : ut_N (ν (q + 1)) x n 0 with _ | k
  · refine gg_aldn dc_P_placeUpTo_0 rfl rfl ?_
    refine gg_ildn dc_P_placeUpTo_1 rfl rfl ?_
    refine gg_okV (sp_P_lu0 hq hn h10 hu) dc_P_placeUpTo_2 ml_P_11 ce_P_lastUpTo ⟨Nat.le_of_ble_eq_true rfl, Nat.le_of_ble_eq_true rfl⟩ h0 rfl rfl (Nat.le_of_ble_eq_true rfl) ⟨rfl, rfl⟩ ⟨Nat.le_of_ble_eq_true rfl, Nat.le_of_ble_eq_true rfl⟩ ?_
    refine gg_istn (i := 2) dc_P_placeUpTo_5 rfl (Nat.le_of_ble_eq_true rfl) rfl ?_
    dsimp only [List.set]
    refine gg_ildn dc_P_placeUpTo_6 rfl rfl ?_
    refine gg_iflt dc_P_placeUpTo_7 (fun c_7 => ?_) (fun c_7 => ?_)
    · refine gg_ldc dc_P_placeUpTo_21 lk_P_32 ?_
      exact gg_iret dc_P_placeUpTo_23 rfl ⟨Nat.le_of_ble_eq_true rfl, Nat.le_of_ble_eq_true rfl⟩ (⟨rfl, rfl⟩)
    · exact absurd (by decide) c_7
  · have hk : k < n := by omega
    refine gg_aldn dc_P_placeUpTo_0 rfl rfl ?_
    refine gg_ildn dc_P_placeUpTo_1 rfl rfl ?_
    refine gg_okV (sp_P_luK hq hn h10 hu) dc_P_placeUpTo_2 ml_P_11 ce_P_lastUpTo ⟨Nat.le_of_ble_eq_true rfl, Nat.le_of_ble_eq_true rfl⟩ h0 rfl rfl (Nat.le_of_ble_eq_true rfl) ⟨rfl, rfl⟩ ⟨Nat.le_of_ble_eq_true rfl, Nat.le_of_ble_eq_true rfl⟩ ?_
    refine gg_istn (i := 2) dc_P_placeUpTo_5 rfl (Nat.le_of_ble_eq_true rfl) rfl ?_
    dsimp only [List.set]
    refine gg_ildn dc_P_placeUpTo_6 rfl rfl ?_
    refine gg_iflt dc_P_placeUpTo_7 (fun c_7 => ?_) (fun c_7 => ?_)
    · exact absurd c_7 (nI_pos (by omega))
    · refine gg_aldn dc_P_placeUpTo_10 rfl rfl ?_
      refine gg_getr dc_P_placeUpTo_11 lf_P_29 h0 rfl ?_
      refine gg_ildn dc_P_placeUpTo_14 rfl rfl ?_
      refine gg_okS (sp_R_atE h1 (by omega) rfl (by omega)) dc_P_placeUpTo_15 ml_P_23 ce_R_at ⟨Nat.le_of_ble_eq_true rfl, Nat.le_of_ble_eq_true rfl⟩ rfl (Nat.le_of_ble_eq_true rfl) ⟨rfl, rfl⟩ ⟨Nat.le_of_ble_eq_true rfl, Nat.le_of_ble_eq_true rfl⟩ ?_
      refine gg_goto dc_P_placeUpTo_18 ?_
      exact gg_iret dc_P_placeUpTo_23 rfl ⟨Nat.le_of_ble_eq_true rfl, Nat.le_of_ble_eq_true rfl⟩ (⟨rfl, rfl⟩)
set_option maxRecDepth 100000 in
set_option maxHeartbeats 4000000 in
theorem sp_P_valueAt {Γ : cx_T} {τ : Nat × (Nat → sh_T)} {ν : Nat → Nat → Int32} {q n : Nat} {x : Int32} (hq : sh_Pt τ.2 q) (hn : ν q 2 = nI n) (h10 : n ≤ 10) {d : Int32} : mt_P Γ mk_P_valueAt [.ref q, .int x, .int d] (τ, ν) (fun v μ' => v = some (.int (if ha_N (ut_N (ν (q + 1)) x n 0) (ν (q + 1)) x = 0 then d else pk_I (ut_N (ν (q + 1)) x n 0) (ν (q + 2)) d)) ∧ μ' = (τ, ν)) := by
  refine mt_of (L := [some (.ref q), some (.int x), some (.int d), none]) (by decide +kernel) (by simp [Value.category]) (Nat.le_of_ble_eq_true rfl) (lc_3_4 ()) ?_
  obtain ⟨h0, h1, h2⟩ := id hq
  have hle := (ut_le (ν (q + 1)) x n 0).2
  rcases hu : ut_N (ν (q + 1)) x n 0 with _ | k
  · refine gg_aldn dc_P_valueAt_0 rfl rfl ?_
    refine gg_ildn dc_P_valueAt_1 rfl rfl ?_
    refine gg_okV (sp_P_lu0 hq hn h10 hu) dc_P_valueAt_2 ml_P_11 ce_P_lastUpTo ⟨Nat.le_of_ble_eq_true rfl, Nat.le_of_ble_eq_true rfl⟩ h0 rfl rfl (Nat.le_of_ble_eq_true rfl) ⟨rfl, rfl⟩ ⟨Nat.le_of_ble_eq_true rfl, Nat.le_of_ble_eq_true rfl⟩ ?_
    refine gg_istn (i := 3) dc_P_valueAt_5 rfl (Nat.le_of_ble_eq_true rfl) rfl ?_
    dsimp only [List.set]
    refine gg_aldn dc_P_valueAt_6 rfl rfl ?_
    refine gg_ildn dc_P_valueAt_7 rfl rfl ?_
    refine gg_ildn dc_P_valueAt_8 rfl rfl ?_
    refine gg_okV (sp_P_isAt0) dc_P_valueAt_9 ml_P_15 ce_P_isAt ⟨Nat.le_of_ble_eq_true rfl, Nat.le_of_ble_eq_true rfl⟩ h0 rfl rfl (Nat.le_of_ble_eq_true rfl) ⟨rfl, rfl⟩ ⟨Nat.le_of_ble_eq_true rfl, Nat.le_of_ble_eq_true rfl⟩ ?_
    refine gg_ifeq dc_P_valueAt_12 (fun c_12 => ?_) (fun c_12 => ?_)
    · refine gg_ildn dc_P_valueAt_26 rfl rfl ?_
      exact gg_iret dc_P_valueAt_27 rfl ⟨Nat.le_of_ble_eq_true rfl, Nat.le_of_ble_eq_true rfl⟩ (⟨by unfold ha_N; rw [if_pos rfl], rfl⟩)
    · exact absurd rfl c_12
  · have hk : k < n := by omega
    refine gg_aldn dc_P_valueAt_0 rfl rfl ?_
    refine gg_ildn dc_P_valueAt_1 rfl rfl ?_
    refine gg_okV (sp_P_luK hq hn h10 hu) dc_P_valueAt_2 ml_P_11 ce_P_lastUpTo ⟨Nat.le_of_ble_eq_true rfl, Nat.le_of_ble_eq_true rfl⟩ h0 rfl rfl (Nat.le_of_ble_eq_true rfl) ⟨rfl, rfl⟩ ⟨Nat.le_of_ble_eq_true rfl, Nat.le_of_ble_eq_true rfl⟩ ?_
    refine gg_istn (i := 3) dc_P_valueAt_5 rfl (Nat.le_of_ble_eq_true rfl) rfl ?_
    dsimp only [List.set]
    refine gg_aldn dc_P_valueAt_6 rfl rfl ?_
    refine gg_ildn dc_P_valueAt_7 rfl rfl ?_
    refine gg_ildn dc_P_valueAt_8 rfl rfl ?_
    refine gg_okV (sp_P_isAtK hq (by omega)) dc_P_valueAt_9 ml_P_15 ce_P_isAt ⟨Nat.le_of_ble_eq_true rfl, Nat.le_of_ble_eq_true rfl⟩ h0 rfl rfl (Nat.le_of_ble_eq_true rfl) ⟨rfl, rfl⟩ ⟨Nat.le_of_ble_eq_true rfl, Nat.le_of_ble_eq_true rfl⟩ ?_
    refine gg_ifeq dc_P_valueAt_12 (fun c_12 => ?_) (fun c_12 => ?_)
    · refine gg_ildn dc_P_valueAt_26 rfl rfl ?_
      exact gg_iret dc_P_valueAt_27 rfl ⟨Nat.le_of_ble_eq_true rfl, Nat.le_of_ble_eq_true rfl⟩ (⟨by unfold ha_N; rw [if_pos c_12], rfl⟩)
    · refine gg_aldn dc_P_valueAt_15 rfl rfl ?_
      refine gg_getr dc_P_valueAt_16 lf_P_19 h0 rfl ?_
      refine gg_ildn dc_P_valueAt_19 rfl rfl ?_
      refine gg_okS (sp_R_atE h2 (by omega) rfl (by omega)) dc_P_valueAt_20 ml_P_23 ce_R_at ⟨Nat.le_of_ble_eq_true rfl, Nat.le_of_ble_eq_true rfl⟩ rfl (Nat.le_of_ble_eq_true rfl) ⟨rfl, rfl⟩ ⟨Nat.le_of_ble_eq_true rfl, Nat.le_of_ble_eq_true rfl⟩ ?_
      refine gg_goto dc_P_valueAt_23 ?_
      exact gg_iret dc_P_valueAt_27 rfl ⟨Nat.le_of_ble_eq_true rfl, Nat.le_of_ble_eq_true rfl⟩ (⟨by unfold ha_N; rw [if_neg c_12]; rfl, rfl⟩)
set_option maxRecDepth 100000 in
set_option maxHeartbeats 4000000 in
theorem sp_P_placeAbove {Γ : cx_T} {τ : Nat × (Nat → sh_T)} {ν : Nat → Nat → Int32} {q n : Nat} {x : Int32} (hq : sh_Pt τ.2 q) (hn : ν q 2 = nI n) (h10 : n ≤ 10) : mt_P Γ mk_P_placeAbove [.ref q, .int x] (τ, ν) (fun v μ' => v = some (.int (if ut_N (ν (q + 1)) x n 0 < n then ν (q + 1) (ut_N (ν (q + 1)) x n 0) else 1000000000)) ∧ μ' = (τ, ν)) := by
  refine mt_of (L := [some (.ref q), some (.int x), none]) (by decide +kernel) (by simp [Value.category]) (Nat.le_of_ble_eq_true rfl) (lc_2_3 ()) ?_
  obtain ⟨h0, h1, h2⟩ := id hq
  have hle := (ut_le (ν (q + 1)) x n 0).2
  rcases hu : ut_N (ν (q + 1)) x n 0 with _ | k
  · refine gg_aldn dc_P_placeAbove_0 rfl rfl ?_
    refine gg_ildn dc_P_placeAbove_1 rfl rfl ?_
    refine gg_okV (sp_P_lu0 hq hn h10 hu) dc_P_placeAbove_2 ml_P_11 ce_P_lastUpTo ⟨Nat.le_of_ble_eq_true rfl, Nat.le_of_ble_eq_true rfl⟩ h0 rfl rfl (Nat.le_of_ble_eq_true rfl) ⟨rfl, rfl⟩ ⟨Nat.le_of_ble_eq_true rfl, Nat.le_of_ble_eq_true rfl⟩ ?_
    refine gg_iconst (v := 1) dc_P_placeAbove_5 (by decide) ?_
    refine gg_iadd dc_P_placeAbove_6 ?_
    refine gx_top (show (-1 : Int32) + 1 = nI 0 by decide) ?_
    refine gg_istn (i := 2) dc_P_placeAbove_7 rfl (Nat.le_of_ble_eq_true rfl) rfl ?_
    dsimp only [List.set]
    refine gg_ildn dc_P_placeAbove_8 rfl rfl ?_
    refine gg_aldn dc_P_placeAbove_9 rfl rfl ?_
    refine gx_geti dc_P_placeAbove_10 lf_P_33 h0 rfl ?_
    rw [hn]
    refine gg_icge dc_P_placeAbove_13 (fun c_13 => ?_) (fun c_13 => ?_)
    · refine gg_ldc dc_P_placeAbove_27 lk_P_37 ?_
      exact gg_iret dc_P_placeAbove_29 rfl ⟨Nat.le_of_ble_eq_true rfl, Nat.le_of_ble_eq_true rfl⟩ (⟨by rw [if_neg (fun q => absurd c_13 (nI_ge q (by omega)))], rfl⟩)
    · refine gg_aldn dc_P_placeAbove_16 rfl rfl ?_
      refine gg_getr dc_P_placeAbove_17 lf_P_29 h0 rfl ?_
      refine gg_ildn dc_P_placeAbove_20 rfl rfl ?_
      refine gg_okS (sp_R_atE h1 (by omega) rfl (by omega)) dc_P_placeAbove_21 ml_P_23 ce_R_at ⟨Nat.le_of_ble_eq_true rfl, Nat.le_of_ble_eq_true rfl⟩ rfl (Nat.le_of_ble_eq_true rfl) ⟨rfl, rfl⟩ ⟨Nat.le_of_ble_eq_true rfl, Nat.le_of_ble_eq_true rfl⟩ ?_
      refine gg_goto dc_P_placeAbove_24 ?_
      exact gg_iret dc_P_placeAbove_29 rfl ⟨Nat.le_of_ble_eq_true rfl, Nat.le_of_ble_eq_true rfl⟩ (⟨by rw [if_pos (Classical.not_not.mp fun q => c_13 (nI_le (by omega) (by omega)))], rfl⟩)
  · have hk : k < n := by omega
    refine gg_aldn dc_P_placeAbove_0 rfl rfl ?_
    refine gg_ildn dc_P_placeAbove_1 rfl rfl ?_
    refine gg_okV (sp_P_luK hq hn h10 hu) dc_P_placeAbove_2 ml_P_11 ce_P_lastUpTo ⟨Nat.le_of_ble_eq_true rfl, Nat.le_of_ble_eq_true rfl⟩ h0 rfl rfl (Nat.le_of_ble_eq_true rfl) ⟨rfl, rfl⟩ ⟨Nat.le_of_ble_eq_true rfl, Nat.le_of_ble_eq_true rfl⟩ ?_
    refine gg_iconst (v := 1) dc_P_placeAbove_5 (by decide) ?_
    refine gg_iadd dc_P_placeAbove_6 ?_
    refine gx_top (nI_1 k) ?_
    refine gg_istn (i := 2) dc_P_placeAbove_7 rfl (Nat.le_of_ble_eq_true rfl) rfl ?_
    dsimp only [List.set]
    refine gg_ildn dc_P_placeAbove_8 rfl rfl ?_
    refine gg_aldn dc_P_placeAbove_9 rfl rfl ?_
    refine gx_geti dc_P_placeAbove_10 lf_P_33 h0 rfl ?_
    rw [hn]
    refine gg_icge dc_P_placeAbove_13 (fun c_13 => ?_) (fun c_13 => ?_)
    · refine gg_ldc dc_P_placeAbove_27 lk_P_37 ?_
      exact gg_iret dc_P_placeAbove_29 rfl ⟨Nat.le_of_ble_eq_true rfl, Nat.le_of_ble_eq_true rfl⟩ (⟨by rw [if_neg (fun q => absurd c_13 (nI_ge q (by omega)))], rfl⟩)
    · refine gg_aldn dc_P_placeAbove_16 rfl rfl ?_
      refine gg_getr dc_P_placeAbove_17 lf_P_29 h0 rfl ?_
      refine gg_ildn dc_P_placeAbove_20 rfl rfl ?_
      refine gg_okS (sp_R_atE h1 (by omega) rfl (by have := Classical.not_not.mp (fun q : ¬ k + 1 < n => c_13 (nI_le (by omega) (by omega))); omega)) dc_P_placeAbove_21 ml_P_23 ce_R_at ⟨Nat.le_of_ble_eq_true rfl, Nat.le_of_ble_eq_true rfl⟩ rfl (Nat.le_of_ble_eq_true rfl) ⟨rfl, rfl⟩ ⟨Nat.le_of_ble_eq_true rfl, Nat.le_of_ble_eq_true rfl⟩ ?_
      refine gg_goto dc_P_placeAbove_24 ?_
      exact gg_iret dc_P_placeAbove_29 rfl ⟨Nat.le_of_ble_eq_true rfl, Nat.le_of_ble_eq_true rfl⟩ (⟨by rw [if_pos (Classical.not_not.mp fun q => c_13 (nI_le (by omega) (by omega)))], rfl⟩)
set_option maxRecDepth 100000 in
set_option maxHeartbeats 4000000 in
theorem sp_Q_isFull {Γ : cx_T} {τ : Nat × (Nat → sh_T)} {ν : Nat → Nat → Int32} {ci N q n : Nat} (hci : ci = 1 ∨ ci = 2) (hq : sh_Pl τ.2 ci N q) (hn : ν q 2 = nI n) (hN : N < 2 ^ 31) (hle : n ≤ N) : mt_P Γ mk_Q_isFull [.ref q] (τ, ν) (fun v μ' => v = some (.int (if n < N then 0 else 1)) ∧ μ' = (τ, ν)) := by
  refine mt_of (L := [some (.ref q)]) (by decide +kernel) (by simp [Value.category]) (Nat.le_of_ble_eq_true rfl) (lc_1_1 ()) ?_
  obtain ⟨h0, h1, h2⟩ := id hq
  refine gg_aldn dc_Q_isFull_0 rfl rfl ?_
  refine gx_geti dc_Q_isFull_1 (lf_Q_22 hci) h0 rfl ?_
  refine gx_top (hn) ?_
  refine gg_aldn dc_Q_isFull_4 rfl rfl ?_
  refine gg_getr dc_Q_isFull_5 (lf_Q_13 hci) h0 rfl ?_
  refine gg_alen dc_Q_isFull_8 (Or.inl h1) rfl ?_
  refine gg_iclt dc_Q_isFull_9 (fun c_9 => ?_) (fun c_9 => ?_)
  · refine gg_iconst (v := 0) dc_Q_isFull_16 (by decide) ?_
    exact gg_zret dc_Q_isFull_17 rfl (by first | exact Or.inl rfl | exact Or.inr rfl | assumption) ⟨Nat.le_of_ble_eq_true rfl, Nat.le_of_ble_eq_true rfl⟩ (⟨by rw [if_pos (Classical.not_not.mp fun q => absurd c_9 (nI_nlt (a := n) (b := N) (by omega) (by omega)))], rfl⟩)
  · refine gg_iconst (v := 1) dc_Q_isFull_12 (by decide) ?_
    refine gg_goto dc_Q_isFull_13 ?_
    exact gg_zret dc_Q_isFull_17 rfl (by first | exact Or.inl rfl | exact Or.inr rfl | assumption) ⟨Nat.le_of_ble_eq_true rfl, Nat.le_of_ble_eq_true rfl⟩ (⟨by rw [if_neg (fun q => c_9 (nI_lt (a := n) (b := N) q (by omega)))], rfl⟩)
set_option maxRecDepth 100000 in
set_option maxHeartbeats 4000000 in
theorem sp_P_hasRoomFor {Γ : cx_T} {τ : Nat × (Nat → sh_T)} {ν : Nat → Nat → Int32} {q n : Nat} {x : Int32} (hq : sh_Pt τ.2 q) (hn : ν q 2 = nI n) (h10 : n ≤ 10) : mt_P Γ mk_P_hasRoomFor [.ref q, .int x] (τ, ν) (fun v μ' => v = some (.int (if n < 10 then 1 else ha_N (ut_N (ν (q + 1)) x n 0) (ν (q + 1)) x)) ∧ μ' = (τ, ν)) := by
  refine mt_of (L := [some (.ref q), some (.int x)]) (by decide +kernel) (by simp [Value.category]) (Nat.le_of_ble_eq_true rfl) (lc_2_2 ()) ?_
  obtain ⟨h0, h1, h2⟩ := id hq
  have hle := (ut_le (ν (q + 1)) x n 0).2
  rcases hu : ut_N (ν (q + 1)) x n 0 with _ | k
  · refine gg_aldn dc_P_hasRoomFor_0 rfl rfl ?_
    refine gg_okU (sp_Q_isFull (Or.inr rfl) (show sh_Pl τ.2 2 10 q from hq) hn (by omega) h10) dc_P_hasRoomFor_1 ml_P_44 ce_Q_isFull_P ⟨Nat.le_of_ble_eq_true rfl, Nat.le_of_ble_eq_true rfl⟩ h0 rfl rfl (Nat.le_of_ble_eq_true rfl) ⟨rfl, rfl⟩ ⟨Nat.le_of_ble_eq_true rfl, Nat.le_of_ble_eq_true rfl⟩ ?_
    refine gg_ifeq dc_P_hasRoomFor_4 (fun c_4 => ?_) (fun c_4 => ?_)
    · refine gg_iconst (v := 1) dc_P_hasRoomFor_20 (by decide) ?_
      refine gg_goto dc_P_hasRoomFor_21 ?_
      exact gg_zret dc_P_hasRoomFor_25 rfl (by first | exact Or.inl rfl | exact Or.inr rfl | assumption) ⟨Nat.le_of_ble_eq_true rfl, Nat.le_of_ble_eq_true rfl⟩ (⟨by rw [if_pos (Classical.not_not.mp fun q => by rw [if_neg q] at c_4; exact absurd c_4 (by decide))], rfl⟩)
    · refine gg_aldn dc_P_hasRoomFor_7 rfl rfl ?_
      refine gg_aldn dc_P_hasRoomFor_8 rfl rfl ?_
      refine gg_ildn dc_P_hasRoomFor_9 rfl rfl ?_
      refine gg_okV (sp_P_lu0 hq hn h10 hu) dc_P_hasRoomFor_10 ml_P_11 ce_P_lastUpTo ⟨Nat.le_of_ble_eq_true rfl, Nat.le_of_ble_eq_true rfl⟩ h0 rfl rfl (Nat.le_of_ble_eq_true rfl) ⟨rfl, rfl⟩ ⟨Nat.le_of_ble_eq_true rfl, Nat.le_of_ble_eq_true rfl⟩ ?_
      refine gg_ildn dc_P_hasRoomFor_13 rfl rfl ?_
      refine gg_okV (sp_P_isAt0) dc_P_hasRoomFor_14 ml_P_15 ce_P_isAt ⟨Nat.le_of_ble_eq_true rfl, Nat.le_of_ble_eq_true rfl⟩ h0 rfl rfl (Nat.le_of_ble_eq_true rfl) ⟨rfl, rfl⟩ ⟨Nat.le_of_ble_eq_true rfl, Nat.le_of_ble_eq_true rfl⟩ ?_
      refine gg_ifeq dc_P_hasRoomFor_17 (fun c_17 => ?_) (fun c_17 => ?_)
      · refine gg_iconst (v := 0) dc_P_hasRoomFor_24 (by decide) ?_
        exact gg_zret dc_P_hasRoomFor_25 rfl (by first | exact Or.inl rfl | exact Or.inr rfl | assumption) ⟨Nat.le_of_ble_eq_true rfl, Nat.le_of_ble_eq_true rfl⟩ (⟨by rw [if_neg (fun q => c_4 (if_pos q))]; rfl, rfl⟩)
      · refine gg_iconst (v := 1) dc_P_hasRoomFor_20 (by decide) ?_
        refine gg_goto dc_P_hasRoomFor_21 ?_
        exact gg_zret dc_P_hasRoomFor_25 rfl (by first | exact Or.inl rfl | exact Or.inr rfl | assumption) ⟨Nat.le_of_ble_eq_true rfl, Nat.le_of_ble_eq_true rfl⟩ (⟨absurd rfl c_17, rfl⟩)
  · have hk : k < n := by omega
    refine gg_aldn dc_P_hasRoomFor_0 rfl rfl ?_
    refine gg_okU (sp_Q_isFull (Or.inr rfl) (show sh_Pl τ.2 2 10 q from hq) hn (by omega) h10) dc_P_hasRoomFor_1 ml_P_44 ce_Q_isFull_P ⟨Nat.le_of_ble_eq_true rfl, Nat.le_of_ble_eq_true rfl⟩ h0 rfl rfl (Nat.le_of_ble_eq_true rfl) ⟨rfl, rfl⟩ ⟨Nat.le_of_ble_eq_true rfl, Nat.le_of_ble_eq_true rfl⟩ ?_
    refine gg_ifeq dc_P_hasRoomFor_4 (fun c_4 => ?_) (fun c_4 => ?_)
    · refine gg_iconst (v := 1) dc_P_hasRoomFor_20 (by decide) ?_
      refine gg_goto dc_P_hasRoomFor_21 ?_
      exact gg_zret dc_P_hasRoomFor_25 rfl (by first | exact Or.inl rfl | exact Or.inr rfl | assumption) ⟨Nat.le_of_ble_eq_true rfl, Nat.le_of_ble_eq_true rfl⟩ (⟨by rw [if_pos (Classical.not_not.mp fun q => by rw [if_neg q] at c_4; exact absurd c_4 (by decide))], rfl⟩)
    · refine gg_aldn dc_P_hasRoomFor_7 rfl rfl ?_
      refine gg_aldn dc_P_hasRoomFor_8 rfl rfl ?_
      refine gg_ildn dc_P_hasRoomFor_9 rfl rfl ?_
      refine gg_okV (sp_P_luK hq hn h10 hu) dc_P_hasRoomFor_10 ml_P_11 ce_P_lastUpTo ⟨Nat.le_of_ble_eq_true rfl, Nat.le_of_ble_eq_true rfl⟩ h0 rfl rfl (Nat.le_of_ble_eq_true rfl) ⟨rfl, rfl⟩ ⟨Nat.le_of_ble_eq_true rfl, Nat.le_of_ble_eq_true rfl⟩ ?_
      refine gg_ildn dc_P_hasRoomFor_13 rfl rfl ?_
      refine gg_okV (sp_P_isAtK hq (by omega)) dc_P_hasRoomFor_14 ml_P_15 ce_P_isAt ⟨Nat.le_of_ble_eq_true rfl, Nat.le_of_ble_eq_true rfl⟩ h0 rfl rfl (Nat.le_of_ble_eq_true rfl) ⟨rfl, rfl⟩ ⟨Nat.le_of_ble_eq_true rfl, Nat.le_of_ble_eq_true rfl⟩ ?_
      refine gg_ifeq dc_P_hasRoomFor_17 (fun c_17 => ?_) (fun c_17 => ?_)
      · refine gg_iconst (v := 0) dc_P_hasRoomFor_24 (by decide) ?_
        exact gg_zret dc_P_hasRoomFor_25 rfl (by first | exact Or.inl rfl | exact Or.inr rfl | assumption) ⟨Nat.le_of_ble_eq_true rfl, Nat.le_of_ble_eq_true rfl⟩ (⟨by rw [if_neg (fun q => c_4 (if_pos q))]; unfold ha_N; split at c_17 <;> simp_all, rfl⟩)
      · refine gg_iconst (v := 1) dc_P_hasRoomFor_20 (by decide) ?_
        refine gg_goto dc_P_hasRoomFor_21 ?_
        exact gg_zret dc_P_hasRoomFor_25 rfl (by first | exact Or.inl rfl | exact Or.inr rfl | assumption) ⟨Nat.le_of_ble_eq_true rfl, Nat.le_of_ble_eq_true rfl⟩ (⟨by rw [if_neg (fun q => c_4 (if_pos q))]; unfold ha_N; split at c_17 <;> simp_all, rfl⟩)
