/-! the reference: rows kept and brought back, the flag sought -/
theorem cp_s {f g : Nat → Int32} {i : Nat} : upd (cp_N f g i) i (f i) = cp_N f g (i + 1) := by
  funext k; unfold upd cp_N
  by_cases e : k = i
  · subst e; rw [if_pos rfl, if_pos (by omega)]
  · rw [if_neg e]
    by_cases h : k < i
    · rw [if_pos h, if_pos (by omega)]
    · rw [if_neg h, if_neg (by omega)]
theorem cp_0 {f g : Nat → Int32} : cp_N f g 0 = g := by
  funext k; unfold cp_N; rw [if_neg (by omega)]
/-- a row laid into a long one from a place on -/
def pa_N (P : Nat → Int32) (b : Nat) (f : Nat → Int32) (i : Nat) : Nat → Int32 := fun j => if b ≤ j ∧ j < b + i then f (j - b) else P j
theorem pa_s {P f : Nat → Int32} {b i : Nat} : upd (pa_N P b f i) (b + i) (f i) = pa_N P b f (i + 1) := by
  funext k; unfold upd pa_N
  by_cases e : k = b + i
  · subst e; rw [if_pos rfl, if_pos (by omega), show b + i - b = i by omega]
  · rw [if_neg e]
    by_cases h : b ≤ k ∧ k < b + i
    · rw [if_pos h, if_pos (by omega)]
    · rw [if_neg h, if_neg (by omega)]
theorem pa_0 {P f : Nat → Int32} {b : Nat} : pa_N P b f 0 = P := by
  funext k; unfold pa_N; rw [if_neg (by omega)]
theorem cp_at {f g : Nat → Int32} {n i : Nat} (h : n ≤ i) : cp_N f g n i = g i := by unfold cp_N; rw [if_neg (by omega)]
set_option maxRecDepth 100000 in
set_option maxHeartbeats 4000000 in
theorem sp_M_putAside {Γ : cx_T} {τ : Nat × (Nat → sh_T)} {ν : Nat → Nat → Int32} {X : Nat → Nat → Int32} {m : Nat} (hm : sh_M τ.2 m)  : mt_P Γ mk_M_putAside [.ref m] (τ, mv_N ν m X) (fun v μ' => v = none ∧ μ' = (τ, mv_N ν m (va_up X 4 (cp_N (X 1) (X 4) 80)))) := by
  refine mt_of (L := [some (.ref m), none]) (by decide +kernel) (by simp [Value.category]) (Nat.le_of_ble_eq_true rfl) (lc_1_2 ()) ?_
  have loop : ∀ (d i : Nat), i + d = 80 → gg_P Γ mk_M_putAside (fun v μ' => v = none ∧ μ' = (τ, mv_N ν m (va_up X 4 (cp_N (X 1) (X 4) 80)))) 0 0 2 [some (.ref m), some (.int (nI i))] [] (τ, mv_N ν m (va_up X 4 (cp_N (X 1) (X 4) i))) := by
    intro d
    induction d with
    | zero =>
      intro i hi
      have hi : i = 80 := by omega
      subst hi
      refine gg_ildn dc_M_putAside_2 rfl rfl ?_
      refine gg_bipush (v := 80) dc_M_putAside_3 (by decide) ?_
      refine gg_icge dc_M_putAside_5 (fun c_5 => ?_) (fun c_5 => ?_)
      · exact gg_vret dc_M_putAside_26 rfl ⟨Nat.le_of_ble_eq_true rfl, Nat.le_of_ble_eq_true rfl⟩ (⟨rfl, rfl⟩)
      · exact absurd (Int32.le_refl _) c_5
    | succ d ih =>
      intro i hi
      refine gg_ildn dc_M_putAside_2 rfl rfl ?_
      refine gg_bipush (v := 80) dc_M_putAside_3 (by decide) ?_
      refine gg_icge dc_M_putAside_5 (fun c_5 => ?_) (fun c_5 => ?_)
      · exact absurd c_5 (nI_ge (b := 80) (by omega) (by omega))
      · refine gg_aldn dc_M_putAside_8 rfl rfl ?_
        refine gg_getr dc_M_putAside_9 lf_M_19 hm.1 rfl ?_
        refine gg_ildn dc_M_putAside_12 rfl rfl ?_
        refine gg_aldn dc_M_putAside_13 rfl rfl ?_
        refine gg_getr dc_M_putAside_14 lf_M_7 hm.1 rfl ?_
        refine gg_ildn dc_M_putAside_17 rfl rfl ?_
        refine gmx_r (o := 1) (by omega) (k := i) dc_M_putAside_18 hm (⟨rfl, show i < 80 by omega⟩) ?_
        refine gmx_w (o := 4) (by omega) (k := i) dc_M_putAside_19 hm (⟨rfl, show i < 80 by omega⟩) ?_
        rw [up_va]
        refine gg_iinc (i := 1) dc_M_putAside_20 rfl (Nat.le_of_ble_eq_true rfl) rfl ?_
        dsimp only [List.set]
        rw [show Int32.ofInt 1 = 1 from by decide]
        refine gg_goto dc_M_putAside_23 ?_
        refine gg_e (ih (i + 1) (by omega)) (by rw [nI_1]) rfl ?_
        rw [← cp_s]
        rfl
  refine gg_iconst (v := 0) dc_M_putAside_0 (by decide) ?_
  refine gg_istn (i := 1) dc_M_putAside_1 rfl (Nat.le_of_ble_eq_true rfl) rfl ?_
  dsimp only [List.set]
  refine gg_e (loop 80 0 (by omega)) rfl rfl ?_
  rw [cp_0, va_id]
set_option maxRecDepth 100000 in
set_option maxHeartbeats 4000000 in
theorem sp_M_swaps {Γ : cx_T} {τ : Nat × (Nat → sh_T)} {ν : Nat → Nat → Int32} {X : Nat → Nat → Int32} {m : Nat} (hm : sh_M τ.2 m)  : mt_P Γ mk_M_swaps [.ref m] (τ, mv_N ν m X) (fun v μ' => v = none ∧ μ' = (τ, mv_N ν m (va_up (va_up X 1 (cp_N (X 4) (X 1) 80)) 4 (cp_N (X 1) (X 4) 80)))) := by
  refine mt_of (L := [some (.ref m), none, none]) (by decide +kernel) (by simp [Value.category]) (Nat.le_of_ble_eq_true rfl) (lc_1_3 ()) ?_
  have loop : ∀ (d i : Nat), i + d = 80 → gg_P Γ mk_M_swaps (fun v μ' => v = none ∧ μ' = (τ, mv_N ν m (va_up (va_up X 1 (cp_N (X 4) (X 1) 80)) 4 (cp_N (X 1) (X 4) 80)))) 0 0 2 [some (.ref m), some (.int (nI i)), none] [] (τ, mv_N ν m (va_up (va_up X 1 (cp_N (X 4) (X 1) i)) 4 (cp_N (X 1) (X 4) i))) := by
    intro d
    induction d with
    | zero =>
      intro i hi
      have hi : i = 80 := by omega
      subst hi
      refine gg_ildn dc_M_swaps_2 rfl rfl ?_
      refine gg_bipush (v := 80) dc_M_swaps_3 (by decide) ?_
      refine gg_icge dc_M_swaps_5 (fun c_5 => ?_) (fun c_5 => ?_)
      · exact gg_vret dc_M_swaps_40 rfl ⟨Nat.le_of_ble_eq_true rfl, Nat.le_of_ble_eq_true rfl⟩ (⟨rfl, rfl⟩)
      · exact absurd (Int32.le_refl _) c_5
    | succ d ih =>
      intro i hi
      refine gg_ildn dc_M_swaps_2 rfl rfl ?_
      refine gg_bipush (v := 80) dc_M_swaps_3 (by decide) ?_
      refine gg_icge dc_M_swaps_5 (fun c_5 => ?_) (fun c_5 => ?_)
      · exact absurd c_5 (nI_ge (b := 80) (by omega) (by omega))
      · refine gg_aldn dc_M_swaps_8 rfl rfl ?_
        refine gg_getr dc_M_swaps_9 lf_M_7 hm.1 rfl ?_
        refine gg_ildn dc_M_swaps_12 rfl rfl ?_
        refine gmx_r (o := 1) (by omega) (k := i) dc_M_swaps_13 hm (⟨rfl, show i < 80 by omega⟩) ?_
        refine gg_istn (i := 2) dc_M_swaps_14 rfl (Nat.le_of_ble_eq_true rfl) rfl ?_
        dsimp only [List.set]
        refine gg_aldn dc_M_swaps_15 rfl rfl ?_
        refine gg_getr dc_M_swaps_16 lf_M_7 hm.1 rfl ?_
        refine gg_ildn dc_M_swaps_19 rfl rfl ?_
        refine gg_aldn dc_M_swaps_20 rfl rfl ?_
        refine gg_getr dc_M_swaps_21 lf_M_19 hm.1 rfl ?_
        refine gg_ildn dc_M_swaps_24 rfl rfl ?_
        refine gmx_r (o := 4) (by omega) (k := i) dc_M_swaps_25 hm (⟨rfl, show i < 80 by omega⟩) ?_
        refine gmx_w (o := 1) (by omega) (k := i) dc_M_swaps_26 hm (⟨rfl, show i < 80 by omega⟩) ?_
        refine gg_aldn dc_M_swaps_27 rfl rfl ?_
        refine gg_getr dc_M_swaps_28 lf_M_19 hm.1 rfl ?_
        refine gg_ildn dc_M_swaps_31 rfl rfl ?_
        refine gg_ildn dc_M_swaps_32 rfl rfl ?_
        refine gmx_w (o := 4) (by omega) (k := i) dc_M_swaps_33 hm (⟨rfl, show i < 80 by omega⟩) ?_
        refine gg_iinc (i := 1) dc_M_swaps_34 rfl (Nat.le_of_ble_eq_true rfl) rfl ?_
        dsimp only [List.set]
        rw [show Int32.ofInt 1 = 1 from by decide]
        refine gg_goto dc_M_swaps_37 ?_
        refine gg_L (gg_e (ih (i + 1) (by omega)) (by rw [nI_1]; rfl) rfl ?_) (lc_mid [_, _] [] _)
        rw [← cp_s, ← cp_s]
        congr 2
        funext a j
        simp only [up_2, va_up, upd]
        by_cases e4 : a = 4
        · subst e4; by_cases e : j = i
          · subst e; simp [cp_at, ud_eq]
          · simp [e, ud_ne e]
        · by_cases e1 : a = 1
          · subst e1; by_cases e : j = i
            · subst e; simp [cp_at, ud_eq]
            · simp [e, ud_ne e]
          · simp [e1, e4]
  refine gg_iconst (v := 0) dc_M_swaps_0 (by decide) ?_
  refine gg_istn (i := 1) dc_M_swaps_1 rfl (Nat.le_of_ble_eq_true rfl) rfl ?_
  dsimp only [List.set]
  refine gg_e (loop 80 0 (by omega)) rfl rfl ?_
  rw [cp_0, cp_0]
  congr 2
  funext a j
  simp only [va_up]
  by_cases e4 : a = 4
  · subst e4; simp
  · by_cases e1 : a = 1
    · subst e1; simp
    · simp [e1, e4]
set_option maxRecDepth 100000 in
set_option maxHeartbeats 4000000 in
theorem ns_tail {Γ : cx_T} {τ : Nat × (Nat → sh_T)} {ν : Nat → Nat → Int32} {X : Nat → Nat → Int32} {m : Nat} (hm : sh_M τ.2 m) {n : Nat} (hn : X 0 2 = nI n) (hn5 : n < 6) (R : Nat → Nat → Int32) (hR : up_2 (va_up X 2 (pa_N (X 2) (80 * n) (X 1) 80)) 0 2 (nI (n + 1)) = R) (w : Option Value) : gg_P Γ mk_M_notes (fun v μ' => v = none ∧ μ' = (τ, mv_N ν m (R))) 0 0 49 [some (.ref m), w] [] (τ, mv_N ν m X) := by
  subst hR
  have loop2 : ∀ (d i : Nat), i + d = 80 → gg_P Γ mk_M_notes (fun v μ' => v = none ∧ μ' = (τ, mv_N ν m (up_2 (va_up X 2 (pa_N (X 2) (80 * n) (X 1) 80)) 0 2 (nI (n + 1))))) 0 0 51 [some (.ref m), some (.int (nI i))] [] (τ, mv_N ν m (va_up X 2 (pa_N (X 2) (80 * n) (X 1) i))) := by
    intro d
    induction d with
    | zero =>
      intro i hi
      have hi : i = 80 := by omega
      subst hi
      refine gg_ildn dc_M_notes_51 rfl rfl ?_
      refine gg_bipush (v := 80) dc_M_notes_52 (by decide) ?_
      refine gg_icge dc_M_notes_54 (fun c_54 => ?_) (fun c_54 => ?_)
      · refine gg_aldn dc_M_notes_83 rfl rfl ?_
        refine gg_dup dc_M_notes_84 rfl ?_
        refine gmx_g (k := 2) dc_M_notes_85 lf_M_26 hm.1 rfl ?_
        refine gg_iconst (v := 1) dc_M_notes_88 (by decide) ?_
        refine gg_iadd dc_M_notes_89 ?_
        refine gx_top (show X 0 2 + 1 = nI (n + 1) by rw [hn, nI_1]) ?_
        refine gmx_p (k := 2) dc_M_notes_90 lp_M_26 hm.1 rfl ?_
        exact gg_vret dc_M_notes_93 rfl ⟨Nat.le_of_ble_eq_true rfl, Nat.le_of_ble_eq_true rfl⟩ (⟨rfl, rfl⟩)
      · exact absurd (Int32.le_refl _) c_54
    | succ d ih =>
      intro i hi
      refine gg_ildn dc_M_notes_51 rfl rfl ?_
      refine gg_bipush (v := 80) dc_M_notes_52 (by decide) ?_
      refine gg_icge dc_M_notes_54 (fun c_54 => ?_) (fun c_54 => ?_)
      · exact absurd c_54 (nI_ge (b := 80) (by omega) (by omega))
      · refine gg_aldn dc_M_notes_57 rfl rfl ?_
        refine gg_getr dc_M_notes_58 lf_M_13 hm.1 rfl ?_
        refine gg_bipush (v := 80) dc_M_notes_61 (by decide) ?_
        refine gg_aldn dc_M_notes_63 rfl rfl ?_
        refine gmx_g (k := 2) dc_M_notes_64 lf_M_26 hm.1 rfl ?_
        refine gg_imul dc_M_notes_67 ?_
        refine gg_ildn dc_M_notes_68 rfl rfl ?_
        refine gg_iadd dc_M_notes_69 ?_
        refine gx_top (show 80 * (X 0 2) + nI i = nI (80 * n + i) by rw [show (80 : Int32) = nI 80 from rfl, hn, pk_mul, nI_add]) ?_
        refine gg_aldn dc_M_notes_70 rfl rfl ?_
        refine gg_getr dc_M_notes_71 lf_M_7 hm.1 rfl ?_
        refine gg_ildn dc_M_notes_74 rfl rfl ?_
        refine gmx_r (o := 1) (by omega) (k := i) dc_M_notes_75 hm (⟨rfl, show i < 80 by omega⟩) ?_
        refine gmx_w (o := 2) (by omega) (k := 80 * n + i) dc_M_notes_76 hm (⟨rfl, show 80 * n + i < 480 by omega⟩) ?_
        rw [up_va]
        refine gg_iinc (i := 1) dc_M_notes_77 rfl (Nat.le_of_ble_eq_true rfl) rfl ?_
        dsimp only [List.set]
        rw [show Int32.ofInt 1 = 1 from by decide]
        refine gg_goto dc_M_notes_80 ?_
        refine gg_e (ih (i + 1) (by omega)) (by rw [nI_1]) rfl ?_
        rw [← pa_s]
        rfl
  refine gg_L (L' := [some (.ref m), none]) ?_ (lc_mid [_] [] _)
  refine gg_iconst (v := 0) dc_M_notes_49 (by decide) ?_
  refine gg_istn (i := 1) dc_M_notes_50 rfl (Nat.le_of_ble_eq_true rfl) rfl ?_
  dsimp only [List.set]
  refine gg_e (loop2 80 0 (by omega)) rfl rfl ?_
  rw [pa_0, va_id]
set_option maxRecDepth 100000 in
set_option maxHeartbeats 4000000 in
theorem sp_M_notes {Γ : cx_T} {τ : Nat × (Nat → sh_T)} {ν : Nat → Nat → Int32} {X : Nat → Nat → Int32} {m : Nat} (hm : sh_M τ.2 m) {n : Nat} (hn : X 0 2 = nI n) (hle : n ≤ 6) (h6 : ¬ n = 6) : mt_P Γ mk_M_notes [.ref m] (τ, mv_N ν m X) (fun v μ' => v = none ∧ μ' = (τ, mv_N ν m (up_2 (va_up X 2 (pa_N (X 2) (80 * n) (X 1) 80)) 0 2 (nI (n + 1))))) := by
  refine mt_of (L := [some (.ref m), none]) (by decide +kernel) (by simp [Value.category]) (Nat.le_of_ble_eq_true rfl) (lc_1_2 ()) ?_
  refine gg_aldn dc_M_notes_0 rfl rfl ?_
  refine gmx_g (k := 2) dc_M_notes_1 lf_M_26 hm.1 rfl ?_
  refine gg_bipush (v := 6) dc_M_notes_4 (by decide) ?_
  refine gg_icne dc_M_notes_6 (fun c_6 => ?_) (fun c_6 => ?_)
  · refine gg_e (ns_tail hm hn (by omega) _ rfl none) rfl rfl rfl
  · exact absurd (show nI n = nI 6 by rw [← hn]; exact c_6) (fun e => h6 ((nI_eq (by omega) (by omega)).mp e))
set_option maxRecDepth 100000 in
set_option maxHeartbeats 4000000 in
theorem sp_M_notes6 {Γ : cx_T} {τ : Nat × (Nat → sh_T)} {ν : Nat → Nat → Int32} {X : Nat → Nat → Int32} {m : Nat} (hm : sh_M τ.2 m) (hn : X 0 2 = 6) : mt_P Γ mk_M_notes [.ref m] (τ, mv_N ν m X) (fun v μ' => v = none ∧ μ' = (τ, mv_N ν m (up_2 (va_up X 2 (pa_N (cp_N (fun k => X 2 (k + 80)) (X 2) 400) 400 (X 1) 80)) 0 2 (nI 6)))) := by
  refine mt_of (L := [some (.ref m), none]) (by decide +kernel) (by simp [Value.category]) (Nat.le_of_ble_eq_true rfl) (lc_1_2 ()) ?_
  have loop : ∀ (d i : Nat), i + d = 400 → gg_P Γ mk_M_notes (fun v μ' => v = none ∧ μ' = (τ, mv_N ν m (up_2 (va_up X 2 (pa_N (cp_N (fun k => X 2 (k + 80)) (X 2) 400) 400 (X 1) 80)) 0 2 (nI 6)))) 0 0 11 [some (.ref m), some (.int (nI i))] [] (τ, mv_N ν m (va_up X 2 (cp_N (fun k => X 2 (k + 80)) (X 2) i))) := by
    intro d
    induction d with
    | zero =>
      intro i hi
      have hi : i = 400 := by omega
      subst hi
      refine gg_ildn dc_M_notes_11 rfl rfl ?_
      refine gg_sipush (v := 400) dc_M_notes_12 (by decide) ?_
      refine gg_icge dc_M_notes_15 (fun c_15 => ?_) (fun c_15 => ?_)
      · refine gg_aldn dc_M_notes_39 rfl rfl ?_
        refine gg_dup dc_M_notes_40 rfl ?_
        refine gmx_g (k := 2) dc_M_notes_41 lf_M_26 hm.1 rfl ?_
        refine gg_iconst (v := 1) dc_M_notes_44 (by decide) ?_
        refine gg_isub dc_M_notes_45 ?_
        refine gx_top (show X 0 2 - 1 = nI 5 by rw [hn]; rfl) ?_
        refine gmx_p (k := 2) dc_M_notes_46 lp_M_26 hm.1 rfl ?_
        refine ns_tail hm (n := 5) rfl (by omega) _ ?_ _
        funext a j
        by_cases e2 : a = 2
        · subst e2; simp [up_2, va_up, u2_ne]
        · by_cases e0 : a = 0
          · subst e0; by_cases e : j = 2 <;> simp [up_2, va_up, e]
          · simp [up_2, va_up, e0, e2]
      · exact absurd (Int32.le_refl _) c_15
    | succ d ih =>
      intro i hi
      refine gg_ildn dc_M_notes_11 rfl rfl ?_
      refine gg_sipush (v := 400) dc_M_notes_12 (by decide) ?_
      refine gg_icge dc_M_notes_15 (fun c_15 => ?_) (fun c_15 => ?_)
      · exact absurd c_15 (nI_ge (b := 400) (by omega) (by omega))
      · refine gg_aldn dc_M_notes_18 rfl rfl ?_
        refine gg_getr dc_M_notes_19 lf_M_13 hm.1 rfl ?_
        refine gg_ildn dc_M_notes_22 rfl rfl ?_
        refine gg_aldn dc_M_notes_23 rfl rfl ?_
        refine gg_getr dc_M_notes_24 lf_M_13 hm.1 rfl ?_
        refine gg_ildn dc_M_notes_27 rfl rfl ?_
        refine gg_bipush (v := 80) dc_M_notes_28 (by decide) ?_
        refine gg_iadd dc_M_notes_30 ?_
        refine gmx_r (o := 2) (by omega) (k := i + 80) dc_M_notes_31 hm (⟨by rw [show (80 : Int32) = nI 80 from rfl, nI_add], show i + 80 < 480 by omega⟩) ?_
        refine gmx_w (o := 2) (by omega) (k := i) dc_M_notes_32 hm (⟨rfl, show i < 480 by omega⟩) ?_
        rw [up_va]
        refine gg_iinc (i := 1) dc_M_notes_33 rfl (Nat.le_of_ble_eq_true rfl) rfl ?_
        dsimp only [List.set]
        rw [show Int32.ofInt 1 = 1 from by decide]
        refine gg_goto dc_M_notes_36 ?_
        refine gg_e (ih (i + 1) (by omega)) (by rw [nI_1]) rfl ?_
        rw [← cp_s]
        rw [va_up_self, cp_at (by omega)]
  refine gg_aldn dc_M_notes_0 rfl rfl ?_
  refine gmx_g (k := 2) dc_M_notes_1 lf_M_26 hm.1 rfl ?_
  refine gg_bipush (v := 6) dc_M_notes_4 (by decide) ?_
  refine gg_icne dc_M_notes_6 (fun c_6 => ?_) (fun c_6 => ?_)
  · exact absurd hn c_6
  · refine gg_iconst (v := 0) dc_M_notes_9 (by decide) ?_
    refine gg_istn (i := 1) dc_M_notes_10 rfl (Nat.le_of_ble_eq_true rfl) rfl ?_
    dsimp only [List.set]
    refine gg_e (loop 400 0 (by omega)) rfl rfl ?_
    rw [cp_0, va_id]
set_option maxRecDepth 100000 in
set_option maxHeartbeats 4000000 in
theorem sp_M_undo0 {Γ : cx_T} {τ : Nat × (Nat → sh_T)} {ν : Nat → Nat → Int32} {X : Nat → Nat → Int32} {m : Nat} (hm : sh_M τ.2 m) (hn : X 0 2 = 0) : mt_P Γ mk_M_undo [.ref m] (τ, mv_N ν m X) (fun v μ' => v = some (.int (-1000002)) ∧ μ' = (τ, mv_N ν m (X))) := by
  refine mt_of (L := [some (.ref m), none]) (by decide +kernel) (by simp [Value.category]) (Nat.le_of_ble_eq_true rfl) (lc_1_2 ()) ?_
  refine gg_aldn dc_M_undo_0 rfl rfl ?_
  refine gmx_g (k := 2) dc_M_undo_1 lf_M_26 hm.1 rfl ?_
  refine gg_ifne dc_M_undo_4 (fun c_4 => ?_) (fun c_4 => ?_)
  · exact absurd hn c_4
  · refine gg_ldc dc_M_undo_7 lk_M_30 ?_
    exact gg_iret dc_M_undo_9 rfl ⟨Nat.le_of_ble_eq_true rfl, Nat.le_of_ble_eq_true rfl⟩ (⟨rfl, rfl⟩)
set_option maxRecDepth 100000 in
set_option maxHeartbeats 4000000 in
theorem sp_M_undo {Γ : cx_T} {τ : Nat × (Nat → sh_T)} {ν : Nat → Nat → Int32} {X : Nat → Nat → Int32} {m : Nat} (hm : sh_M τ.2 m) {n : Nat} (hn : X 0 2 = nI (n + 1)) (h5 : n < 6) : mt_P Γ mk_M_undo [.ref m] (τ, mv_N ν m X) (fun v μ' => v = some (.int (nI n)) ∧ μ' = (τ, mv_N ν m (va_up (up_2 X 0 2 (nI n)) 1 (cp_N (fun k => X 2 (80 * n + k)) (X 1) 80)))) := by
  refine mt_of (L := [some (.ref m), none]) (by decide +kernel) (by simp [Value.category]) (Nat.le_of_ble_eq_true rfl) (lc_1_2 ()) ?_
  have loop : ∀ (d i : Nat), i + d = 80 → gg_P Γ mk_M_undo (fun v μ' => v = some (.int (nI n)) ∧ μ' = (τ, mv_N ν m (va_up (up_2 X 0 2 (nI n)) 1 (cp_N (fun k => X 2 (80 * n + k)) (X 1) 80)))) 0 0 22 [some (.ref m), some (.int (nI i))] [] (τ, mv_N ν m (va_up (up_2 X 0 2 (nI n)) 1 (cp_N (fun k => X 2 (80 * n + k)) (X 1) i))) := by
    intro d
    induction d with
    | zero =>
      intro i hi
      have hi : i = 80 := by omega
      subst hi
      refine gg_ildn dc_M_undo_22 rfl rfl ?_
      refine gg_bipush (v := 80) dc_M_undo_23 (by decide) ?_
      refine gg_icge dc_M_undo_25 (fun c_25 => ?_) (fun c_25 => ?_)
      · refine gg_aldn dc_M_undo_54 rfl rfl ?_
        refine gmx_g (k := 2) dc_M_undo_55 lf_M_26 hm.1 rfl ?_
        exact gg_iret dc_M_undo_58 rfl ⟨Nat.le_of_ble_eq_true rfl, Nat.le_of_ble_eq_true rfl⟩ (⟨rfl, rfl⟩)
      · exact absurd (Int32.le_refl _) c_25
    | succ d ih =>
      intro i hi
      refine gg_ildn dc_M_undo_22 rfl rfl ?_
      refine gg_bipush (v := 80) dc_M_undo_23 (by decide) ?_
      refine gg_icge dc_M_undo_25 (fun c_25 => ?_) (fun c_25 => ?_)
      · exact absurd c_25 (nI_ge (b := 80) (by omega) (by omega))
      · refine gg_aldn dc_M_undo_28 rfl rfl ?_
        refine gg_getr dc_M_undo_29 lf_M_7 hm.1 rfl ?_
        refine gg_ildn dc_M_undo_32 rfl rfl ?_
        refine gg_aldn dc_M_undo_33 rfl rfl ?_
        refine gg_getr dc_M_undo_34 lf_M_13 hm.1 rfl ?_
        refine gg_bipush (v := 80) dc_M_undo_37 (by decide) ?_
        refine gg_aldn dc_M_undo_39 rfl rfl ?_
        refine gmx_g (k := 2) dc_M_undo_40 lf_M_26 hm.1 rfl ?_
        refine gg_imul dc_M_undo_43 ?_
        refine gg_ildn dc_M_undo_44 rfl rfl ?_
        refine gg_iadd dc_M_undo_45 ?_
        refine gmx_r (o := 2) (by omega) (k := 80 * n + i) dc_M_undo_46 hm (⟨by show 80 * nI n + nI i = _; rw [show (80 : Int32) = nI 80 from rfl, pk_mul, nI_add], show 80 * n + i < 480 by omega⟩) ?_
        refine gmx_w (o := 1) (by omega) (k := i) dc_M_undo_47 hm (⟨rfl, show i < 80 by omega⟩) ?_
        rw [up_va]
        refine gg_iinc (i := 1) dc_M_undo_48 rfl (Nat.le_of_ble_eq_true rfl) rfl ?_
        dsimp only [List.set]
        rw [show Int32.ofInt 1 = 1 from by decide]
        refine gg_goto dc_M_undo_51 ?_
        refine gg_e (ih (i + 1) (by omega)) (by rw [nI_1]) rfl ?_
        rw [← cp_s]
        rfl
  refine gg_aldn dc_M_undo_0 rfl rfl ?_
  refine gmx_g (k := 2) dc_M_undo_1 lf_M_26 hm.1 rfl ?_
  refine gg_ifne dc_M_undo_4 (fun c_4 => ?_) (fun c_4 => ?_)
  · refine gg_aldn dc_M_undo_10 rfl rfl ?_
    refine gg_dup dc_M_undo_11 rfl ?_
    refine gmx_g (k := 2) dc_M_undo_12 lf_M_26 hm.1 rfl ?_
    refine gg_iconst (v := 1) dc_M_undo_15 (by decide) ?_
    refine gg_isub dc_M_undo_16 ?_
    refine gx_top (show X 0 2 - 1 = nI n by rw [hn, nI_pred]) ?_
    refine gmx_p (k := 2) dc_M_undo_17 lp_M_26 hm.1 rfl ?_
    refine gg_iconst (v := 0) dc_M_undo_20 (by decide) ?_
    refine gg_istn (i := 1) dc_M_undo_21 rfl (Nat.le_of_ble_eq_true rfl) rfl ?_
    dsimp only [List.set]
    refine gg_e (loop 80 0 (by omega)) rfl rfl ?_
    rw [cp_0]
    congr 2
    exact (va_id (ν := up_2 X 0 2 (nI n)) (r := 1)).symm
  · exact absurd (show nI (n + 1) = nI 0 by rw [← hn]; exact c_4) (fun e => absurd ((nI_eq (by omega) (by omega)).mp e) (by omega))
