/-! the reference: its numbers, the flag sought, its lists changed -/
def nm_N (k : Nat) (x : Int32) : Int32 := match k with
  | 0 => if x = 1 ∨ x = 2 ∨ x = 4 ∨ x = 8 ∨ x = 16 then 1 else 0
  | 1 => in_I x 0 200
  | 2 => in_I x 1 1000
  | 3 => in_I x 0 100
  | _ => in_I x 0 50
def nm_I (i x : Int32) : Int32 := if i < 0 ∨ 6 ≤ i then 0 else nm_N i.toNatClampNeg x
theorem nm_k {k : Nat} {x : Int32} (h : k < 6) : nm_I (nI k) x = nm_N k x := by
  unfold nm_I
  rw [if_neg (fun q => q.elim (nI_pos (by omega)) (nI_ge (b := 6) h (by omega))), nI_clamp (by omega)]
theorem in_01 {x a b : Int32} : in_I x a b = 0 ∨ in_I x a b = 1 := by
  unfold in_I; split
  · exact Or.inl rfl
  · exact Or.inr rfl
/-- microsteps in a direction until a test holds, at most so many; how many are left -/
def lp_S (c : (Nat → Int32) → Bool) (d : Int32) : Nat → (Nat → Int32) → (Nat → Int32) × Nat
  | 0, S => (S, 0)
  | l + 1, S => if c S = true then (S, l + 1) else lp_S c d l (ms_S S d)
def se_S (S : Nat → Int32) (w : Int32) : (Nat → Int32) × Nat := if w = 0 then lp_S (fun T => decide (S 19 ≤ T 8)) 1 (lp_S (fun T => decide (T 8 < S 19 - 16)) (-1) 20001 S).2 (lp_S (fun T => decide (T 8 < S 19 - 16)) (-1) 20001 S).1 else lp_S (fun T => decide (T 8 ≤ S 20)) (-1) (lp_S (fun T => decide (S 20 + 16 < T 8)) 1 20001 S).2 (lp_S (fun T => decide (S 20 + 16 < T 8)) 1 20001 S).1
theorem lp_o {c : (Nat → Int32) → Bool} {d : Int32} {j : Nat} (h : j < 6 ∨ j = 11 ∨ 17 ≤ j) : ∀ (f : Nat) (S : Nat → Int32), (lp_S c d f S).1 j = S j
  | 0, S => rfl
  | f + 1, S => by
    unfold lp_S
    split
    · rfl
    · exact (lp_o h f (ms_S S d)).trans (ms_o h)
theorem lp_l {c : (Nat → Int32) → Bool} {d : Int32} : ∀ (f : Nat) (S : Nat → Int32), (lp_S c d f S).2 ≤ f
  | 0, S => Nat.le_refl 0
  | f + 1, S => by
    unfold lp_S
    split
    · exact Nat.le_refl _
    · exact Nat.le_succ_of_le (lp_l f _)
theorem lp_t {c : (Nat → Int32) → Bool} {d : Int32} {f : Nat} {S : Nat → Int32} (h : c S = true) : lp_S c d (f + 1) S = (S, f + 1) := if_pos h
theorem lp_f {c : (Nat → Int32) → Bool} {d : Int32} {f : Nat} {S : Nat → Int32} (h : ¬ c S = true) : lp_S c d (f + 1) S = lp_S c d f (ms_S S d) := if_neg h
set_option maxRecDepth 100000 in
set_option maxHeartbeats 4000000 in
theorem sp_M_isPlace {Γ : cx_T} {τ : Nat × (Nat → sh_T)} {ν : Nat → Nat → Int32} {x : Int32} : mt_P Γ mk_M_isPlace [.int x] (τ, ν) (fun v μ' => v = some (.int (in_I x (-20000) 20000)) ∧ μ' = (τ, ν)) := by
  refine mt_of (L := [some (.int x)]) (by decide +kernel) (by simp [Value.category]) (Nat.le_of_ble_eq_true rfl) (lc_1_1 ()) ?_
  refine gg_ildn dc_M_isPlace_0 rfl rfl ?_
  refine gg_sipush (v := (-20000)) dc_M_isPlace_1 (by decide) ?_
  refine gg_sipush (v := 20000) dc_M_isPlace_4 (by decide) ?_
  refine gg_okS (sp_M_in) dc_M_isPlace_7 ml_M_31 ce_M_in ⟨Nat.le_of_ble_eq_true rfl, Nat.le_of_ble_eq_true rfl⟩ rfl (Nat.le_of_ble_eq_true rfl) ⟨rfl, rfl⟩ ⟨Nat.le_of_ble_eq_true rfl, Nat.le_of_ble_eq_true rfl⟩ ?_
  exact gg_zret dc_M_isPlace_10 rfl in_01 ⟨Nat.le_of_ble_eq_true rfl, Nat.le_of_ble_eq_true rfl⟩ (⟨rfl, rfl⟩)
set_option maxRecDepth 100000 in
set_option maxHeartbeats 4000000 in
theorem sp_M_isImage {Γ : cx_T} {τ : Nat × (Nat → sh_T)} {ν : Nat → Nat → Int32} {x : Int32} : mt_P Γ mk_M_isImage [.int x] (τ, ν) (fun v μ' => v = some (.int (in_I x 0 1)) ∧ μ' = (τ, ν)) := by
  refine mt_of (L := [some (.int x)]) (by decide +kernel) (by simp [Value.category]) (Nat.le_of_ble_eq_true rfl) (lc_1_1 ()) ?_
  refine gg_ildn dc_M_isImage_0 rfl rfl ?_
  refine gg_iconst (v := 0) dc_M_isImage_1 (by decide) ?_
  refine gg_iconst (v := 1) dc_M_isImage_2 (by decide) ?_
  refine gg_okS (sp_M_in) dc_M_isImage_3 ml_M_31 ce_M_in ⟨Nat.le_of_ble_eq_true rfl, Nat.le_of_ble_eq_true rfl⟩ rfl (Nat.le_of_ble_eq_true rfl) ⟨rfl, rfl⟩ ⟨Nat.le_of_ble_eq_true rfl, Nat.le_of_ble_eq_true rfl⟩ ?_
  exact gg_zret dc_M_isImage_6 rfl in_01 ⟨Nat.le_of_ble_eq_true rfl, Nat.le_of_ble_eq_true rfl⟩ (⟨rfl, rfl⟩)
set_option maxRecDepth 100000 in
set_option maxHeartbeats 4000000 in
theorem sp_M_isNumber {Γ : cx_T} {τ : Nat × (Nat → sh_T)} {ν : Nat → Nat → Int32} {i x : Int32} : mt_P Γ mk_M_isNumber [.int i, .int x] (τ, ν) (fun v μ' => v = some (.int (nm_I i x)) ∧ μ' = (τ, ν)) := by
  refine mt_of (L := [some (.int i), some (.int x)]) (by decide +kernel) (by simp [Value.category]) (Nat.le_of_ble_eq_true rfl) (lc_2_2 ()) ?_
  refine gg_ildn dc_M_isNumber_0 rfl rfl ?_
  refine gg_tab [40, 73, 82, 91, 99, 99] dc_M_isNumber_1 (fun i9 t9 hi9 ht9 => ?_) (fun hout => ?_)
  · match i9, ht9 with
    | 0, ht9 =>
      cases ht9
      have hq9 : i = nI 0 := by
        apply Int32.toInt_inj.mp
        rw [nI_toInt (by omega)]
        omega
      subst hq9
      rw [nm_k (by omega)]
      refine gg_ildn dc_M_isNumber_40 rfl rfl ?_
      refine gg_iconst (v := 1) dc_M_isNumber_41 (by decide) ?_
      refine gg_iceq dc_M_isNumber_42 (fun c_42 => ?_) (fun c_42 => ?_)
      · refine gg_iconst (v := 1) dc_M_isNumber_67 (by decide) ?_
        refine gg_goto dc_M_isNumber_68 ?_
        exact gg_zret dc_M_isNumber_72 rfl (by first | exact Or.inl rfl | exact Or.inr rfl | assumption) ⟨Nat.le_of_ble_eq_true rfl, Nat.le_of_ble_eq_true rfl⟩ (⟨by show _ = some (Value.int (if _ then _ else _)); rw [if_pos (by simp only [*, true_or, or_true])], rfl⟩)
      · refine gg_ildn dc_M_isNumber_45 rfl rfl ?_
        refine gg_iconst (v := 2) dc_M_isNumber_46 (by decide) ?_
        refine gg_iceq dc_M_isNumber_47 (fun c_47 => ?_) (fun c_47 => ?_)
        · refine gg_iconst (v := 1) dc_M_isNumber_67 (by decide) ?_
          refine gg_goto dc_M_isNumber_68 ?_
          exact gg_zret dc_M_isNumber_72 rfl (by first | exact Or.inl rfl | exact Or.inr rfl | assumption) ⟨Nat.le_of_ble_eq_true rfl, Nat.le_of_ble_eq_true rfl⟩ (⟨by show _ = some (Value.int (if _ then _ else _)); rw [if_pos (by simp only [*, true_or, or_true])], rfl⟩)
        · refine gg_ildn dc_M_isNumber_50 rfl rfl ?_
          refine gg_iconst (v := 4) dc_M_isNumber_51 (by decide) ?_
          refine gg_iceq dc_M_isNumber_52 (fun c_52 => ?_) (fun c_52 => ?_)
          · refine gg_iconst (v := 1) dc_M_isNumber_67 (by decide) ?_
            refine gg_goto dc_M_isNumber_68 ?_
            exact gg_zret dc_M_isNumber_72 rfl (by first | exact Or.inl rfl | exact Or.inr rfl | assumption) ⟨Nat.le_of_ble_eq_true rfl, Nat.le_of_ble_eq_true rfl⟩ (⟨by show _ = some (Value.int (if _ then _ else _)); rw [if_pos (by simp only [*, true_or, or_true])], rfl⟩)
          · refine gg_ildn dc_M_isNumber_55 rfl rfl ?_
            refine gg_bipush (v := 8) dc_M_isNumber_56 (by decide) ?_
            refine gg_iceq dc_M_isNumber_58 (fun c_58 => ?_) (fun c_58 => ?_)
            · refine gg_iconst (v := 1) dc_M_isNumber_67 (by decide) ?_
              refine gg_goto dc_M_isNumber_68 ?_
              exact gg_zret dc_M_isNumber_72 rfl (by first | exact Or.inl rfl | exact Or.inr rfl | assumption) ⟨Nat.le_of_ble_eq_true rfl, Nat.le_of_ble_eq_true rfl⟩ (⟨by show _ = some (Value.int (if _ then _ else _)); rw [if_pos (by simp only [*, true_or, or_true])], rfl⟩)
            · refine gg_ildn dc_M_isNumber_61 rfl rfl ?_
              refine gg_bipush (v := 16) dc_M_isNumber_62 (by decide) ?_
              refine gg_icne dc_M_isNumber_64 (fun c_64 => ?_) (fun c_64 => ?_)
              · refine gg_iconst (v := 0) dc_M_isNumber_71 (by decide) ?_
                exact gg_zret dc_M_isNumber_72 rfl (by first | exact Or.inl rfl | exact Or.inr rfl | assumption) ⟨Nat.le_of_ble_eq_true rfl, Nat.le_of_ble_eq_true rfl⟩ (⟨by show _ = some (Value.int (if _ then _ else _)); rw [if_neg (by simp only [*, or_self, not_false_eq_true, or_false, false_or])], rfl⟩)
              · refine gg_iconst (v := 1) dc_M_isNumber_67 (by decide) ?_
                refine gg_goto dc_M_isNumber_68 ?_
                exact gg_zret dc_M_isNumber_72 rfl (by first | exact Or.inl rfl | exact Or.inr rfl | assumption) ⟨Nat.le_of_ble_eq_true rfl, Nat.le_of_ble_eq_true rfl⟩ (⟨by show _ = some (Value.int (if _ then _ else _)); rw [if_pos (by simp only [*, true_or, or_true])], rfl⟩)
    | 1, ht9 =>
      cases ht9
      have hq9 : i = nI 1 := by
        apply Int32.toInt_inj.mp
        rw [nI_toInt (by omega)]
        omega
      subst hq9
      rw [nm_k (by omega)]
      refine gg_ildn dc_M_isNumber_73 rfl rfl ?_
      refine gg_iconst (v := 0) dc_M_isNumber_74 (by decide) ?_
      refine gg_sipush (v := 200) dc_M_isNumber_75 (by decide) ?_
      refine gg_okS (sp_M_in) dc_M_isNumber_78 ml_M_31 ce_M_in ⟨Nat.le_of_ble_eq_true rfl, Nat.le_of_ble_eq_true rfl⟩ rfl (Nat.le_of_ble_eq_true rfl) ⟨rfl, rfl⟩ ⟨Nat.le_of_ble_eq_true rfl, Nat.le_of_ble_eq_true rfl⟩ ?_
      exact gg_zret dc_M_isNumber_81 rfl in_01 ⟨Nat.le_of_ble_eq_true rfl, Nat.le_of_ble_eq_true rfl⟩ (⟨rfl, rfl⟩)
    | 2, ht9 =>
      cases ht9
      have hq9 : i = nI 2 := by
        apply Int32.toInt_inj.mp
        rw [nI_toInt (by omega)]
        omega
      subst hq9
      rw [nm_k (by omega)]
      refine gg_ildn dc_M_isNumber_82 rfl rfl ?_
      refine gg_iconst (v := 1) dc_M_isNumber_83 (by decide) ?_
      refine gg_sipush (v := 1000) dc_M_isNumber_84 (by decide) ?_
      refine gg_okS (sp_M_in) dc_M_isNumber_87 ml_M_31 ce_M_in ⟨Nat.le_of_ble_eq_true rfl, Nat.le_of_ble_eq_true rfl⟩ rfl (Nat.le_of_ble_eq_true rfl) ⟨rfl, rfl⟩ ⟨Nat.le_of_ble_eq_true rfl, Nat.le_of_ble_eq_true rfl⟩ ?_
      exact gg_zret dc_M_isNumber_90 rfl in_01 ⟨Nat.le_of_ble_eq_true rfl, Nat.le_of_ble_eq_true rfl⟩ (⟨rfl, rfl⟩)
    | 3, ht9 =>
      cases ht9
      have hq9 : i = nI 3 := by
        apply Int32.toInt_inj.mp
        rw [nI_toInt (by omega)]
        omega
      subst hq9
      rw [nm_k (by omega)]
      refine gg_ildn dc_M_isNumber_91 rfl rfl ?_
      refine gg_iconst (v := 0) dc_M_isNumber_92 (by decide) ?_
      refine gg_bipush (v := 100) dc_M_isNumber_93 (by decide) ?_
      refine gg_okS (sp_M_in) dc_M_isNumber_95 ml_M_31 ce_M_in ⟨Nat.le_of_ble_eq_true rfl, Nat.le_of_ble_eq_true rfl⟩ rfl (Nat.le_of_ble_eq_true rfl) ⟨rfl, rfl⟩ ⟨Nat.le_of_ble_eq_true rfl, Nat.le_of_ble_eq_true rfl⟩ ?_
      exact gg_zret dc_M_isNumber_98 rfl in_01 ⟨Nat.le_of_ble_eq_true rfl, Nat.le_of_ble_eq_true rfl⟩ (⟨rfl, rfl⟩)
    | 4, ht9 =>
      cases ht9
      have hq9 : i = nI 4 := by
        apply Int32.toInt_inj.mp
        rw [nI_toInt (by omega)]
        omega
      subst hq9
      rw [nm_k (by omega)]
      refine gg_ildn dc_M_isNumber_99 rfl rfl ?_
      refine gg_iconst (v := 0) dc_M_isNumber_100 (by decide) ?_
      refine gg_bipush (v := 50) dc_M_isNumber_101 (by decide) ?_
      refine gg_okS (sp_M_in) dc_M_isNumber_103 ml_M_31 ce_M_in ⟨Nat.le_of_ble_eq_true rfl, Nat.le_of_ble_eq_true rfl⟩ rfl (Nat.le_of_ble_eq_true rfl) ⟨rfl, rfl⟩ ⟨Nat.le_of_ble_eq_true rfl, Nat.le_of_ble_eq_true rfl⟩ ?_
      exact gg_zret dc_M_isNumber_106 rfl in_01 ⟨Nat.le_of_ble_eq_true rfl, Nat.le_of_ble_eq_true rfl⟩ (⟨rfl, rfl⟩)
    | 5, ht9 =>
      cases ht9
      have hq9 : i = nI 5 := by
        apply Int32.toInt_inj.mp
        rw [nI_toInt (by omega)]
        omega
      subst hq9
      rw [nm_k (by omega)]
      refine gg_ildn dc_M_isNumber_99 rfl rfl ?_
      refine gg_iconst (v := 0) dc_M_isNumber_100 (by decide) ?_
      refine gg_bipush (v := 50) dc_M_isNumber_101 (by decide) ?_
      refine gg_okS (sp_M_in) dc_M_isNumber_103 ml_M_31 ce_M_in ⟨Nat.le_of_ble_eq_true rfl, Nat.le_of_ble_eq_true rfl⟩ rfl (Nat.le_of_ble_eq_true rfl) ⟨rfl, rfl⟩ ⟨Nat.le_of_ble_eq_true rfl, Nat.le_of_ble_eq_true rfl⟩ ?_
      exact gg_zret dc_M_isNumber_106 rfl in_01 ⟨Nat.le_of_ble_eq_true rfl, Nat.le_of_ble_eq_true rfl⟩ (⟨rfl, rfl⟩)
    | n9 + 6, ht9 => exact absurd ht9 (by simp)
  · refine gg_iconst (v := 0) dc_M_isNumber_107 (by decide) ?_
    exact gg_zret dc_M_isNumber_108 rfl (by first | exact Or.inl rfl | exact Or.inr rfl | assumption) ⟨Nat.le_of_ble_eq_true rfl, Nat.le_of_ble_eq_true rfl⟩ (⟨by unfold nm_I; rw [if_pos (by rw [Int32.lt_iff_toInt_lt, Int32.le_iff_toInt_le]; show i.toInt < 0 ∨ (6 : Int) ≤ i.toInt; omega)], rfl⟩)
set_option maxRecDepth 100000 in
set_option maxHeartbeats 4000000 in
theorem sp_M_flags {Γ : cx_T} {τ : Nat × (Nat → sh_T)} {ν : Nat → Nat → Int32} {X : Nat → Nat → Int32} {S : Nat → Int32} {m : Nat} (hm : sh_M τ.2 m) {f t : Int32} : mt_P Γ mk_M_flags [.ref m, .int f, .int t] (τ, mv_N ν m (va_up X 1 S)) (fun v μ' => v = none ∧ μ' = (τ, mv_N ν m (va_up X 1 (upd (upd (upd S 18 1) 19 f) 20 t)))) := by
  refine mt_of (L := [some (.ref m), some (.int f), some (.int t)]) (by decide +kernel) (by simp [Value.category]) (Nat.le_of_ble_eq_true rfl) (lc_3_3 ()) ?_
  refine gg_aldn dc_M_flags_0 rfl rfl ?_
  refine gg_getr dc_M_flags_1 lf_M_7 hm.1 rfl ?_
  refine gg_bipush (v := 18) dc_M_flags_4 (by decide) ?_
  refine gg_iconst (v := 1) dc_M_flags_6 (by decide) ?_
  refine gms_w (k := 18) dc_M_flags_7 hm ⟨rfl, Nat.le_of_ble_eq_true rfl⟩ ?_
  refine gg_aldn dc_M_flags_8 rfl rfl ?_
  refine gg_getr dc_M_flags_9 lf_M_7 hm.1 rfl ?_
  refine gg_bipush (v := 19) dc_M_flags_12 (by decide) ?_
  refine gg_ildn dc_M_flags_14 rfl rfl ?_
  refine gms_w (k := 19) dc_M_flags_15 hm ⟨rfl, Nat.le_of_ble_eq_true rfl⟩ ?_
  refine gg_aldn dc_M_flags_16 rfl rfl ?_
  refine gg_getr dc_M_flags_17 lf_M_7 hm.1 rfl ?_
  refine gg_bipush (v := 20) dc_M_flags_20 (by decide) ?_
  refine gg_ildn dc_M_flags_22 rfl rfl ?_
  refine gms_w (k := 20) dc_M_flags_23 hm ⟨rfl, Nat.le_of_ble_eq_true rfl⟩ ?_
  exact gg_vret dc_M_flags_24 rfl ⟨Nat.le_of_ble_eq_true rfl, Nat.le_of_ble_eq_true rfl⟩ (⟨rfl, rfl⟩)
set_option maxRecDepth 100000 in
set_option maxHeartbeats 4000000 in
theorem sp_M_commandOf {Γ : cx_T} {τ : Nat × (Nat → sh_T)} {ν : Nat → Nat → Int32} {X : Nat → Nat → Int32} {S : Nat → Int32} {m : Nat} (hm : sh_M τ.2 m) {i w : Int32} {k q : Nat} (hi : i = nI k) (hw : w = nI q) (hk : k < 8) (hq : q < 2) : mt_P Γ mk_M_commandOf [.ref m, .int i, .int w] (τ, mv_N ν m (va_up X 1 S)) (fun v μ' => v = some (.int (S (64 + 2 * k + q))) ∧ μ' = (τ, mv_N ν m (va_up X 1 (S)))) := by
  refine mt_of (L := [some (.ref m), some (.int i), some (.int w)]) (by decide +kernel) (by simp [Value.category]) (Nat.le_of_ble_eq_true rfl) (lc_3_3 ()) ?_
  refine gg_aldn dc_M_commandOf_0 rfl rfl ?_
  refine gg_getr dc_M_commandOf_1 lf_M_7 hm.1 rfl ?_
  refine gg_bipush (v := 64) dc_M_commandOf_4 (by decide) ?_
  refine gg_iconst (v := 2) dc_M_commandOf_6 (by decide) ?_
  refine gg_ildn dc_M_commandOf_7 rfl rfl ?_
  refine gg_imul dc_M_commandOf_8 ?_
  refine gg_iadd dc_M_commandOf_9 ?_
  refine gg_ildn dc_M_commandOf_10 rfl rfl ?_
  refine gg_iadd dc_M_commandOf_11 ?_
  refine gms_r (k := 64 + 2 * k + q) dc_M_commandOf_12 hm (⟨by rw [hi, hw, show (64 : Int32) = nI 64 from rfl, show (2 : Int32) = nI 2 from rfl, pk_mul, nI_add, nI_add], by omega⟩) ?_
  exact gg_iret dc_M_commandOf_13 rfl ⟨Nat.le_of_ble_eq_true rfl, Nat.le_of_ble_eq_true rfl⟩ (⟨rfl, rfl⟩)
set_option maxRecDepth 100000 in
set_option maxHeartbeats 4000000 in
theorem sp_M_due {Γ : cx_T} {τ : Nat × (Nat → sh_T)} {ν : Nat → Nat → Int32} {X : Nat → Nat → Int32} {S : Nat → Int32} {m : Nat} (hm : sh_M τ.2 m) {w : Int32} : mt_P Γ mk_M_due [.ref m, .int w] (τ, mv_N ν m (va_up X 1 S)) (fun v μ' => v = some (.int (if w = 0 then S 19 + S 5 else S 20)) ∧ μ' = (τ, mv_N ν m (va_up X 1 (S)))) := by
  refine mt_of (L := [some (.ref m), some (.int w)]) (by decide +kernel) (by simp [Value.category]) (Nat.le_of_ble_eq_true rfl) (lc_2_2 ()) ?_
  refine gg_ildn dc_M_due_0 rfl rfl ?_
  refine gg_ifne dc_M_due_1 (fun c_1 => ?_) (fun c_1 => ?_)
  · refine gg_aldn dc_M_due_21 rfl rfl ?_
    refine gg_getr dc_M_due_22 lf_M_7 hm.1 rfl ?_
    refine gg_bipush (v := 20) dc_M_due_25 (by decide) ?_
    refine gms_r (k := 20) dc_M_due_27 hm ⟨rfl, Nat.le_of_ble_eq_true rfl⟩ ?_
    exact gg_iret dc_M_due_28 rfl ⟨Nat.le_of_ble_eq_true rfl, Nat.le_of_ble_eq_true rfl⟩ (⟨by rw [if_neg c_1], rfl⟩)
  · refine gg_aldn dc_M_due_4 rfl rfl ?_
    refine gg_getr dc_M_due_5 lf_M_7 hm.1 rfl ?_
    refine gg_bipush (v := 19) dc_M_due_8 (by decide) ?_
    refine gms_r (k := 19) dc_M_due_10 hm ⟨rfl, Nat.le_of_ble_eq_true rfl⟩ ?_
    refine gg_aldn dc_M_due_11 rfl rfl ?_
    refine gg_getr dc_M_due_12 lf_M_7 hm.1 rfl ?_
    refine gg_iconst (v := 5) dc_M_due_15 (by decide) ?_
    refine gms_r (k := 5) dc_M_due_16 hm ⟨rfl, Nat.le_of_ble_eq_true rfl⟩ ?_
    refine gg_iadd dc_M_due_17 ?_
    refine gg_goto dc_M_due_18 ?_
    exact gg_iret dc_M_due_28 rfl ⟨Nat.le_of_ble_eq_true rfl, Nat.le_of_ble_eq_true rfl⟩ (⟨by rw [if_pos (by first | exact c_1 | exact Classical.not_not.mp c_1)], rfl⟩)
set_option maxRecDepth 100000 in
set_option maxHeartbeats 4000000 in
theorem sp_M_seeks0 {Γ : cx_T} {τ : Nat × (Nat → sh_T)} {ν : Nat → Nat → Int32} {X : Nat → Nat → Int32} {S : Nat → Int32} {m : Nat} (hm : sh_M τ.2 m) {w : Int32} (hw : w = 0) (hL : LK S 21 10) : mt_P Γ mk_M_seeks [.ref m, .int w] (τ, mv_N ν m (va_up X 1 S)) (fun v μ' => v = some (.int (if 0 < (se_S S w).2 then 1 else 0)) ∧ μ' = (τ, mv_N ν m (va_up X 1 ((se_S S w).1)))) := by
  refine mt_of (L := [some (.ref m), some (.int w), none, none, none]) (by decide +kernel) (by simp [Value.category]) (Nat.le_of_ble_eq_true rfl) (lc_2_5 ()) ?_
  have hse : se_S S w = lp_S (fun T => decide (S 19 ≤ T 8)) 1 (lp_S (fun T => decide (T 8 < S 19 - 16)) (-1) 20001 S).2 (lp_S (fun T => decide (T 8 < S 19 - 16)) (-1) 20001 S).1 := by unfold se_S; rw [if_pos hw]
  rw [hse]
  have l3 : ∀ (f g : Int32) (R : (Nat → Int32) × Nat) (l : Nat) (S : Nat → Int32), l ≤ 20001 → (S, l) = R → gg_P Γ mk_M_seeks (fun v μ' => v = some (.int (if 0 < R.2 then 1 else 0)) ∧ μ' = (τ, mv_N ν m (va_up X 1 R.1))) 0 0 133 [some (.ref m), some (.int w), some (.int f), some (.int g), some (.int (nI l))] [] (τ, mv_N ν m (va_up X 1 S)) := by
    intro f g R l S hl hR
    refine gg_ild dc_M_seeks_133 rfl ?_
    refine gg_ifle dc_M_seeks_135 (fun c_135 => ?_) (fun c_135 => ?_)
    · refine gg_iconst (v := 0) dc_M_seeks_142 (by decide) ?_
      exact gg_zret dc_M_seeks_143 rfl (by first | exact Or.inl rfl | exact Or.inr rfl | assumption) ⟨Nat.le_of_ble_eq_true rfl, Nat.le_of_ble_eq_true rfl⟩ (⟨by rw [← hR]; show _ = some (Value.int (if _ then _ else _)); rw [if_neg (fun q => absurd c_135 (nI_nle q (by omega)))], by rw [← hR]⟩)
    · refine gg_iconst (v := 1) dc_M_seeks_138 (by decide) ?_
      refine gg_goto dc_M_seeks_139 ?_
      exact gg_zret dc_M_seeks_143 rfl (by first | exact Or.inl rfl | exact Or.inr rfl | assumption) ⟨Nat.le_of_ble_eq_true rfl, Nat.le_of_ble_eq_true rfl⟩ (⟨by rw [← hR]; show _ = some (Value.int (if _ then _ else _)); rw [if_pos (Classical.not_not.mp fun q => c_135 (by rw [show l = 0 by omega]; decide))], by rw [← hR]⟩)
  have l2 : ∀ (f g : Int32) (R : (Nat → Int32) × Nat) (l : Nat) (S : Nat → Int32), l ≤ 20001 → LK S 21 10 → lp_S (fun T => decide (f ≤ T 8)) (1) l S = R → gg_P Γ mk_M_seeks (fun v μ' => v = some (.int (if 0 < R.2 then 1 else 0)) ∧ μ' = (τ, mv_N ν m (va_up X 1 R.1))) 0 0 80 [some (.ref m), some (.int w), some (.int f), some (.int g), some (.int (nI l))] [] (τ, mv_N ν m (va_up X 1 S)) := by
    intro f g R l
    have l3 := l3 f g R
    induction l with
    | zero =>
      intro S hl hL hR
      refine gg_ild dc_M_seeks_80 rfl ?_
      refine gg_ifle dc_M_seeks_82 (fun c_82 => ?_) (fun c_82 => ?_)
      · exact l3 _ _ (by omega) (by rw [← hR]; rfl)
      · exact absurd (by decide) c_82
    | succ l ih =>
      intro S hl hL hR
      refine gg_ild dc_M_seeks_80 rfl ?_
      refine gg_ifle dc_M_seeks_82 (fun c_82 => ?_) (fun c_82 => ?_)
      · exact absurd c_82 (nI_nle (by omega) (by omega))
      · refine gg_ildn dc_M_seeks_85 rfl rfl ?_
        refine gg_ifne dc_M_seeks_86 (fun c_86 => ?_) (fun c_86 => ?_)
        · exact absurd hw c_86
        · refine gg_aldn dc_M_seeks_89 rfl rfl ?_
          refine gg_getr dc_M_seeks_90 lf_M_7 hm.1 rfl ?_
          refine gg_bipush (v := 8) dc_M_seeks_93 (by decide) ?_
          refine gms_r (k := 8) dc_M_seeks_95 hm ⟨rfl, Nat.le_of_ble_eq_true rfl⟩ ?_
          refine gg_ildn dc_M_seeks_96 rfl rfl ?_
          refine gg_icge dc_M_seeks_97 (fun c_97 => ?_) (fun c_97 => ?_)
          · exact l3 _ _ hl (by rw [← hR, lp_t (decide_eq_true (c_97))])
          · refine gg_goto dc_M_seeks_100 ?_
            refine gg_aldn dc_M_seeks_114 rfl rfl ?_
            refine gg_ildn dc_M_seeks_115 rfl rfl ?_
            refine gg_ifne dc_M_seeks_116 (fun c_116 => ?_) (fun c_116 => ?_)
            · exact absurd hw c_116
            · refine gg_iconst (v := 1) dc_M_seeks_119 (by decide) ?_
              refine gg_goto dc_M_seeks_120 ?_
              refine gg_okVv (sp_M_microstep hm hL) dc_M_seeks_124 ml_M_132 ce_M_microstep ⟨Nat.le_of_ble_eq_true rfl, Nat.le_of_ble_eq_true rfl⟩ hm.1 rfl rfl (Nat.le_of_ble_eq_true rfl) ⟨rfl, rfl⟩ ⟨Nat.le_of_ble_eq_true rfl, Nat.le_of_ble_eq_true rfl⟩ ?_
              refine gg_iinc (i := 4) dc_M_seeks_127 rfl (Nat.le_of_ble_eq_true rfl) rfl ?_
              dsimp only [List.set]
              rw [show Int32.ofInt (-1) = (-1) from by decide]
              refine gg_goto dc_M_seeks_130 ?_
              have hs := lp_f (c := fun T => decide (f ≤ T 8)) (d := 1) (f := l) (S := S) (fun q => c_97 (of_decide_eq_true q))
              rw [hs] at hR
              rw [pk_m1]
              exact ih _ (by omega) (hL.of (ms_o (by omega))) hR
  have loop : ∀ (f g : Int32) (R : (Nat → Int32) × Nat) (l : Nat) (S : Nat → Int32), l ≤ 20001 → LK S 21 10 → lp_S (fun T => decide (f ≤ T 8)) (1) (lp_S (fun T => decide (T 8 < f - 16)) (-1) l S).2 (lp_S (fun T => decide (T 8 < f - 16)) (-1) l S).1 = R → gg_P Γ mk_M_seeks (fun v μ' => v = some (.int (if 0 < R.2 then 1 else 0)) ∧ μ' = (τ, mv_N ν m (va_up X 1 R.1))) 0 0 21 [some (.ref m), some (.int w), some (.int f), some (.int g), some (.int (nI l))] [] (τ, mv_N ν m (va_up X 1 S)) := by
    intro f g R l
    have l2 := l2 f g R
    induction l with
    | zero =>
      intro S hl hL hR
      refine gg_ild dc_M_seeks_21 rfl ?_
      refine gg_ifle dc_M_seeks_23 (fun c_23 => ?_) (fun c_23 => ?_)
      · exact l2 0 S (by omega) hL (by rw [← hR]; rfl)
      · exact absurd (by decide) c_23
    | succ l ih =>
      intro S hl hL hR
      refine gg_ild dc_M_seeks_21 rfl ?_
      refine gg_ifle dc_M_seeks_23 (fun c_23 => ?_) (fun c_23 => ?_)
      · exact absurd c_23 (nI_nle (by omega) (by omega))
      · refine gg_ildn dc_M_seeks_26 rfl rfl ?_
        refine gg_ifne dc_M_seeks_27 (fun c_27 => ?_) (fun c_27 => ?_)
        · exact absurd hw c_27
        · refine gg_aldn dc_M_seeks_30 rfl rfl ?_
          refine gg_getr dc_M_seeks_31 lf_M_7 hm.1 rfl ?_
          refine gg_bipush (v := 8) dc_M_seeks_34 (by decide) ?_
          refine gms_r (k := 8) dc_M_seeks_36 hm ⟨rfl, Nat.le_of_ble_eq_true rfl⟩ ?_
          refine gg_ildn dc_M_seeks_37 rfl rfl ?_
          refine gg_bipush (v := 16) dc_M_seeks_38 (by decide) ?_
          refine gg_isub dc_M_seeks_40 ?_
          refine gg_iclt dc_M_seeks_41 (fun c_41 => ?_) (fun c_41 => ?_)
          · have hs := lp_t (c := fun T => decide (T 8 < f - 16)) (d := -1) (f := l) (S := S) (decide_eq_true (c_41))
            rw [hs] at hR
            exact l2 (l + 1) S hl hL hR
          · refine gg_goto dc_M_seeks_44 ?_
            refine gg_aldn dc_M_seeks_61 rfl rfl ?_
            refine gg_ildn dc_M_seeks_62 rfl rfl ?_
            refine gg_ifne dc_M_seeks_63 (fun c_63 => ?_) (fun c_63 => ?_)
            · exact absurd hw c_63
            · refine gg_iconst (v := (-1)) dc_M_seeks_66 (by decide) ?_
              refine gg_goto dc_M_seeks_67 ?_
              refine gg_okVv (sp_M_microstep hm hL) dc_M_seeks_71 ml_M_132 ce_M_microstep ⟨Nat.le_of_ble_eq_true rfl, Nat.le_of_ble_eq_true rfl⟩ hm.1 rfl rfl (Nat.le_of_ble_eq_true rfl) ⟨rfl, rfl⟩ ⟨Nat.le_of_ble_eq_true rfl, Nat.le_of_ble_eq_true rfl⟩ ?_
              refine gg_iinc (i := 4) dc_M_seeks_74 rfl (Nat.le_of_ble_eq_true rfl) rfl ?_
              dsimp only [List.set]
              rw [show Int32.ofInt (-1) = (-1) from by decide]
              refine gg_goto dc_M_seeks_77 ?_
              have hs := lp_f (c := fun T => decide (T 8 < f - 16)) (d := -1) (f := l) (S := S) (fun q => c_41 (of_decide_eq_true q))
              rw [hs] at hR
              rw [pk_m1]
              exact ih _ (by omega) (hL.of (ms_o (by omega))) hR
  refine gg_aldn dc_M_seeks_0 rfl rfl ?_
  refine gg_getr dc_M_seeks_1 lf_M_7 hm.1 rfl ?_
  refine gg_bipush (v := 19) dc_M_seeks_4 (by decide) ?_
  refine gms_r (k := 19) dc_M_seeks_6 hm ⟨rfl, Nat.le_of_ble_eq_true rfl⟩ ?_
  refine gg_istn (i := 2) dc_M_seeks_7 rfl (Nat.le_of_ble_eq_true rfl) rfl ?_
  dsimp only [List.set]
  refine gg_aldn dc_M_seeks_8 rfl rfl ?_
  refine gg_getr dc_M_seeks_9 lf_M_7 hm.1 rfl ?_
  refine gg_bipush (v := 20) dc_M_seeks_12 (by decide) ?_
  refine gms_r (k := 20) dc_M_seeks_14 hm ⟨rfl, Nat.le_of_ble_eq_true rfl⟩ ?_
  refine gg_istn (i := 3) dc_M_seeks_15 rfl (Nat.le_of_ble_eq_true rfl) rfl ?_
  dsimp only [List.set]
  refine gg_sipush (v := 20001) dc_M_seeks_16 (by decide) ?_
  refine gg_ist (i := 4) dc_M_seeks_19 (Nat.le_of_ble_eq_true rfl) rfl ?_
  dsimp only [List.set]
  exact loop (S 19) (S 20) _ 20001 S (by omega) hL rfl
set_option maxRecDepth 100000 in
set_option maxHeartbeats 4000000 in
theorem sp_M_seeks1 {Γ : cx_T} {τ : Nat × (Nat → sh_T)} {ν : Nat → Nat → Int32} {X : Nat → Nat → Int32} {S : Nat → Int32} {m : Nat} (hm : sh_M τ.2 m) {w : Int32} (hw : ¬ w = 0) (hL : LK S 21 10) : mt_P Γ mk_M_seeks [.ref m, .int w] (τ, mv_N ν m (va_up X 1 S)) (fun v μ' => v = some (.int (if 0 < (se_S S w).2 then 1 else 0)) ∧ μ' = (τ, mv_N ν m (va_up X 1 ((se_S S w).1)))) := by
  refine mt_of (L := [some (.ref m), some (.int w), none, none, none]) (by decide +kernel) (by simp [Value.category]) (Nat.le_of_ble_eq_true rfl) (lc_2_5 ()) ?_
  have hse : se_S S w = lp_S (fun T => decide (T 8 ≤ S 20)) (-1) (lp_S (fun T => decide (S 20 + 16 < T 8)) 1 20001 S).2 (lp_S (fun T => decide (S 20 + 16 < T 8)) 1 20001 S).1 := by unfold se_S; rw [if_neg hw]
  rw [hse]
  have l3 : ∀ (f g : Int32) (R : (Nat → Int32) × Nat) (l : Nat) (S : Nat → Int32), l ≤ 20001 → (S, l) = R → gg_P Γ mk_M_seeks (fun v μ' => v = some (.int (if 0 < R.2 then 1 else 0)) ∧ μ' = (τ, mv_N ν m (va_up X 1 R.1))) 0 0 133 [some (.ref m), some (.int w), some (.int f), some (.int g), some (.int (nI l))] [] (τ, mv_N ν m (va_up X 1 S)) := by
    intro f g R l S hl hR
    refine gg_ild dc_M_seeks_133 rfl ?_
    refine gg_ifle dc_M_seeks_135 (fun c_135 => ?_) (fun c_135 => ?_)
    · refine gg_iconst (v := 0) dc_M_seeks_142 (by decide) ?_
      exact gg_zret dc_M_seeks_143 rfl (by first | exact Or.inl rfl | exact Or.inr rfl | assumption) ⟨Nat.le_of_ble_eq_true rfl, Nat.le_of_ble_eq_true rfl⟩ (⟨by rw [← hR]; show _ = some (Value.int (if _ then _ else _)); rw [if_neg (fun q => absurd c_135 (nI_nle q (by omega)))], by rw [← hR]⟩)
    · refine gg_iconst (v := 1) dc_M_seeks_138 (by decide) ?_
      refine gg_goto dc_M_seeks_139 ?_
      exact gg_zret dc_M_seeks_143 rfl (by first | exact Or.inl rfl | exact Or.inr rfl | assumption) ⟨Nat.le_of_ble_eq_true rfl, Nat.le_of_ble_eq_true rfl⟩ (⟨by rw [← hR]; show _ = some (Value.int (if _ then _ else _)); rw [if_pos (Classical.not_not.mp fun q => c_135 (by rw [show l = 0 by omega]; decide))], by rw [← hR]⟩)
  have l2 : ∀ (f g : Int32) (R : (Nat → Int32) × Nat) (l : Nat) (S : Nat → Int32), l ≤ 20001 → LK S 21 10 → lp_S (fun T => decide (T 8 ≤ g)) (-1) l S = R → gg_P Γ mk_M_seeks (fun v μ' => v = some (.int (if 0 < R.2 then 1 else 0)) ∧ μ' = (τ, mv_N ν m (va_up X 1 R.1))) 0 0 80 [some (.ref m), some (.int w), some (.int f), some (.int g), some (.int (nI l))] [] (τ, mv_N ν m (va_up X 1 S)) := by
    intro f g R l
    have l3 := l3 f g R
    induction l with
    | zero =>
      intro S hl hL hR
      refine gg_ild dc_M_seeks_80 rfl ?_
      refine gg_ifle dc_M_seeks_82 (fun c_82 => ?_) (fun c_82 => ?_)
      · exact l3 _ _ (by omega) (by rw [← hR]; rfl)
      · exact absurd (by decide) c_82
    | succ l ih =>
      intro S hl hL hR
      refine gg_ild dc_M_seeks_80 rfl ?_
      refine gg_ifle dc_M_seeks_82 (fun c_82 => ?_) (fun c_82 => ?_)
      · exact absurd c_82 (nI_nle (by omega) (by omega))
      · refine gg_ildn dc_M_seeks_85 rfl rfl ?_
        refine gg_ifne dc_M_seeks_86 (fun c_86 => ?_) (fun c_86 => ?_)
        · refine gg_aldn dc_M_seeks_103 rfl rfl ?_
          refine gg_getr dc_M_seeks_104 lf_M_7 hm.1 rfl ?_
          refine gg_bipush (v := 8) dc_M_seeks_107 (by decide) ?_
          refine gms_r (k := 8) dc_M_seeks_109 hm ⟨rfl, Nat.le_of_ble_eq_true rfl⟩ ?_
          refine gg_ildn dc_M_seeks_110 rfl rfl ?_
          refine gg_icle dc_M_seeks_111 (fun c_111 => ?_) (fun c_111 => ?_)
          · exact l3 _ _ hl (by rw [← hR, lp_t (decide_eq_true (c_111))])
          · refine gg_aldn dc_M_seeks_114 rfl rfl ?_
            refine gg_ildn dc_M_seeks_115 rfl rfl ?_
            refine gg_ifne dc_M_seeks_116 (fun c_116 => ?_) (fun c_116 => ?_)
            · refine gg_iconst (v := (-1)) dc_M_seeks_123 (by decide) ?_
              refine gg_okVv (sp_M_microstep hm hL) dc_M_seeks_124 ml_M_132 ce_M_microstep ⟨Nat.le_of_ble_eq_true rfl, Nat.le_of_ble_eq_true rfl⟩ hm.1 rfl rfl (Nat.le_of_ble_eq_true rfl) ⟨rfl, rfl⟩ ⟨Nat.le_of_ble_eq_true rfl, Nat.le_of_ble_eq_true rfl⟩ ?_
              refine gg_iinc (i := 4) dc_M_seeks_127 rfl (Nat.le_of_ble_eq_true rfl) rfl ?_
              dsimp only [List.set]
              rw [show Int32.ofInt (-1) = (-1) from by decide]
              refine gg_goto dc_M_seeks_130 ?_
              have hs := lp_f (c := fun T => decide (T 8 ≤ g)) (d := -1) (f := l) (S := S) (fun q => c_111 (of_decide_eq_true q))
              rw [hs] at hR
              rw [pk_m1]
              exact ih _ (by omega) (hL.of (ms_o (by omega))) hR
            · exact absurd (by first | exact c_116 | exact Classical.not_not.mp c_116) hw
        · exact absurd (by first | exact c_86 | exact Classical.not_not.mp c_86) hw
  have loop : ∀ (f g : Int32) (R : (Nat → Int32) × Nat) (l : Nat) (S : Nat → Int32), l ≤ 20001 → LK S 21 10 → lp_S (fun T => decide (T 8 ≤ g)) (-1) (lp_S (fun T => decide (g + 16 < T 8)) (1) l S).2 (lp_S (fun T => decide (g + 16 < T 8)) (1) l S).1 = R → gg_P Γ mk_M_seeks (fun v μ' => v = some (.int (if 0 < R.2 then 1 else 0)) ∧ μ' = (τ, mv_N ν m (va_up X 1 R.1))) 0 0 21 [some (.ref m), some (.int w), some (.int f), some (.int g), some (.int (nI l))] [] (τ, mv_N ν m (va_up X 1 S)) := by
    intro f g R l
    have l2 := l2 f g R
    induction l with
    | zero =>
      intro S hl hL hR
      refine gg_ild dc_M_seeks_21 rfl ?_
      refine gg_ifle dc_M_seeks_23 (fun c_23 => ?_) (fun c_23 => ?_)
      · exact l2 0 S (by omega) hL (by rw [← hR]; rfl)
      · exact absurd (by decide) c_23
    | succ l ih =>
      intro S hl hL hR
      refine gg_ild dc_M_seeks_21 rfl ?_
      refine gg_ifle dc_M_seeks_23 (fun c_23 => ?_) (fun c_23 => ?_)
      · exact absurd c_23 (nI_nle (by omega) (by omega))
      · refine gg_ildn dc_M_seeks_26 rfl rfl ?_
        refine gg_ifne dc_M_seeks_27 (fun c_27 => ?_) (fun c_27 => ?_)
        · refine gg_aldn dc_M_seeks_47 rfl rfl ?_
          refine gg_getr dc_M_seeks_48 lf_M_7 hm.1 rfl ?_
          refine gg_bipush (v := 8) dc_M_seeks_51 (by decide) ?_
          refine gms_r (k := 8) dc_M_seeks_53 hm ⟨rfl, Nat.le_of_ble_eq_true rfl⟩ ?_
          refine gg_ildn dc_M_seeks_54 rfl rfl ?_
          refine gg_bipush (v := 16) dc_M_seeks_55 (by decide) ?_
          refine gg_iadd dc_M_seeks_57 ?_
          refine gg_icgt dc_M_seeks_58 (fun c_58 => ?_) (fun c_58 => ?_)
          · have hs := lp_t (c := fun T => decide (g + 16 < T 8)) (d := 1) (f := l) (S := S) (decide_eq_true (c_58))
            rw [hs] at hR
            exact l2 (l + 1) S hl hL hR
          · refine gg_aldn dc_M_seeks_61 rfl rfl ?_
            refine gg_ildn dc_M_seeks_62 rfl rfl ?_
            refine gg_ifne dc_M_seeks_63 (fun c_63 => ?_) (fun c_63 => ?_)
            · refine gg_iconst (v := 1) dc_M_seeks_70 (by decide) ?_
              refine gg_okVv (sp_M_microstep hm hL) dc_M_seeks_71 ml_M_132 ce_M_microstep ⟨Nat.le_of_ble_eq_true rfl, Nat.le_of_ble_eq_true rfl⟩ hm.1 rfl rfl (Nat.le_of_ble_eq_true rfl) ⟨rfl, rfl⟩ ⟨Nat.le_of_ble_eq_true rfl, Nat.le_of_ble_eq_true rfl⟩ ?_
              refine gg_iinc (i := 4) dc_M_seeks_74 rfl (Nat.le_of_ble_eq_true rfl) rfl ?_
              dsimp only [List.set]
              rw [show Int32.ofInt (-1) = (-1) from by decide]
              refine gg_goto dc_M_seeks_77 ?_
              have hs := lp_f (c := fun T => decide (g + 16 < T 8)) (d := 1) (f := l) (S := S) (fun q => c_58 (of_decide_eq_true q))
              rw [hs] at hR
              rw [pk_m1]
              exact ih _ (by omega) (hL.of (ms_o (by omega))) hR
            · exact absurd (by first | exact c_63 | exact Classical.not_not.mp c_63) hw
        · exact absurd (by first | exact c_27 | exact Classical.not_not.mp c_27) hw
  refine gg_aldn dc_M_seeks_0 rfl rfl ?_
  refine gg_getr dc_M_seeks_1 lf_M_7 hm.1 rfl ?_
  refine gg_bipush (v := 19) dc_M_seeks_4 (by decide) ?_
  refine gms_r (k := 19) dc_M_seeks_6 hm ⟨rfl, Nat.le_of_ble_eq_true rfl⟩ ?_
  refine gg_istn (i := 2) dc_M_seeks_7 rfl (Nat.le_of_ble_eq_true rfl) rfl ?_
  dsimp only [List.set]
  refine gg_aldn dc_M_seeks_8 rfl rfl ?_
  refine gg_getr dc_M_seeks_9 lf_M_7 hm.1 rfl ?_
  refine gg_bipush (v := 20) dc_M_seeks_12 (by decide) ?_
  refine gms_r (k := 20) dc_M_seeks_14 hm ⟨rfl, Nat.le_of_ble_eq_true rfl⟩ ?_
  refine gg_istn (i := 3) dc_M_seeks_15 rfl (Nat.le_of_ble_eq_true rfl) rfl ?_
  dsimp only [List.set]
  refine gg_sipush (v := 20001) dc_M_seeks_16 (by decide) ?_
  refine gg_ist (i := 4) dc_M_seeks_19 (Nat.le_of_ble_eq_true rfl) rfl ?_
  dsimp only [List.set]
  exact loop (S 19) (S 20) _ 20001 S (by omega) hL rfl
