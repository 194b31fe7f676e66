/-! the reference: its public methods, a contract for each way through them -/
theorem i8_i8 (x : Int32) : x.toInt8.toInt32.toInt8.toInt32 = x.toInt8.toInt32 := by rw [Int8.toInt8_toInt32]
theorem up_c {X : Nat → Nat → Int32} {S : Nat → Int32} {c k : Nat} {v : Int32} (h : c ≠ 1) : up_2 (va_up X 1 S) c k v = va_up (up_2 X c k v) 1 S := by
  funext a j
  unfold up_2 va_up
  by_cases h1 : a = 1
  · subst h1; simp [Ne.symm h]
  · simp [h1]
theorem va_c {X : Nat → Nat → Int32} {S A : Nat → Int32} {c : Nat} (h : c ≠ 1) : va_up (va_up X 1 S) c A = va_up (va_up X c A) 1 S := by
  funext a
  unfold va_up
  by_cases h1 : a = 1
  · subst h1; simp [Ne.symm h]
  · simp [h1]
theorem va_vv {X : Nat → Nat → Int32} {S T : Nat → Int32} {c : Nat} : va_up (va_up X c S) c T = va_up X c T := by
  funext a
  unfold va_up
  by_cases h1 : a = c <;> simp [h1]
theorem sp_M_putAsideS {Γ : cx_T} {τ : Nat × (Nat → sh_T)} {ν : Nat → Nat → Int32} {X : Nat → Nat → Int32} {S : Nat → Int32} {m : Nat} (hm : sh_M τ.2 m) : mt_P Γ mk_M_putAside [.ref m] (τ, mv_N ν m (va_up X 1 S)) (fun v μ' => v = none ∧ μ' = (τ, mv_N ν m (va_up (va_up X 4 (cp_N S (X 4) 80)) 1 S))) := by
  have h := sp_M_putAside (Γ := Γ) (ν := ν) (X := va_up X 1 S) hm
  rw [va_c (by omega)] at h
  exact h
theorem sp_M_swapsS {Γ : cx_T} {τ : Nat × (Nat → sh_T)} {ν : Nat → Nat → Int32} {X : Nat → Nat → Int32} {S : Nat → Int32} {m : Nat} (hm : sh_M τ.2 m) : mt_P Γ mk_M_swaps [.ref m] (τ, mv_N ν m (va_up X 1 S)) (fun v μ' => v = none ∧ μ' = (τ, mv_N ν m (va_up (va_up X 4 (cp_N S (X 4) 80)) 1 (cp_N (X 4) S 80)))) := by
  have h := sp_M_swaps (Γ := Γ) (ν := ν) (X := va_up X 1 S) hm
  rw [va_vv, va_c (by omega)] at h
  exact h
theorem in_ok {x a b : Int32} (h : ¬ in_I x a b = 0) : ¬ x < a ∧ ¬ b < x := by
  unfold in_I at h
  by_cases c : x < a ∨ b < x
  · rw [if_pos c] at h; exact absurd rfl h
  · exact ⟨fun q => c (Or.inl q), fun q => c (Or.inr q)⟩
theorem in_nI {x : Int32} {k : Nat} (h : ¬ in_I x 0 (nI k) = 0) (hk : k < 2 ^ 31 - 1) : ∃ j : Nat, j ≤ k ∧ x = nI j := nI_of2 (nI_toInt (by omega)) (in_ok h).1 (Int32.not_lt.mp (in_ok h).2)
theorem nm_ok {i x : Int32} (h : ¬ nm_I i x = 0) : ∃ k : Nat, k < 6 ∧ i = nI k := by
  unfold nm_I at h
  by_cases c : i < 0 ∨ 6 ≤ i
  · rw [if_pos c] at h; exact absurd rfl h
  · obtain ⟨j, h1, h2⟩ := nI_of2 (x := i) (M := 5) (n := 5) rfl (fun q => c (Or.inl q)) (by
      have h6 : ¬ 6 ≤ i := fun q => c (Or.inr q)
      rw [Int32.le_iff_toInt_le] at h6 ⊢
      have e6 : (6 : Int32).toInt = 6 := by decide
      have e5 : (5 : Int32).toInt = 5 := by decide
      omega)
    exact ⟨j, by omega, h2⟩
def cm_N (X : Nat → Nat → Int32) (S : Nat → Int32) (k : Nat) : Int32 := match k with
  | 12 => to_M S
  | 13 => lo_S S (S 8)
  | 14 => if S 18 = 1 ∧ ¬ in_I (S 8) (S 19) (S 20) = 0 then 1 else 0
  | 15 => S 21
  | 16 => S 42
  | 17 => S 63
  | 18 => X 0 7
  | 19 => X 0 2
  | 20 => X 0 4
  | k => S k
set_option maxRecDepth 100000 in
set_option maxHeartbeats 4000000 in
theorem sp_M_count {Γ : cx_T} {τ : Nat × (Nat → sh_T)} {ν : Nat → Nat → Int32} {X : Nat → Nat → Int32} {S : Nat → Int32} {m : Nat} (hm : sh_M τ.2 m) {i : Int32} {k : Nat} (hi : i = nI k) (hk : k < 21) (hL : LK S 21 10) : mt_P Γ mk_M_count [.ref m, .int i] (τ, mv_N ν m (va_up X 1 S)) (fun v μ' => v = some (.int (cm_N X S k)) ∧ μ' = (τ, mv_N ν m (va_up (X) 1 (S)))) := by
  refine mt_of (L := [some (.ref m), some (.int i)]) (by decide +kernel) (by simp [Value.category]) (Nat.le_of_ble_eq_true rfl) (lc_2_2 ()) ?_
  refine gg_ildn dc_M_count_0 rfl rfl ?_
  refine gg_tab [52, 57, 69, 113, 121, 129, 137, 142, 147] dc_M_count_1 (fun i9 t9 hi9 ht9 => ?_) (fun hout => ?_)
  · match i9, ht9 with
    | 0, ht9 =>
      cases ht9
      have hq9 : k = 12 + 0 := by rw [hi, nI_toInt (by omega)] at hi9; omega
      subst hq9
      refine gg_aldn dc_M_count_52 rfl rfl ?_
      refine gg_okV (sp_M_torque hm) dc_M_count_53 ml_M_113 ce_M_torque ⟨Nat.le_of_ble_eq_true rfl, Nat.le_of_ble_eq_true rfl⟩ hm.1 rfl rfl (Nat.le_of_ble_eq_true rfl) ⟨rfl, rfl⟩ ⟨Nat.le_of_ble_eq_true rfl, Nat.le_of_ble_eq_true rfl⟩ ?_
      exact gg_iret dc_M_count_56 rfl ⟨Nat.le_of_ble_eq_true rfl, Nat.le_of_ble_eq_true rfl⟩ (⟨rfl, rfl⟩)
    | 1, ht9 =>
      cases ht9
      have hq9 : k = 12 + 1 := by rw [hi, nI_toInt (by omega)] at hi9; omega
      subst hq9
      refine gg_aldn dc_M_count_57 rfl rfl ?_
      refine gg_aldn dc_M_count_58 rfl rfl ?_
      refine gg_getr dc_M_count_59 lf_M_7 hm.1 rfl ?_
      refine gg_bipush (v := 8) dc_M_count_62 (by decide) ?_
      refine gms_r (k := 8) dc_M_count_64 hm ⟨rfl, Nat.le_of_ble_eq_true rfl⟩ ?_
      refine gg_okV (sp_M_loadOf hm hL) dc_M_count_65 ml_M_116 ce_M_loadOf ⟨Nat.le_of_ble_eq_true rfl, Nat.le_of_ble_eq_true rfl⟩ hm.1 rfl rfl (Nat.le_of_ble_eq_true rfl) ⟨rfl, rfl⟩ ⟨Nat.le_of_ble_eq_true rfl, Nat.le_of_ble_eq_true rfl⟩ ?_
      exact gg_iret dc_M_count_68 rfl ⟨Nat.le_of_ble_eq_true rfl, Nat.le_of_ble_eq_true rfl⟩ (⟨rfl, rfl⟩)
    | 2, ht9 =>
      cases ht9
      have hq9 : k = 12 + 2 := by rw [hi, nI_toInt (by omega)] at hi9; omega
      subst hq9
      refine gg_aldn dc_M_count_69 rfl rfl ?_
      refine gg_getr dc_M_count_70 lf_M_7 hm.1 rfl ?_
      refine gg_bipush (v := 18) dc_M_count_73 (by decide) ?_
      refine gms_r (k := 18) dc_M_count_75 hm ⟨rfl, Nat.le_of_ble_eq_true rfl⟩ ?_
      refine gg_iconst (v := 1) dc_M_count_76 (by decide) ?_
      refine gg_icne dc_M_count_77 (fun c_77 => ?_) (fun c_77 => ?_)
      · refine gg_iconst (v := 0) dc_M_count_111 (by decide) ?_
        exact gg_iret dc_M_count_112 rfl ⟨Nat.le_of_ble_eq_true rfl, Nat.le_of_ble_eq_true rfl⟩ (⟨by show _ = some (Value.int (if _ then _ else _)); rw [if_neg (fun q => c_77 q.1)], rfl⟩)
      · refine gg_aldn dc_M_count_80 rfl rfl ?_
        refine gg_getr dc_M_count_81 lf_M_7 hm.1 rfl ?_
        refine gg_bipush (v := 8) dc_M_count_84 (by decide) ?_
        refine gms_r (k := 8) dc_M_count_86 hm ⟨rfl, Nat.le_of_ble_eq_true rfl⟩ ?_
        refine gg_aldn dc_M_count_87 rfl rfl ?_
        refine gg_getr dc_M_count_88 lf_M_7 hm.1 rfl ?_
        refine gg_bipush (v := 19) dc_M_count_91 (by decide) ?_
        refine gms_r (k := 19) dc_M_count_93 hm ⟨rfl, Nat.le_of_ble_eq_true rfl⟩ ?_
        refine gg_aldn dc_M_count_94 rfl rfl ?_
        refine gg_getr dc_M_count_95 lf_M_7 hm.1 rfl ?_
        refine gg_bipush (v := 20) dc_M_count_98 (by decide) ?_
        refine gms_r (k := 20) dc_M_count_100 hm ⟨rfl, Nat.le_of_ble_eq_true rfl⟩ ?_
        refine gg_okS (sp_M_in) dc_M_count_101 ml_M_31 ce_M_in ⟨Nat.le_of_ble_eq_true rfl, Nat.le_of_ble_eq_true rfl⟩ rfl (Nat.le_of_ble_eq_true rfl) ⟨rfl, rfl⟩ ⟨Nat.le_of_ble_eq_true rfl, Nat.le_of_ble_eq_true rfl⟩ ?_
        refine gg_ifeq dc_M_count_104 (fun c_104 => ?_) (fun c_104 => ?_)
        · refine gg_iconst (v := 0) dc_M_count_111 (by decide) ?_
          exact gg_iret dc_M_count_112 rfl ⟨Nat.le_of_ble_eq_true rfl, Nat.le_of_ble_eq_true rfl⟩ (⟨by show _ = some (Value.int (if _ then _ else _)); rw [if_neg (fun q => q.2 c_104)], rfl⟩)
        · refine gg_iconst (v := 1) dc_M_count_107 (by decide) ?_
          refine gg_goto dc_M_count_108 ?_
          exact gg_iret dc_M_count_112 rfl ⟨Nat.le_of_ble_eq_true rfl, Nat.le_of_ble_eq_true rfl⟩ (⟨by show _ = some (Value.int (if _ then _ else _)); rw [if_pos ⟨by first | exact c_77 | exact Classical.not_not.mp c_77, c_104⟩], rfl⟩)
    | 3, ht9 =>
      cases ht9
      have hq9 : k = 12 + 3 := by rw [hi, nI_toInt (by omega)] at hi9; omega
      subst hq9
      refine gg_aldn dc_M_count_113 rfl rfl ?_
      refine gg_getr dc_M_count_114 lf_M_7 hm.1 rfl ?_
      refine gg_bipush (v := 21) dc_M_count_117 (by decide) ?_
      refine gms_r (k := 21) dc_M_count_119 hm ⟨rfl, Nat.le_of_ble_eq_true rfl⟩ ?_
      exact gg_iret dc_M_count_120 rfl ⟨Nat.le_of_ble_eq_true rfl, Nat.le_of_ble_eq_true rfl⟩ (⟨rfl, rfl⟩)
    | 4, ht9 =>
      cases ht9
      have hq9 : k = 12 + 4 := by rw [hi, nI_toInt (by omega)] at hi9; omega
      subst hq9
      refine gg_aldn dc_M_count_121 rfl rfl ?_
      refine gg_getr dc_M_count_122 lf_M_7 hm.1 rfl ?_
      refine gg_bipush (v := 42) dc_M_count_125 (by decide) ?_
      refine gms_r (k := 42) dc_M_count_127 hm ⟨rfl, Nat.le_of_ble_eq_true rfl⟩ ?_
      exact gg_iret dc_M_count_128 rfl ⟨Nat.le_of_ble_eq_true rfl, Nat.le_of_ble_eq_true rfl⟩ (⟨rfl, rfl⟩)
    | 5, ht9 =>
      cases ht9
      have hq9 : k = 12 + 5 := by rw [hi, nI_toInt (by omega)] at hi9; omega
      subst hq9
      refine gg_aldn dc_M_count_129 rfl rfl ?_
      refine gg_getr dc_M_count_130 lf_M_7 hm.1 rfl ?_
      refine gg_bipush (v := 63) dc_M_count_133 (by decide) ?_
      refine gms_r (k := 63) dc_M_count_135 hm ⟨rfl, Nat.le_of_ble_eq_true rfl⟩ ?_
      exact gg_iret dc_M_count_136 rfl ⟨Nat.le_of_ble_eq_true rfl, Nat.le_of_ble_eq_true rfl⟩ (⟨rfl, rfl⟩)
    | 6, ht9 =>
      cases ht9
      have hq9 : k = 12 + 6 := by rw [hi, nI_toInt (by omega)] at hi9; omega
      subst hq9
      refine gg_aldn dc_M_count_137 rfl rfl ?_
      refine gmx_g (k := 7) dc_M_count_138 lf_M_76 hm.1 rfl ?_
      exact gg_iret dc_M_count_141 rfl ⟨Nat.le_of_ble_eq_true rfl, Nat.le_of_ble_eq_true rfl⟩ (⟨rfl, rfl⟩)
    | 7, ht9 =>
      cases ht9
      have hq9 : k = 12 + 7 := by rw [hi, nI_toInt (by omega)] at hi9; omega
      subst hq9
      refine gg_aldn dc_M_count_142 rfl rfl ?_
      refine gmx_g (k := 2) dc_M_count_143 lf_M_26 hm.1 rfl ?_
      exact gg_iret dc_M_count_146 rfl ⟨Nat.le_of_ble_eq_true rfl, Nat.le_of_ble_eq_true rfl⟩ (⟨rfl, rfl⟩)
    | 8, ht9 =>
      cases ht9
      have hq9 : k = 12 + 8 := by rw [hi, nI_toInt (by omega)] at hi9; omega
      subst hq9
      refine gg_aldn dc_M_count_147 rfl rfl ?_
      refine gmx_g (k := 4) dc_M_count_148 lf_M_157 hm.1 rfl ?_
      exact gg_iret dc_M_count_151 rfl ⟨Nat.le_of_ble_eq_true rfl, Nat.le_of_ble_eq_true rfl⟩ (⟨rfl, rfl⟩)
    | n9 + 9, ht9 => exact absurd ht9 (by simp)
  · have hk9 : k < 12 := by rw [hi, nI_toInt (by omega)] at hout; omega
    have he9 : cm_N X S k = S k := by
      rcases (show k = 0 ∨ k = 1 ∨ k = 2 ∨ k = 3 ∨ k = 4 ∨ k = 5 ∨ k = 6 ∨ k = 7 ∨ k = 8 ∨ k = 9 ∨ k = 10 ∨ k = 11 by omega) with rfl | rfl | rfl | rfl | rfl | rfl | rfl | rfl | rfl | rfl | rfl | rfl <;> rfl
    rw [he9]
    refine gg_ildn dc_M_count_152 rfl rfl ?_
    refine gg_iconst (v := 0) dc_M_count_153 (by decide) ?_
    refine gg_bipush (v := 11) dc_M_count_154 (by decide) ?_
    refine gg_okS (sp_M_in) dc_M_count_156 ml_M_31 ce_M_in ⟨Nat.le_of_ble_eq_true rfl, Nat.le_of_ble_eq_true rfl⟩ rfl (Nat.le_of_ble_eq_true rfl) ⟨rfl, rfl⟩ ⟨Nat.le_of_ble_eq_true rfl, Nat.le_of_ble_eq_true rfl⟩ ?_
    refine gg_ifeq dc_M_count_159 (fun c_159 => ?_) (fun c_159 => ?_)
    · exact absurd (show in_I i 0 11 = 0 from c_159) (by unfold in_I; rw [if_neg (by rw [hi]; rintro (q | q); exact nI_pos (by omega) q; exact nI_nlt (a := 11) (by omega) (by omega) q)]; decide)
    · refine gg_aldn dc_M_count_162 rfl rfl ?_
      refine gg_getr dc_M_count_163 lf_M_7 hm.1 rfl ?_
      refine gg_ildn dc_M_count_166 rfl rfl ?_
      refine gms_r (k := k) dc_M_count_167 hm (⟨hi, by omega⟩) ?_
      refine gg_goto dc_M_count_168 ?_
      exact gg_iret dc_M_count_173 rfl ⟨Nat.le_of_ble_eq_true rfl, Nat.le_of_ble_eq_true rfl⟩ (⟨rfl, rfl⟩)
set_option maxRecDepth 100000 in
set_option maxHeartbeats 4000000 in
theorem sp_M_countB {Γ : cx_T} {τ : Nat × (Nat → sh_T)} {ν : Nat → Nat → Int32} {X : Nat → Nat → Int32} {S : Nat → Int32} {m : Nat} (hm : sh_M τ.2 m) {i : Int32} (h : i < 0 ∨ 20 < i) : mt_P Γ mk_M_count [.ref m, .int i] (τ, mv_N ν m (va_up X 1 S)) (fun v μ' => v = some (.int (-1000001)) ∧ μ' = (τ, mv_N ν m (va_up (X) 1 (S)))) := by
  refine mt_of (L := [some (.ref m), some (.int i)]) (by decide +kernel) (by simp [Value.category]) (Nat.le_of_ble_eq_true rfl) (lc_2_2 ()) ?_
  refine gg_ildn dc_M_count_0 rfl rfl ?_
  refine gg_tab [52, 57, 69, 113, 121, 129, 137, 142, 147] dc_M_count_1 (fun i9 t9 hi9 ht9 => ?_) (fun hout => ?_)
  · match i9, ht9 with
    | 0, ht9 =>
      cases ht9
      exfalso
      rw [Int32.lt_iff_toInt_lt, Int32.lt_iff_toInt_lt] at h
      have e0 : (0 : Int32).toInt = 0 := by decide
      have e20 : (20 : Int32).toInt = 20 := by decide
      omega
    | 1, ht9 =>
      cases ht9
      exfalso
      rw [Int32.lt_iff_toInt_lt, Int32.lt_iff_toInt_lt] at h
      have e0 : (0 : Int32).toInt = 0 := by decide
      have e20 : (20 : Int32).toInt = 20 := by decide
      omega
    | 2, ht9 =>
      cases ht9
      exfalso
      rw [Int32.lt_iff_toInt_lt, Int32.lt_iff_toInt_lt] at h
      have e0 : (0 : Int32).toInt = 0 := by decide
      have e20 : (20 : Int32).toInt = 20 := by decide
      omega
    | 3, ht9 =>
      cases ht9
      exfalso
      rw [Int32.lt_iff_toInt_lt, Int32.lt_iff_toInt_lt] at h
      have e0 : (0 : Int32).toInt = 0 := by decide
      have e20 : (20 : Int32).toInt = 20 := by decide
      omega
    | 4, ht9 =>
      cases ht9
      exfalso
      rw [Int32.lt_iff_toInt_lt, Int32.lt_iff_toInt_lt] at h
      have e0 : (0 : Int32).toInt = 0 := by decide
      have e20 : (20 : Int32).toInt = 20 := by decide
      omega
    | 5, ht9 =>
      cases ht9
      exfalso
      rw [Int32.lt_iff_toInt_lt, Int32.lt_iff_toInt_lt] at h
      have e0 : (0 : Int32).toInt = 0 := by decide
      have e20 : (20 : Int32).toInt = 20 := by decide
      omega
    | 6, ht9 =>
      cases ht9
      exfalso
      rw [Int32.lt_iff_toInt_lt, Int32.lt_iff_toInt_lt] at h
      have e0 : (0 : Int32).toInt = 0 := by decide
      have e20 : (20 : Int32).toInt = 20 := by decide
      omega
    | 7, ht9 =>
      cases ht9
      exfalso
      rw [Int32.lt_iff_toInt_lt, Int32.lt_iff_toInt_lt] at h
      have e0 : (0 : Int32).toInt = 0 := by decide
      have e20 : (20 : Int32).toInt = 20 := by decide
      omega
    | 8, ht9 =>
      cases ht9
      exfalso
      rw [Int32.lt_iff_toInt_lt, Int32.lt_iff_toInt_lt] at h
      have e0 : (0 : Int32).toInt = 0 := by decide
      have e20 : (20 : Int32).toInt = 20 := by decide
      omega
    | n9 + 9, ht9 => exact absurd ht9 (by simp)
  · refine gg_ildn dc_M_count_152 rfl rfl ?_
    refine gg_iconst (v := 0) dc_M_count_153 (by decide) ?_
    refine gg_bipush (v := 11) dc_M_count_154 (by decide) ?_
    refine gg_okS (sp_M_in) dc_M_count_156 ml_M_31 ce_M_in ⟨Nat.le_of_ble_eq_true rfl, Nat.le_of_ble_eq_true rfl⟩ rfl (Nat.le_of_ble_eq_true rfl) ⟨rfl, rfl⟩ ⟨Nat.le_of_ble_eq_true rfl, Nat.le_of_ble_eq_true rfl⟩ ?_
    refine gg_ifeq dc_M_count_159 (fun c_159 => ?_) (fun c_159 => ?_)
    · refine gg_ldc dc_M_count_171 lk_M_64 ?_
      exact gg_iret dc_M_count_173 rfl ⟨Nat.le_of_ble_eq_true rfl, Nat.le_of_ble_eq_true rfl⟩ (⟨rfl, rfl⟩)
    · exact absurd (show in_I i 0 11 = 0 by unfold in_I; rw [if_pos (h.elim Or.inl fun q => Or.inr (Int32.lt_trans (by decide) q))]) c_159
set_option maxRecDepth 100000 in
set_option maxHeartbeats 4000000 in
theorem sp_M_accountB {Γ : cx_T} {τ : Nat × (Nat → sh_T)} {ν : Nat → Nat → Int32} {X : Nat → Nat → Int32} {S : Nat → Int32} {m : Nat} (hm : sh_M τ.2 m) {i : Int32} (h : in_I i 0 5 = 0) : mt_P Γ mk_M_account [.ref m, .int i] (τ, mv_N ν m (va_up X 1 S)) (fun v μ' => v = some (.int (-1000001)) ∧ μ' = (τ, mv_N ν m (va_up (X) 1 (S)))) := by
  refine mt_of (L := [some (.ref m), some (.int i)]) (by decide +kernel) (by simp [Value.category]) (Nat.le_of_ble_eq_true rfl) (lc_2_2 ()) ?_
  refine gg_ildn dc_M_account_0 rfl rfl ?_
  refine gg_iconst (v := 0) dc_M_account_1 (by decide) ?_
  refine gg_iconst (v := 5) dc_M_account_2 (by decide) ?_
  refine gg_okS (sp_M_in) dc_M_account_3 ml_M_31 ce_M_in ⟨Nat.le_of_ble_eq_true rfl, Nat.le_of_ble_eq_true rfl⟩ rfl (Nat.le_of_ble_eq_true rfl) ⟨rfl, rfl⟩ ⟨Nat.le_of_ble_eq_true rfl, Nat.le_of_ble_eq_true rfl⟩ ?_
  refine gg_ifeq dc_M_account_6 (fun c_6 => ?_) (fun c_6 => ?_)
  · refine gg_ldc dc_M_account_21 lk_M_64 ?_
    exact gg_iret dc_M_account_23 rfl ⟨Nat.le_of_ble_eq_true rfl, Nat.le_of_ble_eq_true rfl⟩ (⟨rfl, rfl⟩)
  · exact absurd h c_6
set_option maxRecDepth 100000 in
set_option maxHeartbeats 4000000 in
theorem sp_M_account {Γ : cx_T} {τ : Nat × (Nat → sh_T)} {ν : Nat → Nat → Int32} {X : Nat → Nat → Int32} {S : Nat → Int32} {m : Nat} (hm : sh_M τ.2 m) {i : Int32} {k : Nat} (hi : i = nI k) (hk : k < 6) (h : ¬ in_I i 0 5 = 0) : mt_P Γ mk_M_account [.ref m, .int i] (τ, mv_N ν m (va_up X 1 S)) (fun v μ' => v = some (.int (S (12 + k))) ∧ μ' = (τ, mv_N ν m (va_up (X) 1 (S)))) := by
  refine mt_of (L := [some (.ref m), some (.int i)]) (by decide +kernel) (by simp [Value.category]) (Nat.le_of_ble_eq_true rfl) (lc_2_2 ()) ?_
  refine gg_ildn dc_M_account_0 rfl rfl ?_
  refine gg_iconst (v := 0) dc_M_account_1 (by decide) ?_
  refine gg_iconst (v := 5) dc_M_account_2 (by decide) ?_
  refine gg_okS (sp_M_in) dc_M_account_3 ml_M_31 ce_M_in ⟨Nat.le_of_ble_eq_true rfl, Nat.le_of_ble_eq_true rfl⟩ rfl (Nat.le_of_ble_eq_true rfl) ⟨rfl, rfl⟩ ⟨Nat.le_of_ble_eq_true rfl, Nat.le_of_ble_eq_true rfl⟩ ?_
  refine gg_ifeq dc_M_account_6 (fun c_6 => ?_) (fun c_6 => ?_)
  · exact absurd c_6 h
  · refine gg_aldn dc_M_account_9 rfl rfl ?_
    refine gg_getr dc_M_account_10 lf_M_7 hm.1 rfl ?_
    refine gg_bipush (v := 12) dc_M_account_13 (by decide) ?_
    refine gg_ildn dc_M_account_15 rfl rfl ?_
    refine gg_iadd dc_M_account_16 ?_
    refine gms_r (k := 12 + k) dc_M_account_17 hm (⟨by rw [hi, show (12 : Int32) = nI 12 from rfl, nI_add], by omega⟩) ?_
    refine gg_goto dc_M_account_18 ?_
    exact gg_iret dc_M_account_23 rfl ⟨Nat.le_of_ble_eq_true rfl, Nat.le_of_ble_eq_true rfl⟩ (⟨rfl, rfl⟩)
set_option maxRecDepth 100000 in
set_option maxHeartbeats 4000000 in
theorem sp_M_loadAtB {Γ : cx_T} {τ : Nat × (Nat → sh_T)} {ν : Nat → Nat → Int32} {X : Nat → Nat → Int32} {S : Nat → Int32} {m : Nat} (hm : sh_M τ.2 m) {x : Int32} (h : in_I x (-20000) 20000 = 0) : mt_P Γ mk_M_loadAt [.ref m, .int x] (τ, mv_N ν m (va_up X 1 S)) (fun v μ' => v = some (.int (-1000001)) ∧ μ' = (τ, mv_N ν m (va_up (X) 1 (S)))) := by
  refine mt_of (L := [some (.ref m), some (.int x)]) (by decide +kernel) (by simp [Value.category]) (Nat.le_of_ble_eq_true rfl) (lc_2_2 ()) ?_
  refine gg_ildn dc_M_loadAt_0 rfl rfl ?_
  refine gg_okS (sp_M_isPlace) dc_M_loadAt_1 ml_M_65 ce_M_isPlace ⟨Nat.le_of_ble_eq_true rfl, Nat.le_of_ble_eq_true rfl⟩ rfl (Nat.le_of_ble_eq_true rfl) ⟨rfl, rfl⟩ ⟨Nat.le_of_ble_eq_true rfl, Nat.le_of_ble_eq_true rfl⟩ ?_
  refine gg_ifeq dc_M_loadAt_4 (fun c_4 => ?_) (fun c_4 => ?_)
  · refine gg_ldc dc_M_loadAt_15 lk_M_64 ?_
    exact gg_iret dc_M_loadAt_17 rfl ⟨Nat.le_of_ble_eq_true rfl, Nat.le_of_ble_eq_true rfl⟩ (⟨rfl, rfl⟩)
  · exact absurd h c_4
set_option maxRecDepth 100000 in
set_option maxHeartbeats 4000000 in
theorem sp_M_loadAt {Γ : cx_T} {τ : Nat × (Nat → sh_T)} {ν : Nat → Nat → Int32} {X : Nat → Nat → Int32} {S : Nat → Int32} {m : Nat} (hm : sh_M τ.2 m) {x : Int32} (h : ¬ in_I x (-20000) 20000 = 0) (hL : LK S 21 10) : mt_P Γ mk_M_loadAt [.ref m, .int x] (τ, mv_N ν m (va_up X 1 S)) (fun v μ' => v = some (.int (lo_S S x)) ∧ μ' = (τ, mv_N ν m (va_up (X) 1 (S)))) := by
  refine mt_of (L := [some (.ref m), some (.int x)]) (by decide +kernel) (by simp [Value.category]) (Nat.le_of_ble_eq_true rfl) (lc_2_2 ()) ?_
  refine gg_ildn dc_M_loadAt_0 rfl rfl ?_
  refine gg_okS (sp_M_isPlace) dc_M_loadAt_1 ml_M_65 ce_M_isPlace ⟨Nat.le_of_ble_eq_true rfl, Nat.le_of_ble_eq_true rfl⟩ rfl (Nat.le_of_ble_eq_true rfl) ⟨rfl, rfl⟩ ⟨Nat.le_of_ble_eq_true rfl, Nat.le_of_ble_eq_true rfl⟩ ?_
  refine gg_ifeq dc_M_loadAt_4 (fun c_4 => ?_) (fun c_4 => ?_)
  · exact absurd c_4 h
  · refine gg_aldn dc_M_loadAt_7 rfl rfl ?_
    refine gg_ildn dc_M_loadAt_8 rfl rfl ?_
    refine gg_okV (sp_M_loadOf hm hL) dc_M_loadAt_9 ml_M_116 ce_M_loadOf ⟨Nat.le_of_ble_eq_true rfl, Nat.le_of_ble_eq_true rfl⟩ hm.1 rfl rfl (Nat.le_of_ble_eq_true rfl) ⟨rfl, rfl⟩ ⟨Nat.le_of_ble_eq_true rfl, Nat.le_of_ble_eq_true rfl⟩ ?_
    refine gg_goto dc_M_loadAt_12 ?_
    exact gg_iret dc_M_loadAt_17 rfl ⟨Nat.le_of_ble_eq_true rfl, Nat.le_of_ble_eq_true rfl⟩ (⟨rfl, rfl⟩)
set_option maxRecDepth 100000 in
set_option maxHeartbeats 4000000 in
theorem sp_M_errorAtB {Γ : cx_T} {τ : Nat × (Nat → sh_T)} {ν : Nat → Nat → Int32} {X : Nat → Nat → Int32} {S : Nat → Int32} {m : Nat} (hm : sh_M τ.2 m) {x : Int32} (h : in_I x (-20000) 20000 = 0) : mt_P Γ mk_M_errorAt [.ref m, .int x] (τ, mv_N ν m (va_up X 1 S)) (fun v μ' => v = some (.int (-1000001)) ∧ μ' = (τ, mv_N ν m (va_up (X) 1 (S)))) := by
  refine mt_of (L := [some (.ref m), some (.int x)]) (by decide +kernel) (by simp [Value.category]) (Nat.le_of_ble_eq_true rfl) (lc_2_2 ()) ?_
  refine gg_ildn dc_M_errorAt_0 rfl rfl ?_
  refine gg_okS (sp_M_isPlace) dc_M_errorAt_1 ml_M_65 ce_M_isPlace ⟨Nat.le_of_ble_eq_true rfl, Nat.le_of_ble_eq_true rfl⟩ rfl (Nat.le_of_ble_eq_true rfl) ⟨rfl, rfl⟩ ⟨Nat.le_of_ble_eq_true rfl, Nat.le_of_ble_eq_true rfl⟩ ?_
  refine gg_ifeq dc_M_errorAt_4 (fun c_4 => ?_) (fun c_4 => ?_)
  · refine gg_ldc dc_M_errorAt_15 lk_M_64 ?_
    exact gg_iret dc_M_errorAt_17 rfl ⟨Nat.le_of_ble_eq_true rfl, Nat.le_of_ble_eq_true rfl⟩ (⟨rfl, rfl⟩)
  · exact absurd h c_4
set_option maxRecDepth 100000 in
set_option maxHeartbeats 4000000 in
theorem sp_M_errorAt {Γ : cx_T} {τ : Nat × (Nat → sh_T)} {ν : Nat → Nat → Int32} {X : Nat → Nat → Int32} {S : Nat → Int32} {m : Nat} (hm : sh_M τ.2 m) {x : Int32} (h : ¬ in_I x (-20000) 20000 = 0) (hC : LK S 42 10) (hz : nz_P S) : mt_P Γ mk_M_errorAt [.ref m, .int x] (τ, mv_N ν m (va_up X 1 S)) (fun v μ' => v = some (.int (em_S S x)) ∧ μ' = (τ, mv_N ν m (va_up (X) 1 (S)))) := by
  refine mt_of (L := [some (.ref m), some (.int x)]) (by decide +kernel) (by simp [Value.category]) (Nat.le_of_ble_eq_true rfl) (lc_2_2 ()) ?_
  refine gg_ildn dc_M_errorAt_0 rfl rfl ?_
  refine gg_okS (sp_M_isPlace) dc_M_errorAt_1 ml_M_65 ce_M_isPlace ⟨Nat.le_of_ble_eq_true rfl, Nat.le_of_ble_eq_true rfl⟩ rfl (Nat.le_of_ble_eq_true rfl) ⟨rfl, rfl⟩ ⟨Nat.le_of_ble_eq_true rfl, Nat.le_of_ble_eq_true rfl⟩ ?_
  refine gg_ifeq dc_M_errorAt_4 (fun c_4 => ?_) (fun c_4 => ?_)
  · exact absurd c_4 h
  · refine gg_aldn dc_M_errorAt_7 rfl rfl ?_
    refine gg_ildn dc_M_errorAt_8 rfl rfl ?_
    refine gg_okV (sp_M_errorOf hm hC hz) dc_M_errorAt_9 ml_M_126 ce_M_errorOf ⟨Nat.le_of_ble_eq_true rfl, Nat.le_of_ble_eq_true rfl⟩ hm.1 rfl rfl (Nat.le_of_ble_eq_true rfl) ⟨rfl, rfl⟩ ⟨Nat.le_of_ble_eq_true rfl, Nat.le_of_ble_eq_true rfl⟩ ?_
    refine gg_goto dc_M_errorAt_12 ?_
    exact gg_iret dc_M_errorAt_17 rfl ⟨Nat.le_of_ble_eq_true rfl, Nat.le_of_ble_eq_true rfl⟩ (⟨rfl, rfl⟩)
set_option maxRecDepth 100000 in
set_option maxHeartbeats 4000000 in
theorem sp_M_commandB {Γ : cx_T} {τ : Nat × (Nat → sh_T)} {ν : Nat → Nat → Int32} {X : Nat → Nat → Int32} {S : Nat → Int32} {m : Nat} (hm : sh_M τ.2 m) {i w : Int32} (h : i < 0 ∨ in_I w 0 1 = 0) : mt_P Γ mk_M_command [.ref m, .int i, .int w] (τ, mv_N ν m (va_up X 1 S)) (fun v μ' => v = some (.int (-1000001)) ∧ μ' = (τ, mv_N ν m (va_up (X) 1 (S)))) := by
  refine mt_of (L := [some (.ref m), some (.int i), some (.int w)]) (by decide +kernel) (by simp [Value.category]) (Nat.le_of_ble_eq_true rfl) (lc_3_3 ()) ?_
  refine gg_ildn dc_M_command_0 rfl rfl ?_
  refine gg_iflt dc_M_command_1 (fun c_1 => ?_) (fun c_1 => ?_)
  · refine gg_ldc dc_M_command_13 lk_M_64 ?_
    exact gg_iret dc_M_command_15 rfl ⟨Nat.le_of_ble_eq_true rfl, Nat.le_of_ble_eq_true rfl⟩ (⟨rfl, rfl⟩)
  · refine gg_ildn dc_M_command_4 rfl rfl ?_
    refine gg_iconst (v := 0) dc_M_command_5 (by decide) ?_
    refine gg_iconst (v := 1) dc_M_command_6 (by decide) ?_
    refine gg_okS (sp_M_in) dc_M_command_7 ml_M_31 ce_M_in ⟨Nat.le_of_ble_eq_true rfl, Nat.le_of_ble_eq_true rfl⟩ rfl (Nat.le_of_ble_eq_true rfl) ⟨rfl, rfl⟩ ⟨Nat.le_of_ble_eq_true rfl, Nat.le_of_ble_eq_true rfl⟩ ?_
    refine gg_ifne dc_M_command_10 (fun c_10 => ?_) (fun c_10 => ?_)
    · exact absurd (h.resolve_left c_1) c_10
    · refine gg_ldc dc_M_command_13 lk_M_64 ?_
      exact gg_iret dc_M_command_15 rfl ⟨Nat.le_of_ble_eq_true rfl, Nat.le_of_ble_eq_true rfl⟩ (⟨rfl, rfl⟩)
set_option maxRecDepth 100000 in
set_option maxHeartbeats 4000000 in
theorem sp_M_commandN {Γ : cx_T} {τ : Nat × (Nat → sh_T)} {ν : Nat → Nat → Int32} {X : Nat → Nat → Int32} {S : Nat → Int32} {m : Nat} (hm : sh_M τ.2 m) {i w : Int32} (h0 : ¬ i < 0) (h : ¬ in_I w 0 1 = 0) (hn : ¬ i < S 63) : mt_P Γ mk_M_command [.ref m, .int i, .int w] (τ, mv_N ν m (va_up X 1 S)) (fun v μ' => v = some (.int (-1000009)) ∧ μ' = (τ, mv_N ν m (va_up (X) 1 (S)))) := by
  refine mt_of (L := [some (.ref m), some (.int i), some (.int w)]) (by decide +kernel) (by simp [Value.category]) (Nat.le_of_ble_eq_true rfl) (lc_3_3 ()) ?_
  refine gg_ildn dc_M_command_0 rfl rfl ?_
  refine gg_iflt dc_M_command_1 (fun c_1 => ?_) (fun c_1 => ?_)
  · exact absurd c_1 h0
  · refine gg_ildn dc_M_command_4 rfl rfl ?_
    refine gg_iconst (v := 0) dc_M_command_5 (by decide) ?_
    refine gg_iconst (v := 1) dc_M_command_6 (by decide) ?_
    refine gg_okS (sp_M_in) dc_M_command_7 ml_M_31 ce_M_in ⟨Nat.le_of_ble_eq_true rfl, Nat.le_of_ble_eq_true rfl⟩ rfl (Nat.le_of_ble_eq_true rfl) ⟨rfl, rfl⟩ ⟨Nat.le_of_ble_eq_true rfl, Nat.le_of_ble_eq_true rfl⟩ ?_
    refine gg_ifne dc_M_command_10 (fun c_10 => ?_) (fun c_10 => ?_)
    · refine gg_ildn dc_M_command_16 rfl rfl ?_
      refine gg_aldn dc_M_command_17 rfl rfl ?_
      refine gg_getr dc_M_command_18 lf_M_7 hm.1 rfl ?_
      refine gg_bipush (v := 63) dc_M_command_21 (by decide) ?_
      refine gms_r (k := 63) dc_M_command_23 hm ⟨rfl, Nat.le_of_ble_eq_true rfl⟩ ?_
      refine gg_icge dc_M_command_24 (fun c_24 => ?_) (fun c_24 => ?_)
      · refine gg_ldc dc_M_command_36 lk_M_145 ?_
        exact gg_iret dc_M_command_38 rfl ⟨Nat.le_of_ble_eq_true rfl, Nat.le_of_ble_eq_true rfl⟩ (⟨rfl, rfl⟩)
      · exact absurd (Int32.not_lt.mp hn) c_24
    · exact absurd c_10 h
set_option maxRecDepth 100000 in
set_option maxHeartbeats 4000000 in
theorem sp_M_command {Γ : cx_T} {τ : Nat × (Nat → sh_T)} {ν : Nat → Nat → Int32} {X : Nat → Nat → Int32} {S : Nat → Int32} {m : Nat} (hm : sh_M τ.2 m) {i w : Int32} {k q : Nat} (hi : i = nI k) (hw : w = nI q) (hk : k < 8) (hq : q < 2) (h : ¬ in_I w 0 1 = 0) (hn : i < S 63) : mt_P Γ mk_M_command [.ref m, .int i, .int w] (τ, mv_N ν m (va_up X 1 S)) (fun v μ' => v = some (.int (S (64 + 2 * k + q))) ∧ μ' = (τ, mv_N ν m (va_up (X) 1 (S)))) := by
  refine mt_of (L := [some (.ref m), some (.int i), some (.int w)]) (by decide +kernel) (by simp [Value.category]) (Nat.le_of_ble_eq_true rfl) (lc_3_3 ()) ?_
  refine gg_ildn dc_M_command_0 rfl rfl ?_
  refine gg_iflt dc_M_command_1 (fun c_1 => ?_) (fun c_1 => ?_)
  · exact absurd c_1 (by rw [hi]; exact nI_pos (by omega))
  · refine gg_ildn dc_M_command_4 rfl rfl ?_
    refine gg_iconst (v := 0) dc_M_command_5 (by decide) ?_
    refine gg_iconst (v := 1) dc_M_command_6 (by decide) ?_
    refine gg_okS (sp_M_in) dc_M_command_7 ml_M_31 ce_M_in ⟨Nat.le_of_ble_eq_true rfl, Nat.le_of_ble_eq_true rfl⟩ rfl (Nat.le_of_ble_eq_true rfl) ⟨rfl, rfl⟩ ⟨Nat.le_of_ble_eq_true rfl, Nat.le_of_ble_eq_true rfl⟩ ?_
    refine gg_ifne dc_M_command_10 (fun c_10 => ?_) (fun c_10 => ?_)
    · refine gg_ildn dc_M_command_16 rfl rfl ?_
      refine gg_aldn dc_M_command_17 rfl rfl ?_
      refine gg_getr dc_M_command_18 lf_M_7 hm.1 rfl ?_
      refine gg_bipush (v := 63) dc_M_command_21 (by decide) ?_
      refine gms_r (k := 63) dc_M_command_23 hm ⟨rfl, Nat.le_of_ble_eq_true rfl⟩ ?_
      refine gg_icge dc_M_command_24 (fun c_24 => ?_) (fun c_24 => ?_)
      · exact absurd c_24 (Int32.not_le.mpr hn)
      · refine gg_aldn dc_M_command_27 rfl rfl ?_
        refine gg_ildn dc_M_command_28 rfl rfl ?_
        refine gg_ildn dc_M_command_29 rfl rfl ?_
        refine gg_okV (sp_M_commandOf hm hi hw hk hq) dc_M_command_30 ml_M_139 ce_M_commandOf ⟨Nat.le_of_ble_eq_true rfl, Nat.le_of_ble_eq_true rfl⟩ hm.1 rfl rfl (Nat.le_of_ble_eq_true rfl) ⟨rfl, rfl⟩ ⟨Nat.le_of_ble_eq_true rfl, Nat.le_of_ble_eq_true rfl⟩ ?_
        refine gg_goto dc_M_command_33 ?_
        exact gg_iret dc_M_command_38 rfl ⟨Nat.le_of_ble_eq_true rfl, Nat.le_of_ble_eq_true rfl⟩ (⟨rfl, rfl⟩)
    · exact absurd c_10 h
set_option maxRecDepth 100000 in
set_option maxHeartbeats 4000000 in
theorem sp_M_flagB {Γ : cx_T} {τ : Nat × (Nat → sh_T)} {ν : Nat → Nat → Int32} {X : Nat → Nat → Int32} {S : Nat → Int32} {m : Nat} (hm : sh_M τ.2 m) {i : Int32} (h : in_I i 0 1 = 0) : mt_P Γ mk_M_flag [.ref m, .int i] (τ, mv_N ν m (va_up X 1 S)) (fun v μ' => v = some (.int (-1000001)) ∧ μ' = (τ, mv_N ν m (va_up (X) 1 (S)))) := by
  refine mt_of (L := [some (.ref m), some (.int i)]) (by decide +kernel) (by simp [Value.category]) (Nat.le_of_ble_eq_true rfl) (lc_2_2 ()) ?_
  refine gg_ildn dc_M_flag_0 rfl rfl ?_
  refine gg_iconst (v := 0) dc_M_flag_1 (by decide) ?_
  refine gg_iconst (v := 1) dc_M_flag_2 (by decide) ?_
  refine gg_okS (sp_M_in) dc_M_flag_3 ml_M_31 ce_M_in ⟨Nat.le_of_ble_eq_true rfl, Nat.le_of_ble_eq_true rfl⟩ rfl (Nat.le_of_ble_eq_true rfl) ⟨rfl, rfl⟩ ⟨Nat.le_of_ble_eq_true rfl, Nat.le_of_ble_eq_true rfl⟩ ?_
  refine gg_ifne dc_M_flag_6 (fun c_6 => ?_) (fun c_6 => ?_)
  · exact absurd h c_6
  · refine gg_ldc dc_M_flag_9 lk_M_64 ?_
    exact gg_iret dc_M_flag_11 rfl ⟨Nat.le_of_ble_eq_true rfl, Nat.le_of_ble_eq_true rfl⟩ (⟨rfl, rfl⟩)
set_option maxRecDepth 100000 in
set_option maxHeartbeats 4000000 in
theorem sp_M_flagN {Γ : cx_T} {τ : Nat × (Nat → sh_T)} {ν : Nat → Nat → Int32} {X : Nat → Nat → Int32} {S : Nat → Int32} {m : Nat} (hm : sh_M τ.2 m) {i : Int32} (h : ¬ in_I i 0 1 = 0) (h1 : ¬ S 18 = 1) : mt_P Γ mk_M_flag [.ref m, .int i] (τ, mv_N ν m (va_up X 1 S)) (fun v μ' => v = some (.int (-1000009)) ∧ μ' = (τ, mv_N ν m (va_up (X) 1 (S)))) := by
  refine mt_of (L := [some (.ref m), some (.int i)]) (by decide +kernel) (by simp [Value.category]) (Nat.le_of_ble_eq_true rfl) (lc_2_2 ()) ?_
  refine gg_ildn dc_M_flag_0 rfl rfl ?_
  refine gg_iconst (v := 0) dc_M_flag_1 (by decide) ?_
  refine gg_iconst (v := 1) dc_M_flag_2 (by decide) ?_
  refine gg_okS (sp_M_in) dc_M_flag_3 ml_M_31 ce_M_in ⟨Nat.le_of_ble_eq_true rfl, Nat.le_of_ble_eq_true rfl⟩ rfl (Nat.le_of_ble_eq_true rfl) ⟨rfl, rfl⟩ ⟨Nat.le_of_ble_eq_true rfl, Nat.le_of_ble_eq_true rfl⟩ ?_
  refine gg_ifne dc_M_flag_6 (fun c_6 => ?_) (fun c_6 => ?_)
  · refine gg_aldn dc_M_flag_12 rfl rfl ?_
    refine gg_getr dc_M_flag_13 lf_M_7 hm.1 rfl ?_
    refine gg_bipush (v := 18) dc_M_flag_16 (by decide) ?_
    refine gms_r (k := 18) dc_M_flag_18 hm ⟨rfl, Nat.le_of_ble_eq_true rfl⟩ ?_
    refine gg_iconst (v := 1) dc_M_flag_19 (by decide) ?_
    refine gg_icne dc_M_flag_20 (fun c_20 => ?_) (fun c_20 => ?_)
    · refine gg_ldc dc_M_flag_35 lk_M_145 ?_
      exact gg_iret dc_M_flag_37 rfl ⟨Nat.le_of_ble_eq_true rfl, Nat.le_of_ble_eq_true rfl⟩ (⟨rfl, rfl⟩)
    · exact absurd c_20 h1
  · exact absurd c_6 h
set_option maxRecDepth 100000 in
set_option maxHeartbeats 4000000 in
theorem sp_M_flag {Γ : cx_T} {τ : Nat × (Nat → sh_T)} {ν : Nat → Nat → Int32} {X : Nat → Nat → Int32} {S : Nat → Int32} {m : Nat} (hm : sh_M τ.2 m) {i : Int32} {k : Nat} (hi : i = nI k) (hk : k < 2) (h : ¬ in_I i 0 1 = 0) (h1 : S 18 = 1) : mt_P Γ mk_M_flag [.ref m, .int i] (τ, mv_N ν m (va_up X 1 S)) (fun v μ' => v = some (.int (S (19 + k))) ∧ μ' = (τ, mv_N ν m (va_up (X) 1 (S)))) := by
  refine mt_of (L := [some (.ref m), some (.int i)]) (by decide +kernel) (by simp [Value.category]) (Nat.le_of_ble_eq_true rfl) (lc_2_2 ()) ?_
  refine gg_ildn dc_M_flag_0 rfl rfl ?_
  refine gg_iconst (v := 0) dc_M_flag_1 (by decide) ?_
  refine gg_iconst (v := 1) dc_M_flag_2 (by decide) ?_
  refine gg_okS (sp_M_in) dc_M_flag_3 ml_M_31 ce_M_in ⟨Nat.le_of_ble_eq_true rfl, Nat.le_of_ble_eq_true rfl⟩ rfl (Nat.le_of_ble_eq_true rfl) ⟨rfl, rfl⟩ ⟨Nat.le_of_ble_eq_true rfl, Nat.le_of_ble_eq_true rfl⟩ ?_
  refine gg_ifne dc_M_flag_6 (fun c_6 => ?_) (fun c_6 => ?_)
  · refine gg_aldn dc_M_flag_12 rfl rfl ?_
    refine gg_getr dc_M_flag_13 lf_M_7 hm.1 rfl ?_
    refine gg_bipush (v := 18) dc_M_flag_16 (by decide) ?_
    refine gms_r (k := 18) dc_M_flag_18 hm ⟨rfl, Nat.le_of_ble_eq_true rfl⟩ ?_
    refine gg_iconst (v := 1) dc_M_flag_19 (by decide) ?_
    refine gg_icne dc_M_flag_20 (fun c_20 => ?_) (fun c_20 => ?_)
    · exact absurd h1 c_20
    · refine gg_aldn dc_M_flag_23 rfl rfl ?_
      refine gg_getr dc_M_flag_24 lf_M_7 hm.1 rfl ?_
      refine gg_bipush (v := 19) dc_M_flag_27 (by decide) ?_
      refine gg_ildn dc_M_flag_29 rfl rfl ?_
      refine gg_iadd dc_M_flag_30 ?_
      refine gms_r (k := 19 + k) dc_M_flag_31 hm (⟨by rw [hi, show (19 : Int32) = nI 19 from rfl, nI_add], by omega⟩) ?_
      refine gg_goto dc_M_flag_32 ?_
      exact gg_iret dc_M_flag_37 rfl ⟨Nat.le_of_ble_eq_true rfl, Nat.le_of_ble_eq_true rfl⟩ (⟨rfl, rfl⟩)
  · exact absurd c_6 h
set_option maxRecDepth 100000 in
set_option maxHeartbeats 4000000 in
theorem sp_M_counterB {Γ : cx_T} {τ : Nat × (Nat → sh_T)} {ν : Nat → Nat → Int32} {X : Nat → Nat → Int32} {S : Nat → Int32} {m : Nat} (hm : sh_M τ.2 m) {w : Int32} (h : in_I w 0 1 = 0) : mt_P Γ mk_M_counter [.ref m, .int w] (τ, mv_N ν m (va_up X 1 S)) (fun v μ' => v = some (.int (-1000001)) ∧ μ' = (τ, mv_N ν m (va_up (X) 1 (S)))) := by
  refine mt_of (L := [some (.ref m), some (.int w)]) (by decide +kernel) (by simp [Value.category]) (Nat.le_of_ble_eq_true rfl) (lc_2_2 ()) ?_
  refine gg_ildn dc_M_counter_0 rfl rfl ?_
  refine gg_iconst (v := 0) dc_M_counter_1 (by decide) ?_
  refine gg_iconst (v := 1) dc_M_counter_2 (by decide) ?_
  refine gg_okS (sp_M_in) dc_M_counter_3 ml_M_31 ce_M_in ⟨Nat.le_of_ble_eq_true rfl, Nat.le_of_ble_eq_true rfl⟩ rfl (Nat.le_of_ble_eq_true rfl) ⟨rfl, rfl⟩ ⟨Nat.le_of_ble_eq_true rfl, Nat.le_of_ble_eq_true rfl⟩ ?_
  refine gg_ifne dc_M_counter_6 (fun c_6 => ?_) (fun c_6 => ?_)
  · exact absurd h c_6
  · refine gg_ldc dc_M_counter_9 lk_M_64 ?_
    exact gg_iret dc_M_counter_11 rfl ⟨Nat.le_of_ble_eq_true rfl, Nat.le_of_ble_eq_true rfl⟩ (⟨rfl, rfl⟩)
set_option maxRecDepth 100000 in
set_option maxHeartbeats 4000000 in
theorem sp_M_counter {Γ : cx_T} {τ : Nat × (Nat → sh_T)} {ν : Nat → Nat → Int32} {X : Nat → Nat → Int32} {S : Nat → Int32} {m : Nat} (hm : sh_M τ.2 m) {w : Int32} (h : ¬ in_I w 0 1 = 0) : mt_P Γ mk_M_counter [.ref m, .int w] (τ, mv_N ν m (va_up X 1 S)) (fun v μ' => v = some (.int (if w = 0 then S 6 else S 7 + S 9 + S 10 + S 11)) ∧ μ' = (τ, mv_N ν m (va_up (X) 1 (S)))) := by
  refine mt_of (L := [some (.ref m), some (.int w)]) (by decide +kernel) (by simp [Value.category]) (Nat.le_of_ble_eq_true rfl) (lc_2_2 ()) ?_
  refine gg_ildn dc_M_counter_0 rfl rfl ?_
  refine gg_iconst (v := 0) dc_M_counter_1 (by decide) ?_
  refine gg_iconst (v := 1) dc_M_counter_2 (by decide) ?_
  refine gg_okS (sp_M_in) dc_M_counter_3 ml_M_31 ce_M_in ⟨Nat.le_of_ble_eq_true rfl, Nat.le_of_ble_eq_true rfl⟩ rfl (Nat.le_of_ble_eq_true rfl) ⟨rfl, rfl⟩ ⟨Nat.le_of_ble_eq_true rfl, Nat.le_of_ble_eq_true rfl⟩ ?_
  refine gg_ifne dc_M_counter_6 (fun c_6 => ?_) (fun c_6 => ?_)
  · refine gg_ildn dc_M_counter_12 rfl rfl ?_
    refine gg_ifne dc_M_counter_13 (fun c_13 => ?_) (fun c_13 => ?_)
    · refine gg_aldn dc_M_counter_26 rfl rfl ?_
      refine gg_getr dc_M_counter_27 lf_M_7 hm.1 rfl ?_
      refine gg_bipush (v := 7) dc_M_counter_30 (by decide) ?_
      refine gms_r (k := 7) dc_M_counter_32 hm ⟨rfl, Nat.le_of_ble_eq_true rfl⟩ ?_
      refine gg_aldn dc_M_counter_33 rfl rfl ?_
      refine gg_getr dc_M_counter_34 lf_M_7 hm.1 rfl ?_
      refine gg_bipush (v := 9) dc_M_counter_37 (by decide) ?_
      refine gms_r (k := 9) dc_M_counter_39 hm ⟨rfl, Nat.le_of_ble_eq_true rfl⟩ ?_
      refine gg_iadd dc_M_counter_40 ?_
      refine gg_aldn dc_M_counter_41 rfl rfl ?_
      refine gg_getr dc_M_counter_42 lf_M_7 hm.1 rfl ?_
      refine gg_bipush (v := 10) dc_M_counter_45 (by decide) ?_
      refine gms_r (k := 10) dc_M_counter_47 hm ⟨rfl, Nat.le_of_ble_eq_true rfl⟩ ?_
      refine gg_iadd dc_M_counter_48 ?_
      refine gg_aldn dc_M_counter_49 rfl rfl ?_
      refine gg_getr dc_M_counter_50 lf_M_7 hm.1 rfl ?_
      refine gg_bipush (v := 11) dc_M_counter_53 (by decide) ?_
      refine gms_r (k := 11) dc_M_counter_55 hm ⟨rfl, Nat.le_of_ble_eq_true rfl⟩ ?_
      refine gg_iadd dc_M_counter_56 ?_
      exact gg_iret dc_M_counter_57 rfl ⟨Nat.le_of_ble_eq_true rfl, Nat.le_of_ble_eq_true rfl⟩ (⟨by rw [if_neg c_13], rfl⟩)
    · refine gg_aldn dc_M_counter_16 rfl rfl ?_
      refine gg_getr dc_M_counter_17 lf_M_7 hm.1 rfl ?_
      refine gg_bipush (v := 6) dc_M_counter_20 (by decide) ?_
      refine gms_r (k := 6) dc_M_counter_22 hm ⟨rfl, Nat.le_of_ble_eq_true rfl⟩ ?_
      refine gg_goto dc_M_counter_23 ?_
      exact gg_iret dc_M_counter_57 rfl ⟨Nat.le_of_ble_eq_true rfl, Nat.le_of_ble_eq_true rfl⟩ (⟨by rw [if_pos (by first | exact c_13 | exact Classical.not_not.mp c_13)], rfl⟩)
  · exact absurd c_6 h
set_option maxRecDepth 100000 in
set_option maxHeartbeats 4000000 in
theorem sp_M_setNumberB {Γ : cx_T} {τ : Nat × (Nat → sh_T)} {ν : Nat → Nat → Int32} {X : Nat → Nat → Int32} {S : Nat → Int32} {m : Nat} (hm : sh_M τ.2 m) {i x : Int32} (h : nm_I i x = 0) : mt_P Γ mk_M_setNumber [.ref m, .int i, .int x] (τ, mv_N ν m (va_up X 1 S)) (fun v μ' => v = some (.int (-1000001)) ∧ μ' = (τ, mv_N ν m (va_up (X) 1 (S)))) := by
  refine mt_of (L := [some (.ref m), some (.int i), some (.int x), none]) (by decide +kernel) (by simp [Value.category]) (Nat.le_of_ble_eq_true rfl) (lc_3_4 ()) ?_
  refine gg_ildn dc_M_setNumber_0 rfl rfl ?_
  refine gg_ildn dc_M_setNumber_1 rfl rfl ?_
  refine gg_okS (sp_M_isNumber) dc_M_setNumber_2 ml_M_61 ce_M_isNumber ⟨Nat.le_of_ble_eq_true rfl, Nat.le_of_ble_eq_true rfl⟩ rfl (Nat.le_of_ble_eq_true rfl) ⟨rfl, rfl⟩ ⟨Nat.le_of_ble_eq_true rfl, Nat.le_of_ble_eq_true rfl⟩ ?_
  refine gg_ifne dc_M_setNumber_5 (fun c_5 => ?_) (fun c_5 => ?_)
  · exact absurd h c_5
  · refine gg_ldc dc_M_setNumber_8 lk_M_64 ?_
    exact gg_iret dc_M_setNumber_10 rfl ⟨Nat.le_of_ble_eq_true rfl, Nat.le_of_ble_eq_true rfl⟩ (⟨rfl, rfl⟩)
set_option maxRecDepth 100000 in
set_option maxHeartbeats 4000000 in
theorem sp_M_setNumber {Γ : cx_T} {τ : Nat × (Nat → sh_T)} {ν : Nat → Nat → Int32} {X : Nat → Nat → Int32} {S : Nat → Int32} {m : Nat} (hm : sh_M τ.2 m) {i x : Int32} {k : Nat} (hp : PS X) (hi : i = nI k) (hk : k < 6) (h : ¬ nm_I i x = 0) : mt_P Γ mk_M_setNumber [.ref m, .int i, .int x] (τ, mv_N ν m (va_up X 1 S)) (fun v μ' => v = some (.int (S k)) ∧ μ' = (τ, mv_N ν m (va_up (nt_X (va_up X 1 S)) 1 (upd S k x)))) := by
  refine mt_of (L := [some (.ref m), some (.int i), some (.int x), none]) (by decide +kernel) (by simp [Value.category]) (Nat.le_of_ble_eq_true rfl) (lc_3_4 ()) ?_
  refine gg_ildn dc_M_setNumber_0 rfl rfl ?_
  refine gg_ildn dc_M_setNumber_1 rfl rfl ?_
  refine gg_okS (sp_M_isNumber) dc_M_setNumber_2 ml_M_61 ce_M_isNumber ⟨Nat.le_of_ble_eq_true rfl, Nat.le_of_ble_eq_true rfl⟩ rfl (Nat.le_of_ble_eq_true rfl) ⟨rfl, rfl⟩ ⟨Nat.le_of_ble_eq_true rfl, Nat.le_of_ble_eq_true rfl⟩ ?_
  refine gg_ifne dc_M_setNumber_5 (fun c_5 => ?_) (fun c_5 => ?_)
  · refine gg_aldn dc_M_setNumber_11 rfl rfl ?_
    refine gg_okVv (sp_M_notesS hm hp) dc_M_setNumber_12 ml_M_47 ce_M_notes ⟨Nat.le_of_ble_eq_true rfl, Nat.le_of_ble_eq_true rfl⟩ hm.1 rfl rfl (Nat.le_of_ble_eq_true rfl) ⟨rfl, rfl⟩ ⟨Nat.le_of_ble_eq_true rfl, Nat.le_of_ble_eq_true rfl⟩ ?_
    refine gg_aldn dc_M_setNumber_15 rfl rfl ?_
    refine gg_getr dc_M_setNumber_16 lf_M_7 hm.1 rfl ?_
    refine gg_ildn dc_M_setNumber_19 rfl rfl ?_
    refine gms_r (k := k) dc_M_setNumber_20 hm (⟨hi, by omega⟩) ?_
    refine gg_istn (i := 3) dc_M_setNumber_21 rfl (Nat.le_of_ble_eq_true rfl) rfl ?_
    dsimp only [List.set]
    refine gg_aldn dc_M_setNumber_22 rfl rfl ?_
    refine gg_getr dc_M_setNumber_23 lf_M_7 hm.1 rfl ?_
    refine gg_ildn dc_M_setNumber_26 rfl rfl ?_
    refine gg_ildn dc_M_setNumber_27 rfl rfl ?_
    refine gms_w (k := k) dc_M_setNumber_28 hm (⟨hi, by omega⟩) ?_
    refine gg_ildn dc_M_setNumber_29 rfl rfl ?_
    exact gg_iret dc_M_setNumber_30 rfl ⟨Nat.le_of_ble_eq_true rfl, Nat.le_of_ble_eq_true rfl⟩ (⟨rfl, rfl⟩)
  · exact absurd c_5 h
set_option maxRecDepth 100000 in
set_option maxHeartbeats 4000000 in
theorem sp_M_correctB {Γ : cx_T} {τ : Nat × (Nat → sh_T)} {ν : Nat → Nat → Int32} {X : Nat → Nat → Int32} {S : Nat → Int32} {m : Nat} (hm : sh_M τ.2 m) {x : Int32} (h : in_I x (-9999) 9999 = 0) : mt_P Γ mk_M_correct [.ref m, .int x] (τ, mv_N ν m (va_up X 1 S)) (fun v μ' => v = some (.int (-1000001)) ∧ μ' = (τ, mv_N ν m (va_up (X) 1 (S)))) := by
  refine mt_of (L := [some (.ref m), some (.int x)]) (by decide +kernel) (by simp [Value.category]) (Nat.le_of_ble_eq_true rfl) (lc_2_2 ()) ?_
  refine gg_ildn dc_M_correct_0 rfl rfl ?_
  refine gg_sipush (v := (-9999)) dc_M_correct_1 (by decide) ?_
  refine gg_sipush (v := 9999) dc_M_correct_4 (by decide) ?_
  refine gg_okS (sp_M_in) dc_M_correct_7 ml_M_31 ce_M_in ⟨Nat.le_of_ble_eq_true rfl, Nat.le_of_ble_eq_true rfl⟩ rfl (Nat.le_of_ble_eq_true rfl) ⟨rfl, rfl⟩ ⟨Nat.le_of_ble_eq_true rfl, Nat.le_of_ble_eq_true rfl⟩ ?_
  refine gg_ifne dc_M_correct_10 (fun c_10 => ?_) (fun c_10 => ?_)
  · exact absurd h c_10
  · refine gg_ldc dc_M_correct_13 lk_M_64 ?_
    exact gg_iret dc_M_correct_15 rfl ⟨Nat.le_of_ble_eq_true rfl, Nat.le_of_ble_eq_true rfl⟩ (⟨rfl, rfl⟩)
set_option maxRecDepth 100000 in
set_option maxHeartbeats 4000000 in
theorem sp_M_correctI {Γ : cx_T} {τ : Nat × (Nat → sh_T)} {ν : Nat → Nat → Int32} {X : Nat → Nat → Int32} {S : Nat → Int32} {m : Nat} (hm : sh_M τ.2 m) {x : Int32} (h1 : ¬ in_I x (-9999) 9999 = 0) (h : in_I (S 6 - x) (-99999) 99999 = 0) : mt_P Γ mk_M_correct [.ref m, .int x] (τ, mv_N ν m (va_up X 1 S)) (fun v μ' => v = some (.int (-1000002)) ∧ μ' = (τ, mv_N ν m (va_up (X) 1 (S)))) := by
  refine mt_of (L := [some (.ref m), some (.int x)]) (by decide +kernel) (by simp [Value.category]) (Nat.le_of_ble_eq_true rfl) (lc_2_2 ()) ?_
  refine gg_ildn dc_M_correct_0 rfl rfl ?_
  refine gg_sipush (v := (-9999)) dc_M_correct_1 (by decide) ?_
  refine gg_sipush (v := 9999) dc_M_correct_4 (by decide) ?_
  refine gg_okS (sp_M_in) dc_M_correct_7 ml_M_31 ce_M_in ⟨Nat.le_of_ble_eq_true rfl, Nat.le_of_ble_eq_true rfl⟩ rfl (Nat.le_of_ble_eq_true rfl) ⟨rfl, rfl⟩ ⟨Nat.le_of_ble_eq_true rfl, Nat.le_of_ble_eq_true rfl⟩ ?_
  refine gg_ifne dc_M_correct_10 (fun c_10 => ?_) (fun c_10 => ?_)
  · refine gg_aldn dc_M_correct_16 rfl rfl ?_
    refine gg_getr dc_M_correct_17 lf_M_7 hm.1 rfl ?_
    refine gg_bipush (v := 6) dc_M_correct_20 (by decide) ?_
    refine gms_r (k := 6) dc_M_correct_22 hm ⟨rfl, Nat.le_of_ble_eq_true rfl⟩ ?_
    refine gg_ildn dc_M_correct_23 rfl rfl ?_
    refine gg_isub dc_M_correct_24 ?_
    refine gg_ldc dc_M_correct_25 lk_M_152 ?_
    refine gg_ldc dc_M_correct_27 lk_M_153 ?_
    refine gg_okS (sp_M_in) dc_M_correct_29 ml_M_31 ce_M_in ⟨Nat.le_of_ble_eq_true rfl, Nat.le_of_ble_eq_true rfl⟩ rfl (Nat.le_of_ble_eq_true rfl) ⟨rfl, rfl⟩ ⟨Nat.le_of_ble_eq_true rfl, Nat.le_of_ble_eq_true rfl⟩ ?_
    refine gg_ifne dc_M_correct_32 (fun c_32 => ?_) (fun c_32 => ?_)
    · exact absurd h c_32
    · refine gg_ldc dc_M_correct_35 lk_M_30 ?_
      exact gg_iret dc_M_correct_37 rfl ⟨Nat.le_of_ble_eq_true rfl, Nat.le_of_ble_eq_true rfl⟩ (⟨rfl, rfl⟩)
  · exact absurd c_10 h1
set_option maxRecDepth 100000 in
set_option maxHeartbeats 4000000 in
theorem sp_M_correct {Γ : cx_T} {τ : Nat × (Nat → sh_T)} {ν : Nat → Nat → Int32} {X : Nat → Nat → Int32} {S : Nat → Int32} {m : Nat} (hm : sh_M τ.2 m) {x : Int32} (hp : PS X) (h1 : ¬ in_I x (-9999) 9999 = 0) (h : ¬ in_I (S 6 - x) (-99999) 99999 = 0) : mt_P Γ mk_M_correct [.ref m, .int x] (τ, mv_N ν m (va_up X 1 S)) (fun v μ' => v = some (.int (S 6 - x)) ∧ μ' = (τ, mv_N ν m (va_up (nt_X (va_up X 1 S)) 1 (upd (upd S 6 (S 6 - x)) 11 (S 11 - x))))) := by
  refine mt_of (L := [some (.ref m), some (.int x)]) (by decide +kernel) (by simp [Value.category]) (Nat.le_of_ble_eq_true rfl) (lc_2_2 ()) ?_
  refine gg_ildn dc_M_correct_0 rfl rfl ?_
  refine gg_sipush (v := (-9999)) dc_M_correct_1 (by decide) ?_
  refine gg_sipush (v := 9999) dc_M_correct_4 (by decide) ?_
  refine gg_okS (sp_M_in) dc_M_correct_7 ml_M_31 ce_M_in ⟨Nat.le_of_ble_eq_true rfl, Nat.le_of_ble_eq_true rfl⟩ rfl (Nat.le_of_ble_eq_true rfl) ⟨rfl, rfl⟩ ⟨Nat.le_of_ble_eq_true rfl, Nat.le_of_ble_eq_true rfl⟩ ?_
  refine gg_ifne dc_M_correct_10 (fun c_10 => ?_) (fun c_10 => ?_)
  · refine gg_aldn dc_M_correct_16 rfl rfl ?_
    refine gg_getr dc_M_correct_17 lf_M_7 hm.1 rfl ?_
    refine gg_bipush (v := 6) dc_M_correct_20 (by decide) ?_
    refine gms_r (k := 6) dc_M_correct_22 hm ⟨rfl, Nat.le_of_ble_eq_true rfl⟩ ?_
    refine gg_ildn dc_M_correct_23 rfl rfl ?_
    refine gg_isub dc_M_correct_24 ?_
    refine gg_ldc dc_M_correct_25 lk_M_152 ?_
    refine gg_ldc dc_M_correct_27 lk_M_153 ?_
    refine gg_okS (sp_M_in) dc_M_correct_29 ml_M_31 ce_M_in ⟨Nat.le_of_ble_eq_true rfl, Nat.le_of_ble_eq_true rfl⟩ rfl (Nat.le_of_ble_eq_true rfl) ⟨rfl, rfl⟩ ⟨Nat.le_of_ble_eq_true rfl, Nat.le_of_ble_eq_true rfl⟩ ?_
    refine gg_ifne dc_M_correct_32 (fun c_32 => ?_) (fun c_32 => ?_)
    · refine gg_aldn dc_M_correct_38 rfl rfl ?_
      refine gg_okVv (sp_M_notesS hm hp) dc_M_correct_39 ml_M_47 ce_M_notes ⟨Nat.le_of_ble_eq_true rfl, Nat.le_of_ble_eq_true rfl⟩ hm.1 rfl rfl (Nat.le_of_ble_eq_true rfl) ⟨rfl, rfl⟩ ⟨Nat.le_of_ble_eq_true rfl, Nat.le_of_ble_eq_true rfl⟩ ?_
      refine gg_aldn dc_M_correct_42 rfl rfl ?_
      refine gg_getr dc_M_correct_43 lf_M_7 hm.1 rfl ?_
      refine gg_bipush (v := 6) dc_M_correct_46 (by decide) ?_
      refine gg_dup2 dc_M_correct_48 rfl rfl ?_
      refine gms_r (k := 6) dc_M_correct_49 hm ⟨rfl, Nat.le_of_ble_eq_true rfl⟩ ?_
      refine gg_ildn dc_M_correct_50 rfl rfl ?_
      refine gg_isub dc_M_correct_51 ?_
      refine gms_w (k := 6) dc_M_correct_52 hm ⟨rfl, Nat.le_of_ble_eq_true rfl⟩ ?_
      refine gg_aldn dc_M_correct_53 rfl rfl ?_
      refine gg_getr dc_M_correct_54 lf_M_7 hm.1 rfl ?_
      refine gg_bipush (v := 11) dc_M_correct_57 (by decide) ?_
      refine gg_dup2 dc_M_correct_59 rfl rfl ?_
      refine gms_r (k := 11) dc_M_correct_60 hm ⟨rfl, Nat.le_of_ble_eq_true rfl⟩ ?_
      refine gg_ildn dc_M_correct_61 rfl rfl ?_
      refine gg_isub dc_M_correct_62 ?_
      refine gms_w (k := 11) dc_M_correct_63 hm ⟨rfl, Nat.le_of_ble_eq_true rfl⟩ ?_
      refine gg_aldn dc_M_correct_64 rfl rfl ?_
      refine gg_getr dc_M_correct_65 lf_M_7 hm.1 rfl ?_
      refine gg_bipush (v := 6) dc_M_correct_68 (by decide) ?_
      refine gms_r (k := 6) dc_M_correct_70 hm ⟨rfl, Nat.le_of_ble_eq_true rfl⟩ ?_
      exact gg_iret dc_M_correct_71 rfl ⟨Nat.le_of_ble_eq_true rfl, Nat.le_of_ble_eq_true rfl⟩ (⟨rfl, rfl⟩)
    · exact absurd c_32 h
  · exact absurd c_10 h1
set_option maxRecDepth 100000 in
set_option maxHeartbeats 4000000 in
theorem sp_M_setFlagB {Γ : cx_T} {τ : Nat × (Nat → sh_T)} {ν : Nat → Nat → Int32} {X : Nat → Nat → Int32} {S : Nat → Int32} {m : Nat} (hm : sh_M τ.2 m) {x y : Int32} (h : in_I x (-20000) 20000 = 0 ∨ in_I y (-20000) 20000 = 0 ∨ y ≤ x) : mt_P Γ mk_M_setFlag [.ref m, .int x, .int y] (τ, mv_N ν m (va_up X 1 S)) (fun v μ' => v = some (.int (-1000001)) ∧ μ' = (τ, mv_N ν m (va_up (X) 1 (S)))) := by
  refine mt_of (L := [some (.ref m), some (.int x), some (.int y), none]) (by decide +kernel) (by simp [Value.category]) (Nat.le_of_ble_eq_true rfl) (lc_3_4 ()) ?_
  refine gg_ildn dc_M_setFlag_0 rfl rfl ?_
  refine gg_okS (sp_M_isPlace) dc_M_setFlag_1 ml_M_65 ce_M_isPlace ⟨Nat.le_of_ble_eq_true rfl, Nat.le_of_ble_eq_true rfl⟩ rfl (Nat.le_of_ble_eq_true rfl) ⟨rfl, rfl⟩ ⟨Nat.le_of_ble_eq_true rfl, Nat.le_of_ble_eq_true rfl⟩ ?_
  refine gg_ifeq dc_M_setFlag_4 (fun c_4 => ?_) (fun c_4 => ?_)
  · refine gg_ldc dc_M_setFlag_19 lk_M_64 ?_
    exact gg_iret dc_M_setFlag_21 rfl ⟨Nat.le_of_ble_eq_true rfl, Nat.le_of_ble_eq_true rfl⟩ (⟨rfl, rfl⟩)
  · refine gg_ildn dc_M_setFlag_7 rfl rfl ?_
    refine gg_okS (sp_M_isPlace) dc_M_setFlag_8 ml_M_65 ce_M_isPlace ⟨Nat.le_of_ble_eq_true rfl, Nat.le_of_ble_eq_true rfl⟩ rfl (Nat.le_of_ble_eq_true rfl) ⟨rfl, rfl⟩ ⟨Nat.le_of_ble_eq_true rfl, Nat.le_of_ble_eq_true rfl⟩ ?_
    refine gg_ifeq dc_M_setFlag_11 (fun c_11 => ?_) (fun c_11 => ?_)
    · refine gg_ldc dc_M_setFlag_19 lk_M_64 ?_
      exact gg_iret dc_M_setFlag_21 rfl ⟨Nat.le_of_ble_eq_true rfl, Nat.le_of_ble_eq_true rfl⟩ (⟨rfl, rfl⟩)
    · refine gg_ildn dc_M_setFlag_14 rfl rfl ?_
      refine gg_ildn dc_M_setFlag_15 rfl rfl ?_
      refine gg_icgt dc_M_setFlag_16 (fun c_16 => ?_) (fun c_16 => ?_)
      · exact absurd ((h.resolve_left c_4).resolve_left c_11) (Int32.not_le.mpr c_16)
      · refine gg_ldc dc_M_setFlag_19 lk_M_64 ?_
        exact gg_iret dc_M_setFlag_21 rfl ⟨Nat.le_of_ble_eq_true rfl, Nat.le_of_ble_eq_true rfl⟩ (⟨rfl, rfl⟩)
set_option maxRecDepth 100000 in
set_option maxHeartbeats 4000000 in
theorem sp_M_setFlag {Γ : cx_T} {τ : Nat × (Nat → sh_T)} {ν : Nat → Nat → Int32} {X : Nat → Nat → Int32} {S : Nat → Int32} {m : Nat} (hm : sh_M τ.2 m) {x y : Int32} (hp : PS X) (h1 : ¬ in_I x (-20000) 20000 = 0) (h2 : ¬ in_I y (-20000) 20000 = 0) (h : x < y) : mt_P Γ mk_M_setFlag [.ref m, .int x, .int y] (τ, mv_N ν m (va_up X 1 S)) (fun v μ' => v = some (.int (S 18)) ∧ μ' = (τ, mv_N ν m (va_up (nt_X (va_up X 1 S)) 1 (upd (upd (upd S 18 1) 19 x) 20 y)))) := by
  refine mt_of (L := [some (.ref m), some (.int x), some (.int y), none]) (by decide +kernel) (by simp [Value.category]) (Nat.le_of_ble_eq_true rfl) (lc_3_4 ()) ?_
  refine gg_ildn dc_M_setFlag_0 rfl rfl ?_
  refine gg_okS (sp_M_isPlace) dc_M_setFlag_1 ml_M_65 ce_M_isPlace ⟨Nat.le_of_ble_eq_true rfl, Nat.le_of_ble_eq_true rfl⟩ rfl (Nat.le_of_ble_eq_true rfl) ⟨rfl, rfl⟩ ⟨Nat.le_of_ble_eq_true rfl, Nat.le_of_ble_eq_true rfl⟩ ?_
  refine gg_ifeq dc_M_setFlag_4 (fun c_4 => ?_) (fun c_4 => ?_)
  · exact absurd c_4 h1
  · refine gg_ildn dc_M_setFlag_7 rfl rfl ?_
    refine gg_okS (sp_M_isPlace) dc_M_setFlag_8 ml_M_65 ce_M_isPlace ⟨Nat.le_of_ble_eq_true rfl, Nat.le_of_ble_eq_true rfl⟩ rfl (Nat.le_of_ble_eq_true rfl) ⟨rfl, rfl⟩ ⟨Nat.le_of_ble_eq_true rfl, Nat.le_of_ble_eq_true rfl⟩ ?_
    refine gg_ifeq dc_M_setFlag_11 (fun c_11 => ?_) (fun c_11 => ?_)
    · exact absurd c_11 h2
    · refine gg_ildn dc_M_setFlag_14 rfl rfl ?_
      refine gg_ildn dc_M_setFlag_15 rfl rfl ?_
      refine gg_icgt dc_M_setFlag_16 (fun c_16 => ?_) (fun c_16 => ?_)
      · refine gg_aldn dc_M_setFlag_22 rfl rfl ?_
        refine gg_okVv (sp_M_notesS hm hp) dc_M_setFlag_23 ml_M_47 ce_M_notes ⟨Nat.le_of_ble_eq_true rfl, Nat.le_of_ble_eq_true rfl⟩ hm.1 rfl rfl (Nat.le_of_ble_eq_true rfl) ⟨rfl, rfl⟩ ⟨Nat.le_of_ble_eq_true rfl, Nat.le_of_ble_eq_true rfl⟩ ?_
        refine gg_aldn dc_M_setFlag_26 rfl rfl ?_
        refine gg_getr dc_M_setFlag_27 lf_M_7 hm.1 rfl ?_
        refine gg_bipush (v := 18) dc_M_setFlag_30 (by decide) ?_
        refine gms_r (k := 18) dc_M_setFlag_32 hm ⟨rfl, Nat.le_of_ble_eq_true rfl⟩ ?_
        refine gg_istn (i := 3) dc_M_setFlag_33 rfl (Nat.le_of_ble_eq_true rfl) rfl ?_
        dsimp only [List.set]
        refine gg_aldn dc_M_setFlag_34 rfl rfl ?_
        refine gg_ildn dc_M_setFlag_35 rfl rfl ?_
        refine gg_ildn dc_M_setFlag_36 rfl rfl ?_
        refine gg_okVv (sp_M_flags hm) dc_M_setFlag_37 ml_M_73 ce_M_flags ⟨Nat.le_of_ble_eq_true rfl, Nat.le_of_ble_eq_true rfl⟩ hm.1 rfl rfl (Nat.le_of_ble_eq_true rfl) ⟨rfl, rfl⟩ ⟨Nat.le_of_ble_eq_true rfl, Nat.le_of_ble_eq_true rfl⟩ ?_
        refine gg_ildn dc_M_setFlag_40 rfl rfl ?_
        exact gg_iret dc_M_setFlag_41 rfl ⟨Nat.le_of_ble_eq_true rfl, Nat.le_of_ble_eq_true rfl⟩ (⟨rfl, rfl⟩)
      · exact absurd h c_16
set_option maxRecDepth 100000 in
set_option maxHeartbeats 4000000 in
theorem sp_M_appendB {Γ : cx_T} {τ : Nat × (Nat → sh_T)} {ν : Nat → Nat → Int32} {X : Nat → Nat → Int32} {S : Nat → Int32} {m : Nat} (hm : sh_M τ.2 m) {x : Int32} (h : in_I x 0 255 = 0) : mt_P Γ mk_M_appendCharacter [.ref m, .int x] (τ, mv_N ν m (va_up X 1 S)) (fun v μ' => v = some (.int (-1000001)) ∧ μ' = (τ, mv_N ν m (va_up (X) 1 (S)))) := by
  refine mt_of (L := [some (.ref m), some (.int x)]) (by decide +kernel) (by simp [Value.category]) (Nat.le_of_ble_eq_true rfl) (lc_2_2 ()) ?_
  refine gg_ildn dc_M_appendCharacter_0 rfl rfl ?_
  refine gg_iconst (v := 0) dc_M_appendCharacter_1 (by decide) ?_
  refine gg_sipush (v := 255) dc_M_appendCharacter_2 (by decide) ?_
  refine gg_okS (sp_M_in) dc_M_appendCharacter_5 ml_M_31 ce_M_in ⟨Nat.le_of_ble_eq_true rfl, Nat.le_of_ble_eq_true rfl⟩ rfl (Nat.le_of_ble_eq_true rfl) ⟨rfl, rfl⟩ ⟨Nat.le_of_ble_eq_true rfl, Nat.le_of_ble_eq_true rfl⟩ ?_
  refine gg_ifne dc_M_appendCharacter_8 (fun c_8 => ?_) (fun c_8 => ?_)
  · exact absurd h c_8
  · refine gg_ldc dc_M_appendCharacter_11 lk_M_64 ?_
    exact gg_iret dc_M_appendCharacter_13 rfl ⟨Nat.le_of_ble_eq_true rfl, Nat.le_of_ble_eq_true rfl⟩ (⟨rfl, rfl⟩)
set_option maxRecDepth 100000 in
set_option maxHeartbeats 4000000 in
theorem sp_M_appendC {Γ : cx_T} {τ : Nat × (Nat → sh_T)} {ν : Nat → Nat → Int32} {X : Nat → Nat → Int32} {S : Nat → Int32} {m : Nat} (hm : sh_M τ.2 m) {x : Int32} (h : ¬ in_I x 0 255 = 0) (h1 : X 0 7 = 100) : mt_P Γ mk_M_appendCharacter [.ref m, .int x] (τ, mv_N ν m (va_up X 1 S)) (fun v μ' => v = some (.int (-1000003)) ∧ μ' = (τ, mv_N ν m (va_up (X) 1 (S)))) := by
  refine mt_of (L := [some (.ref m), some (.int x)]) (by decide +kernel) (by simp [Value.category]) (Nat.le_of_ble_eq_true rfl) (lc_2_2 ()) ?_
  refine gg_ildn dc_M_appendCharacter_0 rfl rfl ?_
  refine gg_iconst (v := 0) dc_M_appendCharacter_1 (by decide) ?_
  refine gg_sipush (v := 255) dc_M_appendCharacter_2 (by decide) ?_
  refine gg_okS (sp_M_in) dc_M_appendCharacter_5 ml_M_31 ce_M_in ⟨Nat.le_of_ble_eq_true rfl, Nat.le_of_ble_eq_true rfl⟩ rfl (Nat.le_of_ble_eq_true rfl) ⟨rfl, rfl⟩ ⟨Nat.le_of_ble_eq_true rfl, Nat.le_of_ble_eq_true rfl⟩ ?_
  refine gg_ifne dc_M_appendCharacter_8 (fun c_8 => ?_) (fun c_8 => ?_)
  · refine gg_aldn dc_M_appendCharacter_14 rfl rfl ?_
    refine gmx_g (k := 7) dc_M_appendCharacter_15 lf_M_76 hm.1 rfl ?_
    refine gg_bipush (v := 100) dc_M_appendCharacter_18 (by decide) ?_
    refine gg_icne dc_M_appendCharacter_20 (fun c_20 => ?_) (fun c_20 => ?_)
    · exact absurd h1 c_20
    · refine gg_ldc dc_M_appendCharacter_23 lk_M_46 ?_
      exact gg_iret dc_M_appendCharacter_25 rfl ⟨Nat.le_of_ble_eq_true rfl, Nat.le_of_ble_eq_true rfl⟩ (⟨rfl, rfl⟩)
  · exact absurd c_8 h
set_option maxRecDepth 100000 in
set_option maxHeartbeats 4000000 in
theorem sp_M_append {Γ : cx_T} {τ : Nat × (Nat → sh_T)} {ν : Nat → Nat → Int32} {X : Nat → Nat → Int32} {S : Nat → Int32} {m : Nat} (hm : sh_M τ.2 m) {x : Int32} {n : Nat} (h : ¬ in_I x 0 255 = 0) (hn : X 0 7 = nI n) (hlt : n < 100) : mt_P Γ mk_M_appendCharacter [.ref m, .int x] (τ, mv_N ν m (va_up X 1 S)) (fun v μ' => v = some (.int (nI (n + 1))) ∧ μ' = (τ, mv_N ν m (va_up (up_2 (up_2 X 5 n x.toInt8.toInt32) 0 7 (nI (n + 1))) 1 (S)))) := by
  refine mt_of (L := [some (.ref m), some (.int x)]) (by decide +kernel) (by simp [Value.category]) (Nat.le_of_ble_eq_true rfl) (lc_2_2 ()) ?_
  refine gg_ildn dc_M_appendCharacter_0 rfl rfl ?_
  refine gg_iconst (v := 0) dc_M_appendCharacter_1 (by decide) ?_
  refine gg_sipush (v := 255) dc_M_appendCharacter_2 (by decide) ?_
  refine gg_okS (sp_M_in) dc_M_appendCharacter_5 ml_M_31 ce_M_in ⟨Nat.le_of_ble_eq_true rfl, Nat.le_of_ble_eq_true rfl⟩ rfl (Nat.le_of_ble_eq_true rfl) ⟨rfl, rfl⟩ ⟨Nat.le_of_ble_eq_true rfl, Nat.le_of_ble_eq_true rfl⟩ ?_
  refine gg_ifne dc_M_appendCharacter_8 (fun c_8 => ?_) (fun c_8 => ?_)
  · refine gg_aldn dc_M_appendCharacter_14 rfl rfl ?_
    refine gmx_g (k := 7) dc_M_appendCharacter_15 lf_M_76 hm.1 rfl ?_
    refine gg_bipush (v := 100) dc_M_appendCharacter_18 (by decide) ?_
    refine gg_icne dc_M_appendCharacter_20 (fun c_20 => ?_) (fun c_20 => ?_)
    · refine gg_aldn dc_M_appendCharacter_26 rfl rfl ?_
      refine gg_getr dc_M_appendCharacter_27 lf_M_22 hm.1 rfl ?_
      refine gg_aldn dc_M_appendCharacter_30 rfl rfl ?_
      refine gmx_g (k := 7) dc_M_appendCharacter_31 lf_M_76 hm.1 rfl ?_
      refine gg_ildn dc_M_appendCharacter_34 rfl rfl ?_
      refine gg_i2b dc_M_appendCharacter_35 ?_
      refine gmx_bw (k := n) dc_M_appendCharacter_36 hm (⟨hn, by omega⟩) ?_
      rw [i8_i8, up_c (by decide)]
      refine gg_aldn dc_M_appendCharacter_37 rfl rfl ?_
      refine gg_dup dc_M_appendCharacter_38 rfl ?_
      refine gmx_g (k := 7) dc_M_appendCharacter_39 lf_M_76 hm.1 rfl ?_
      refine gg_iconst (v := 1) dc_M_appendCharacter_42 (by decide) ?_
      refine gg_iadd dc_M_appendCharacter_43 ?_
      refine gx_top (show X 0 7 + 1 = nI (n + 1) by rw [hn, nI_1]) ?_
      refine gmx_p (k := 7) dc_M_appendCharacter_44 lp_M_76 hm.1 rfl ?_
      rw [up_c (by decide)]
      refine gg_aldn dc_M_appendCharacter_47 rfl rfl ?_
      refine gmx_g (k := 7) dc_M_appendCharacter_48 lf_M_76 hm.1 rfl ?_
      exact gg_iret dc_M_appendCharacter_51 rfl ⟨Nat.le_of_ble_eq_true rfl, Nat.le_of_ble_eq_true rfl⟩ (⟨rfl, rfl⟩)
    · exact absurd (show nI n = nI 100 from hn.symm.trans c_20) (fun e => absurd ((nI_eq (by omega) (by omega)).mp e) (by omega))
  · exact absurd c_8 h
set_option maxRecDepth 100000 in
set_option maxHeartbeats 4000000 in
theorem sp_M_clearText {Γ : cx_T} {τ : Nat × (Nat → sh_T)} {ν : Nat → Nat → Int32} {X : Nat → Nat → Int32} {S : Nat → Int32} {m : Nat} (hm : sh_M τ.2 m)  : mt_P Γ mk_M_clearText [.ref m] (τ, mv_N ν m (va_up X 1 S)) (fun v μ' => v = some (.int (X 0 7)) ∧ μ' = (τ, mv_N ν m (va_up (up_2 X 0 7 0) 1 (S)))) := by
  refine mt_of (L := [some (.ref m), none]) (by decide +kernel) (by simp [Value.category]) (Nat.le_of_ble_eq_true rfl) (lc_1_2 ()) ?_
  refine gg_aldn dc_M_clearText_0 rfl rfl ?_
  refine gmx_g (k := 7) dc_M_clearText_1 lf_M_76 hm.1 rfl ?_
  refine gg_istn (i := 1) dc_M_clearText_4 rfl (Nat.le_of_ble_eq_true rfl) rfl ?_
  dsimp only [List.set]
  refine gg_aldn dc_M_clearText_5 rfl rfl ?_
  refine gg_iconst (v := 0) dc_M_clearText_6 (by decide) ?_
  refine gmx_p (k := 7) dc_M_clearText_7 lp_M_76 hm.1 rfl ?_
  rw [up_c (by decide)]
  refine gg_ildn dc_M_clearText_10 rfl rfl ?_
  exact gg_iret dc_M_clearText_11 rfl ⟨Nat.le_of_ble_eq_true rfl, Nat.le_of_ble_eq_true rfl⟩ (⟨rfl, rfl⟩)
