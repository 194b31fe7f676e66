def us_I (x k : Int32) : Int32 := (x.toUInt32 >>> (k.toUInt32 &&& Int32.toUInt32 31)).toInt32
def b1_I (x : Int32) : Int32 := x - (us_I x 1 &&& 1431655765)
def b2_I (x : Int32) : Int32 := (x &&& 858993459) + (us_I x 2 &&& 858993459)
def b3_I (x : Int32) : Int32 := (x + us_I x 4) &&& 252645135
def b4_I (x : Int32) : Int32 := x + us_I x 8
def b5_I (x : Int32) : Int32 := x + us_I x 16
def bc_I (x : Int32) : Int32 := b5_I (b4_I (b3_I (b2_I (b1_I x)))) &&& 63
def le_C (j : Nat) : Int32 := match j with
  | 0 => 1
  | 1 => 0
  | 2 => 1
  | _ => 0
def gr_C (j : Nat) : Int32 := match j with
  | 0 => 16
  | 1 => 200
  | 2 => 1000
  | 3 => 100
  | _ => 50
def st_P (Γ : cx_T) (τ : Nat × (Nat → sh_T)) (ν : Nat → Nat → Int32) : Prop := τ.2 (cx_aL Γ) = .inl (2, 6) ∧ τ.2 (cx_aG Γ) = .inl (2, 6) ∧ (∀ j : Nat, j < 6 → ν (cx_aL Γ) j = le_C j) ∧ ∀ j : Nat, j < 6 → ν (cx_aG Γ) j = gr_C j
def nv_I (i x : Int32) : Int32 := if i < 0 ∨ 6 ≤ i then 0 else if x < le_C i.toNatClampNeg ∨ gr_C i.toNatClampNeg < x then 0 else if ¬ i = 0 then 1 else if bc_I x = 1 then 1 else 0
theorem at_rg {g h : Nat → Int32} {i : Int32} (h1 : ¬ i < 0) (h2 : ¬ 6 ≤ i) (hg : ∀ j : Nat, j < 6 → g j = h j) : at_I g 6 i = h i.toNatClampNeg := by
  have hv : vp_in i 6 := vi_1 h1 (n := 6) h2 (by omega)
  have hlt : i.toNatClampNeg < 6 := Nat.not_le.mp fun q => hv (Or.inr q)
  unfold at_I
  rw [if_neg (fun h => h.elim h1 h2), hg _ hlt]
def rd_N (S : Nat → Int32) (k : Nat) : Int32 := match k with
  | 12 => to_S S (S 2)
  | 13 => lo_S S (S 8)
  | 14 => if ¬ S 18 = 0 ∧ ¬ S 8 < S 19 ∧ ¬ S 20 < S 8 then 1 else 0
  | 15 => S 21
  | 16 => S 42
  | 17 => S 63
  | k => S k
theorem rd_lt {S : Nat → Int32} {k : Nat} (h : k < 6) : rd_N S k = S k := by
  rcases (show k = 0 ∨ k = 1 ∨ k = 2 ∨ k = 3 ∨ k = 4 ∨ k = 5 by omega) with rfl | rfl | rfl | rfl | rfl | rfl <;> rfl
set_option maxRecDepth 100000 in
set_option maxHeartbeats 4000000 in
theorem sp_J_bitCount {Γ : cx_T} {τ : Nat × (Nat → sh_T)} {ν : Nat → Nat → Int32} {x : Int32} : mt_P Γ mk_J_bitCount [.int x] (τ, ν) (fun v μ' => v = some (.int (bc_I x)) ∧ μ' = (τ, ν)) := by
  refine mt_of (L := [some (.int x)]) (by decide +kernel) (by simp [Value.category]) (Nat.le_of_ble_eq_true rfl) (lc_1_1 ()) ?_
  refine gg_ildn dc_J_bitCount_0 rfl rfl ?_
  refine gg_ildn dc_J_bitCount_1 rfl rfl ?_
  refine gg_iconst (v := 1) dc_J_bitCount_2 (by decide) ?_
  refine gg_iushr dc_J_bitCount_3 ?_
  refine gg_ldcw dc_J_bitCount_4 lk_J_265 ?_
  refine gg_iand dc_J_bitCount_7 ?_
  refine gg_isub dc_J_bitCount_8 ?_
  refine gg_istn (i := 0) dc_J_bitCount_9 rfl (Nat.le_of_ble_eq_true rfl) rfl ?_
  dsimp only [List.set]
  refine gg_ildn dc_J_bitCount_10 rfl rfl ?_
  refine gg_ldcw dc_J_bitCount_11 lk_J_266 ?_
  refine gg_iand dc_J_bitCount_14 ?_
  refine gg_ildn dc_J_bitCount_15 rfl rfl ?_
  refine gg_iconst (v := 2) dc_J_bitCount_16 (by decide) ?_
  refine gg_iushr dc_J_bitCount_17 ?_
  refine gg_ldcw dc_J_bitCount_18 lk_J_266 ?_
  refine gg_iand dc_J_bitCount_21 ?_
  refine gg_iadd dc_J_bitCount_22 ?_
  refine gg_istn (i := 0) dc_J_bitCount_23 rfl (Nat.le_of_ble_eq_true rfl) rfl ?_
  dsimp only [List.set]
  refine gg_ildn dc_J_bitCount_24 rfl rfl ?_
  refine gg_ildn dc_J_bitCount_25 rfl rfl ?_
  refine gg_iconst (v := 4) dc_J_bitCount_26 (by decide) ?_
  refine gg_iushr dc_J_bitCount_27 ?_
  refine gg_iadd dc_J_bitCount_28 ?_
  refine gg_ldcw dc_J_bitCount_29 lk_J_267 ?_
  refine gg_iand dc_J_bitCount_32 ?_
  refine gg_istn (i := 0) dc_J_bitCount_33 rfl (Nat.le_of_ble_eq_true rfl) rfl ?_
  dsimp only [List.set]
  refine gg_ildn dc_J_bitCount_34 rfl rfl ?_
  refine gg_ildn dc_J_bitCount_35 rfl rfl ?_
  refine gg_bipush (v := 8) dc_J_bitCount_36 (by decide) ?_
  refine gg_iushr dc_J_bitCount_38 ?_
  refine gg_iadd dc_J_bitCount_39 ?_
  refine gg_istn (i := 0) dc_J_bitCount_40 rfl (Nat.le_of_ble_eq_true rfl) rfl ?_
  dsimp only [List.set]
  refine gg_ildn dc_J_bitCount_41 rfl rfl ?_
  refine gg_ildn dc_J_bitCount_42 rfl rfl ?_
  refine gg_bipush (v := 16) dc_J_bitCount_43 (by decide) ?_
  refine gg_iushr dc_J_bitCount_45 ?_
  refine gg_iadd dc_J_bitCount_46 ?_
  refine gg_istn (i := 0) dc_J_bitCount_47 rfl (Nat.le_of_ble_eq_true rfl) rfl ?_
  dsimp only [List.set]
  refine gg_ildn dc_J_bitCount_48 rfl rfl ?_
  refine gg_bipush (v := 63) dc_J_bitCount_49 (by decide) ?_
  refine gg_iand dc_J_bitCount_51 ?_
  exact gg_iret dc_J_bitCount_52 rfl ⟨Nat.le_of_ble_eq_true rfl, Nat.le_of_ble_eq_true rfl⟩ (⟨rfl, rfl⟩)
set_option maxRecDepth 100000 in
set_option maxHeartbeats 4000000 in
theorem sp_A_isNumberInRange {Γ : cx_T} {τ : Nat × (Nat → sh_T)} {ν : Nat → Nat → Int32} {i x : Int32} (hs : st_P Γ τ ν) : mt_P Γ mk_A_isNumberInRange [.int i, .int x] (τ, ν) (fun v μ' => v = some (.int (nv_I i x)) ∧ μ' = (τ, ν)) := by
  refine mt_of (L := [some (.int i), some (.int x)]) (by decide +kernel) (by simp [Value.category]) (Nat.le_of_ble_eq_true rfl) (lc_2_2 ()) ?_
  refine gg_ildn dc_A_isNumberInRange_0 rfl rfl ?_
  refine gg_iflt dc_A_isNumberInRange_1 (fun c_1 => ?_) (fun c_1 => ?_)
  · refine gg_iconst (v := 0) dc_A_isNumberInRange_10 (by decide) ?_
    exact gg_zret dc_A_isNumberInRange_11 rfl (by first | exact Or.inl rfl | exact Or.inr rfl | assumption) ⟨Nat.le_of_ble_eq_true rfl, Nat.le_of_ble_eq_true rfl⟩ (⟨by unfold nv_I; rw [if_pos (Or.inl c_1)], rfl⟩)
  · refine gg_ildn dc_A_isNumberInRange_4 rfl rfl ?_
    refine gg_bipush (v := 6) dc_A_isNumberInRange_5 (by decide) ?_
    refine gg_iclt dc_A_isNumberInRange_7 (fun c_7 => ?_) (fun c_7 => ?_)
    · refine gg_ildn dc_A_isNumberInRange_12 rfl rfl ?_
      refine gg_gets dc_A_isNumberInRange_13 (Or.inl ⟨rfl, rfl⟩) fs_A_75 ?_
      refine gg_ildn dc_A_isNumberInRange_16 rfl rfl ?_
      refine gg_okS (sp_R_at2 hs.1 (by omega)) dc_A_isNumberInRange_17 ml_A_78 ce_R_at ⟨Nat.le_of_ble_eq_true rfl, Nat.le_of_ble_eq_true rfl⟩ rfl (Nat.le_of_ble_eq_true rfl) ⟨rfl, rfl⟩ ⟨Nat.le_of_ble_eq_true rfl, Nat.le_of_ble_eq_true rfl⟩ ?_
      refine gx_top (at_rg c_1 (Int32.not_le.mpr c_7) hs.2.2.1) ?_
      refine gg_iclt dc_A_isNumberInRange_20 (fun c_20 => ?_) (fun c_20 => ?_)
      · refine gg_iconst (v := 0) dc_A_isNumberInRange_34 (by decide) ?_
        exact gg_zret dc_A_isNumberInRange_35 rfl (by first | exact Or.inl rfl | exact Or.inr rfl | assumption) ⟨Nat.le_of_ble_eq_true rfl, Nat.le_of_ble_eq_true rfl⟩ (⟨by unfold nv_I; rw [if_neg (fun h => h.elim c_1 (Int32.not_le.mpr c_7)), if_pos (Or.inl c_20)], rfl⟩)
      · refine gg_ildn dc_A_isNumberInRange_23 rfl rfl ?_
        refine gg_gets dc_A_isNumberInRange_24 (Or.inr ⟨rfl, rfl⟩) fs_A_82 ?_
        refine gg_ildn dc_A_isNumberInRange_27 rfl rfl ?_
        refine gg_okS (sp_R_at2 hs.2.1 (by omega)) dc_A_isNumberInRange_28 ml_A_78 ce_R_at ⟨Nat.le_of_ble_eq_true rfl, Nat.le_of_ble_eq_true rfl⟩ rfl (Nat.le_of_ble_eq_true rfl) ⟨rfl, rfl⟩ ⟨Nat.le_of_ble_eq_true rfl, Nat.le_of_ble_eq_true rfl⟩ ?_
        refine gx_top (at_rg c_1 (Int32.not_le.mpr c_7) hs.2.2.2) ?_
        refine gg_icle dc_A_isNumberInRange_31 (fun c_31 => ?_) (fun c_31 => ?_)
        · refine gg_ildn dc_A_isNumberInRange_36 rfl rfl ?_
          refine gg_ifne dc_A_isNumberInRange_37 (fun c_37 => ?_) (fun c_37 => ?_)
          · refine gg_iconst (v := 1) dc_A_isNumberInRange_48 (by decide) ?_
            refine gg_goto dc_A_isNumberInRange_49 ?_
            exact gg_zret dc_A_isNumberInRange_53 rfl (by first | exact Or.inl rfl | exact Or.inr rfl | assumption) ⟨Nat.le_of_ble_eq_true rfl, Nat.le_of_ble_eq_true rfl⟩ (⟨by unfold nv_I; rw [if_neg (fun h => h.elim c_1 (Int32.not_le.mpr c_7)), if_neg (fun h => h.elim c_20 (Int32.not_lt.mpr c_31)), if_pos c_37], rfl⟩)
          · refine gg_ildn dc_A_isNumberInRange_40 rfl rfl ?_
            refine gg_okS (sp_J_bitCount) dc_A_isNumberInRange_41 ml_A_85 ce_J_bitCount ⟨Nat.le_of_ble_eq_true rfl, Nat.le_of_ble_eq_true rfl⟩ rfl (Nat.le_of_ble_eq_true rfl) ⟨rfl, rfl⟩ ⟨Nat.le_of_ble_eq_true rfl, Nat.le_of_ble_eq_true rfl⟩ ?_
            refine gg_iconst (v := 1) dc_A_isNumberInRange_44 (by decide) ?_
            refine gg_icne dc_A_isNumberInRange_45 (fun c_45 => ?_) (fun c_45 => ?_)
            · refine gg_iconst (v := 0) dc_A_isNumberInRange_52 (by decide) ?_
              exact gg_zret dc_A_isNumberInRange_53 rfl (by first | exact Or.inl rfl | exact Or.inr rfl | assumption) ⟨Nat.le_of_ble_eq_true rfl, Nat.le_of_ble_eq_true rfl⟩ (⟨by unfold nv_I; rw [if_neg (fun h => h.elim c_1 (Int32.not_le.mpr c_7)), if_neg (fun h => h.elim c_20 (Int32.not_lt.mpr c_31)), if_neg (not_not_intro c_37), if_neg c_45], rfl⟩)
            · refine gg_iconst (v := 1) dc_A_isNumberInRange_48 (by decide) ?_
              refine gg_goto dc_A_isNumberInRange_49 ?_
              exact gg_zret dc_A_isNumberInRange_53 rfl (by first | exact Or.inl rfl | exact Or.inr rfl | assumption) ⟨Nat.le_of_ble_eq_true rfl, Nat.le_of_ble_eq_true rfl⟩ (⟨by unfold nv_I; rw [if_neg (fun h => h.elim c_1 (Int32.not_le.mpr c_7)), if_neg (fun h => h.elim c_20 (Int32.not_lt.mpr c_31)), if_neg (not_not_intro c_37), if_pos c_45], rfl⟩)
        · refine gg_iconst (v := 0) dc_A_isNumberInRange_34 (by decide) ?_
          exact gg_zret dc_A_isNumberInRange_35 rfl (by first | exact Or.inl rfl | exact Or.inr rfl | assumption) ⟨Nat.le_of_ble_eq_true rfl, Nat.le_of_ble_eq_true rfl⟩ (⟨by unfold nv_I; rw [if_neg (fun h => h.elim c_1 (Int32.not_le.mpr c_7)), if_pos (Or.inr (Int32.not_le.mp c_31))], rfl⟩)
    · refine gg_iconst (v := 0) dc_A_isNumberInRange_10 (by decide) ?_
      exact gg_zret dc_A_isNumberInRange_11 rfl (by first | exact Or.inl rfl | exact Or.inr rfl | assumption) ⟨Nat.le_of_ble_eq_true rfl, Nat.le_of_ble_eq_true rfl⟩ (⟨by unfold nv_I; rw [if_pos (Or.inr (Int32.not_lt.mp c_7))], rfl⟩)
set_option maxRecDepth 100000 in
set_option maxHeartbeats 4000000 in
theorem sp_A_reading {Γ : cx_T} {τ : Nat × (Nat → sh_T)} {ν : Nat → Nat → Int32} {a : Nat} {S : Nat → Int32} (hx : sh_X τ.2 a) (hX : AX ν a S) {i : Int32} {k : Nat} (hi : i = nI k) (hk : k < 18) : mt_P Γ mk_A_reading [.ref a, .int i] (τ, ν) (fun v μ' => v = some (.int (rd_N S k)) ∧ μ' = (τ, ν)) := by
  refine mt_of (L := [some (.ref a), some (.int i)]) (by decide +kernel) (by simp [Value.category]) (Nat.le_of_ble_eq_true rfl) (lc_2_2 ()) ?_
  obtain ⟨x0, x1, x2, x3, x4, x5⟩ := id hx
  subst hi
  refine gg_ildn dc_A_reading_0 rfl rfl ?_
  refine gg_tab [64, 69, 74, 79, 84, 89, 94, 104, 113, 148, 156, 164] dc_A_reading_1 (fun i9 t9 hi9 ht9 => ?_) (fun hout => ?_)
  · match i9, ht9 with
    | 0, ht9 =>
      cases ht9
      rw [nI_toInt (by omega)] at hi9
      have hk9 : k = 6 + 0 := by omega
      subst hk9
      refine gg_aldn dc_A_reading_64 rfl rfl ?_
      refine gx_axi (k := 8) (s := 6) dc_A_reading_65 lf_A_57 x0 hX rfl ⟨Nat.le_of_ble_eq_true rfl, Nat.le_of_ble_eq_true rfl⟩ rfl ?_
      exact gg_iret dc_A_reading_68 rfl ⟨Nat.le_of_ble_eq_true rfl, Nat.le_of_ble_eq_true rfl⟩ (⟨rfl, rfl⟩)
    | 1, ht9 =>
      cases ht9
      rw [nI_toInt (by omega)] at hi9
      have hk9 : k = 6 + 1 := by omega
      subst hk9
      refine gg_aldn dc_A_reading_69 rfl rfl ?_
      refine gx_axi (k := 9) (s := 7) dc_A_reading_70 lf_A_60 x0 hX rfl ⟨Nat.le_of_ble_eq_true rfl, Nat.le_of_ble_eq_true rfl⟩ rfl ?_
      exact gg_iret dc_A_reading_73 rfl ⟨Nat.le_of_ble_eq_true rfl, Nat.le_of_ble_eq_true rfl⟩ (⟨rfl, rfl⟩)
    | 2, ht9 =>
      cases ht9
      rw [nI_toInt (by omega)] at hi9
      have hk9 : k = 6 + 2 := by omega
      subst hk9
      refine gg_aldn dc_A_reading_74 rfl rfl ?_
      refine gx_axi (k := 10) (s := 8) dc_A_reading_75 lf_A_63 x0 hX rfl ⟨Nat.le_of_ble_eq_true rfl, Nat.le_of_ble_eq_true rfl⟩ rfl ?_
      exact gg_iret dc_A_reading_78 rfl ⟨Nat.le_of_ble_eq_true rfl, Nat.le_of_ble_eq_true rfl⟩ (⟨rfl, rfl⟩)
    | 3, ht9 =>
      cases ht9
      rw [nI_toInt (by omega)] at hi9
      have hk9 : k = 6 + 3 := by omega
      subst hk9
      refine gg_aldn dc_A_reading_79 rfl rfl ?_
      refine gx_axi (k := 11) (s := 9) dc_A_reading_80 lf_A_66 x0 hX rfl ⟨Nat.le_of_ble_eq_true rfl, Nat.le_of_ble_eq_true rfl⟩ rfl ?_
      exact gg_iret dc_A_reading_83 rfl ⟨Nat.le_of_ble_eq_true rfl, Nat.le_of_ble_eq_true rfl⟩ (⟨rfl, rfl⟩)
    | 4, ht9 =>
      cases ht9
      rw [nI_toInt (by omega)] at hi9
      have hk9 : k = 6 + 4 := by omega
      subst hk9
      refine gg_aldn dc_A_reading_84 rfl rfl ?_
      refine gx_axi (k := 12) (s := 10) dc_A_reading_85 lf_A_69 x0 hX rfl ⟨Nat.le_of_ble_eq_true rfl, Nat.le_of_ble_eq_true rfl⟩ rfl ?_
      exact gg_iret dc_A_reading_88 rfl ⟨Nat.le_of_ble_eq_true rfl, Nat.le_of_ble_eq_true rfl⟩ (⟨rfl, rfl⟩)
    | 5, ht9 =>
      cases ht9
      rw [nI_toInt (by omega)] at hi9
      have hk9 : k = 6 + 5 := by omega
      subst hk9
      refine gg_aldn dc_A_reading_89 rfl rfl ?_
      refine gx_axi (k := 13) (s := 11) dc_A_reading_90 lf_A_72 x0 hX rfl ⟨Nat.le_of_ble_eq_true rfl, Nat.le_of_ble_eq_true rfl⟩ rfl ?_
      exact gg_iret dc_A_reading_93 rfl ⟨Nat.le_of_ble_eq_true rfl, Nat.le_of_ble_eq_true rfl⟩ (⟨rfl, rfl⟩)
    | 6, ht9 =>
      cases ht9
      rw [nI_toInt (by omega)] at hi9
      have hk9 : k = 6 + 6 := by omega
      subst hk9
      refine gg_aldn dc_A_reading_94 rfl rfl ?_
      refine gg_aldn dc_A_reading_95 rfl rfl ?_
      refine gg_iconst (v := 2) dc_A_reading_96 (by decide) ?_
      refine gg_okV (sp_A_number hx hX (k := 2) rfl (by omega)) dc_A_reading_97 ml_A_95 ce_A_number ⟨Nat.le_of_ble_eq_true rfl, Nat.le_of_ble_eq_true rfl⟩ x0 rfl rfl (Nat.le_of_ble_eq_true rfl) ⟨rfl, rfl⟩ ⟨Nat.le_of_ble_eq_true rfl, Nat.le_of_ble_eq_true rfl⟩ ?_
      refine gg_okV (sp_A_torqueAt hx hX) dc_A_reading_100 ml_A_98 ce_A_torqueAt ⟨Nat.le_of_ble_eq_true rfl, Nat.le_of_ble_eq_true rfl⟩ x0 rfl rfl (Nat.le_of_ble_eq_true rfl) ⟨rfl, rfl⟩ ⟨Nat.le_of_ble_eq_true rfl, Nat.le_of_ble_eq_true rfl⟩ ?_
      exact gg_iret dc_A_reading_103 rfl ⟨Nat.le_of_ble_eq_true rfl, Nat.le_of_ble_eq_true rfl⟩ (⟨rfl, rfl⟩)
    | 7, ht9 =>
      cases ht9
      rw [nI_toInt (by omega)] at hi9
      have hk9 : k = 6 + 7 := by omega
      subst hk9
      refine gg_aldn dc_A_reading_104 rfl rfl ?_
      refine gg_aldn dc_A_reading_105 rfl rfl ?_
      refine gx_axi (k := 10) (s := 8) dc_A_reading_106 lf_A_63 x0 hX rfl ⟨Nat.le_of_ble_eq_true rfl, Nat.le_of_ble_eq_true rfl⟩ rfl ?_
      refine gg_okV (sp_A_loadOn hx hX) dc_A_reading_109 ml_A_101 ce_A_loadOn ⟨Nat.le_of_ble_eq_true rfl, Nat.le_of_ble_eq_true rfl⟩ x0 rfl rfl (Nat.le_of_ble_eq_true rfl) ⟨rfl, rfl⟩ ⟨Nat.le_of_ble_eq_true rfl, Nat.le_of_ble_eq_true rfl⟩ ?_
      exact gg_iret dc_A_reading_112 rfl ⟨Nat.le_of_ble_eq_true rfl, Nat.le_of_ble_eq_true rfl⟩ (⟨rfl, rfl⟩)
    | 8, ht9 =>
      cases ht9
      rw [nI_toInt (by omega)] at hi9
      have hk9 : k = 6 + 8 := by omega
      subst hk9
      refine gg_aldn dc_A_reading_113 rfl rfl ?_
      refine gx_axi (k := 5) (s := 18) dc_A_reading_114 lf_A_46 x0 hX rfl ⟨Nat.le_of_ble_eq_true rfl, Nat.le_of_ble_eq_true rfl⟩ rfl ?_
      refine gg_ifeq dc_A_reading_117 (fun c_117 => ?_) (fun c_117 => ?_)
      · refine gg_iconst (v := 0) dc_A_reading_146 (by decide) ?_
        exact gg_iret dc_A_reading_147 rfl ⟨Nat.le_of_ble_eq_true rfl, Nat.le_of_ble_eq_true rfl⟩ (⟨by show _ = some (Value.int (if _ then _ else _)); rw [if_neg (fun h => h.1 c_117)], rfl⟩)
      · refine gg_aldn dc_A_reading_120 rfl rfl ?_
        refine gx_axi (k := 10) (s := 8) dc_A_reading_121 lf_A_63 x0 hX rfl ⟨Nat.le_of_ble_eq_true rfl, Nat.le_of_ble_eq_true rfl⟩ rfl ?_
        refine gg_aldn dc_A_reading_124 rfl rfl ?_
        refine gx_axi (k := 6) (s := 19) dc_A_reading_125 lf_A_50 x0 hX rfl ⟨Nat.le_of_ble_eq_true rfl, Nat.le_of_ble_eq_true rfl⟩ rfl ?_
        refine gg_iclt dc_A_reading_128 (fun c_128 => ?_) (fun c_128 => ?_)
        · refine gg_iconst (v := 0) dc_A_reading_146 (by decide) ?_
          exact gg_iret dc_A_reading_147 rfl ⟨Nat.le_of_ble_eq_true rfl, Nat.le_of_ble_eq_true rfl⟩ (⟨by show _ = some (Value.int (if _ then _ else _)); rw [if_neg (fun h => h.2.1 c_128)], rfl⟩)
        · refine gg_aldn dc_A_reading_131 rfl rfl ?_
          refine gx_axi (k := 10) (s := 8) dc_A_reading_132 lf_A_63 x0 hX rfl ⟨Nat.le_of_ble_eq_true rfl, Nat.le_of_ble_eq_true rfl⟩ rfl ?_
          refine gg_aldn dc_A_reading_135 rfl rfl ?_
          refine gx_axi (k := 7) (s := 20) dc_A_reading_136 lf_A_54 x0 hX rfl ⟨Nat.le_of_ble_eq_true rfl, Nat.le_of_ble_eq_true rfl⟩ rfl ?_
          refine gg_icgt dc_A_reading_139 (fun c_139 => ?_) (fun c_139 => ?_)
          · refine gg_iconst (v := 0) dc_A_reading_146 (by decide) ?_
            exact gg_iret dc_A_reading_147 rfl ⟨Nat.le_of_ble_eq_true rfl, Nat.le_of_ble_eq_true rfl⟩ (⟨by show _ = some (Value.int (if _ then _ else _)); rw [if_neg (fun h => h.2.2 c_139)], rfl⟩)
          · refine gg_iconst (v := 1) dc_A_reading_142 (by decide) ?_
            refine gg_goto dc_A_reading_143 ?_
            exact gg_iret dc_A_reading_147 rfl ⟨Nat.le_of_ble_eq_true rfl, Nat.le_of_ble_eq_true rfl⟩ (⟨by show _ = some (Value.int (if _ then _ else _)); rw [if_pos ⟨c_117, c_128, c_139⟩], rfl⟩)
    | 9, ht9 =>
      cases ht9
      rw [nI_toInt (by omega)] at hi9
      have hk9 : k = 6 + 9 := by omega
      subst hk9
      refine gg_aldn dc_A_reading_148 rfl rfl ?_
      refine gg_getr dc_A_reading_149 lf_A_21 x0 rfl ?_
      refine gx_geti dc_A_reading_152 lf_A_104 x3.1 rfl ?_
      exact gg_iret dc_A_reading_155 rfl ⟨Nat.le_of_ble_eq_true rfl, Nat.le_of_ble_eq_true rfl⟩ (⟨by rw [(hX.2.2.2.2.1.n (by omega)).2.1, ← (hX.2.2.2.2.1.n (by omega)).2.2.1]; rfl, rfl⟩)
    | 10, ht9 =>
      cases ht9
      rw [nI_toInt (by omega)] at hi9
      have hk9 : k = 6 + 10 := by omega
      subst hk9
      refine gg_aldn dc_A_reading_156 rfl rfl ?_
      refine gg_getr dc_A_reading_157 lf_A_25 x0 rfl ?_
      refine gx_geti dc_A_reading_160 lf_A_104 x4.1 rfl ?_
      exact gg_iret dc_A_reading_163 rfl ⟨Nat.le_of_ble_eq_true rfl, Nat.le_of_ble_eq_true rfl⟩ (⟨by rw [(hX.2.2.2.2.2.1.n (by omega)).2.1, ← (hX.2.2.2.2.2.1.n (by omega)).2.2.1]; rfl, rfl⟩)
    | 11, ht9 =>
      cases ht9
      rw [nI_toInt (by omega)] at hi9
      have hk9 : k = 6 + 11 := by omega
      subst hk9
      refine gg_aldn dc_A_reading_164 rfl rfl ?_
      refine gg_getr dc_A_reading_165 lf_A_31 x0 rfl ?_
      refine gx_geti dc_A_reading_168 lf_A_107 x5.1 rfl ?_
      exact gg_iret dc_A_reading_171 rfl ⟨Nat.le_of_ble_eq_true rfl, Nat.le_of_ble_eq_true rfl⟩ (⟨by rw [(hX.2.2.2.2.2.2.n (by omega)).2.1, ← (hX.2.2.2.2.2.2.n (by omega)).2.2.1]; rfl, rfl⟩)
    | n9 + 12, ht9 => exact absurd ht9 (by simp)
  · rw [nI_toInt (by omega)] at hout
    rw [rd_lt (by omega)]
    refine gg_aldn dc_A_reading_172 rfl rfl ?_
    refine gg_ildn dc_A_reading_173 rfl rfl ?_
    refine gg_okV (sp_A_number hx hX rfl (by omega)) dc_A_reading_174 ml_A_95 ce_A_number ⟨Nat.le_of_ble_eq_true rfl, Nat.le_of_ble_eq_true rfl⟩ x0 rfl rfl (Nat.le_of_ble_eq_true rfl) ⟨rfl, rfl⟩ ⟨Nat.le_of_ble_eq_true rfl, Nat.le_of_ble_eq_true rfl⟩ ?_
    exact gg_iret dc_A_reading_177 rfl ⟨Nat.le_of_ble_eq_true rfl, Nat.le_of_ble_eq_true rfl⟩ (⟨rfl, rfl⟩)
def cf_B (k p j : Nat) : Bool := (p == 1 && j < 6 && 0 < k) || (p == 2 && j < 6 && 1 < k) || (p == 3 && j == 2 && 2 < k) || ((p == 4 || p == 5) && j < 10 && 2 < k) || (p == 6 && j == 2 && 3 < k) || ((p == 7 || p == 8) && j < 10 && 3 < k) || (p == 9 && j == 2 && 4 < k) || ((p == 10 || p == 11) && j < 8 && 4 < k) || (p == 0 && 5 ≤ j && j < 14 && j < k)
def cf_P (ν0 ν : Nat → Nat → Int32) (a b : Nat) (k : Nat) : Prop := (∀ c : Nat, (c < a ∨ a + 12 ≤ c) → ν c = ν0 c) ∧ ∀ o : Nat, o < 12 → ∀ j : Nat, j < 14 → cf_B k o j = true → ν (a + o) j = ν0 (b + o) j
def cf_ck (q : Nat → Nat → Bool) : Bool := (List.range 12).all fun p => (List.range 14).all fun j => q p j
theorem cf_ok {q : Nat → Nat → Bool} (h : cf_ck q = true) (p : Nat) (hp : p < 12) (j : Nat) (hj : j < 14) : q p j = true := List.all_eq_true.mp (List.all_eq_true.mp h p (List.mem_range.mpr hp)) j (List.mem_range.mpr hj)
theorem cf_0 {ν ν0 : Nat → Nat → Int32} {a b : Nat} : ∀ o : Nat, o < 12 → ∀ j : Nat, j < 14 → cf_B 0 o j = true → ν (a + o) j = ν0 (b + o) j := by
  have key : cf_ck (fun o j => !cf_B 0 o j) = true := by decide +kernel
  exact fun o ho j hj h => by have := cf_ok key o ho j hj; simp [h] at this
theorem cf_row {ν0 ν : Nat → Nat → Int32} {a b o n k : Nat} (h : cf_P ν0 ν a b k) (hd : b + 12 ≤ a ∨ a + 12 ≤ b) (ho : o < 12) (hB : cf_ck (fun p j => !cf_B (k + 1) p j || (p == o && j < n) || (p != o && cf_B k p j)) = true) : cf_P ν0 (va_up ν (a + o) (va_cpy (ν (b + o)) (ν (a + o)) 0 0 n)) a b (k + 1) := by
  refine ⟨fun c hc => ?_, fun p hp j hj hD => ?_⟩
  · rw [va_up_ne _ _ (by omega)]; exact h.1 c hc
  · have hB := cf_ok hB p hp j hj
    have hB : (p = o ∧ j < n) ∨ (p ≠ o ∧ cf_B k p j = true) := by simpa [hD] using hB
    rcases hB with ⟨rfl, hj⟩ | ⟨hp9, hD⟩
    · rw [va_up_self, cp_va]
      unfold cp_N
      rw [if_pos hj, h.1 _ (by omega)]
    · rw [va_up_ne _ _ (by omega)]; exact h.2 p hp j hj hD
theorem cf_pt {ν0 ν : Nat → Nat → Int32} {a b o n k : Nat} (h : cf_P ν0 ν a b k) (hd : b + 12 ≤ a ∨ a + 12 ≤ b) (ho : o < 10) (hB : cf_ck (fun p j => !cf_B (k + 1) p j || (p == o && j == 2) || (p == o + 1 && j < n) || (p == o + 2 && j < n) || (p != o && p != o + 1 && p != o + 2 && cf_B k p j)) = true) : cf_P ν0 (pt_set ν (a + o) (ν (b + o) 2) (cp_N (ν (b + o + 1)) (ν (a + o + 1)) n) (cp_N (ν (b + o + 2)) (ν (a + o + 2)) n)) a b (k + 1) := by
  refine ⟨fun c hc => ?_, fun p hp j hj hD => ?_⟩
  · rw [pt_o (by omega) (by omega) (by omega)]; exact h.1 c hc
  · have hB := cf_ok hB p hp j hj
    have hB : (p = o ∧ j = 2) ∨ (p = o + 1 ∧ j < n) ∨ (p = o + 2 ∧ j < n) ∨ (p ≠ o ∧ p ≠ o + 1 ∧ p ≠ o + 2 ∧ cf_B k p j = true) := by simpa [hD, and_assoc, or_assoc] using hB
    rcases hB with ⟨rfl, rfl⟩ | ⟨rfl, hj⟩ | ⟨rfl, hj⟩ | ⟨h0, h1, h2, hD⟩
    · rw [pt_s, h.1 _ (by omega)]
    · rw [show a + (o + 1) = a + o + 1 by omega, pt_P]
      unfold cp_N
      rw [if_pos hj, h.1 _ (by omega)]
      rfl
    · rw [show a + (o + 2) = a + o + 2 by omega, pt_V]
      unfold cp_N
      rw [if_pos hj, h.1 _ (by omega)]
      rfl
    · rw [pt_o (by omega) (by omega) (by omega)]; exact h.2 p hp j hj hD
theorem cf_sc {ν0 ν : Nat → Nat → Int32} {a b i k : Nat} (h : cf_P ν0 ν a b k) (hd : b + 12 ≤ a ∨ a + 12 ≤ b) (hB : cf_ck (fun p j => !cf_B (k + 1) p j || (p == 0 && j == i) || ((p != 0 || j != i) && cf_B k p j)) = true) : cf_P ν0 (up_2 ν a i (ν b i)) a b (k + 1) := by
  refine ⟨fun c hc => ?_, fun p hp j hj hD => ?_⟩
  · rw [u2_ne (by omega)]; exact h.1 c hc
  · have hB := cf_ok hB p hp j hj
    have hB : (p = 0 ∧ j = i) ∨ ((p ≠ 0 ∨ j ≠ i) ∧ cf_B k p j = true) := by simpa [hD] using hB
    rcases hB with ⟨rfl, rfl⟩ | ⟨h0, hD⟩
    · show up_2 ν a j (ν b j) a j = ν0 b j
      rw [u2_eq, ud_eq, h.1 _ (by omega)]
    · rw [← h.2 p hp j hj hD]
      unfold up_2
      rw [if_neg (by omega)]
theorem cf_AX {ν0 ν : Nat → Nat → Int32} {a b : Nat} {T : Nat → Int32} (h : cf_P ν0 ν a b 14) (hX : AX ν0 b T) : AX ν a T := by
  obtain ⟨g1, g2, g3, g4, g5, g6, g7⟩ := hX
  have hb : ∀ o j : Nat, o < 12 → j < 14 → ((o = 0 ∧ 5 ≤ j) ∨ ((o = 1 ∨ o = 2) ∧ j < 6) ∨ ((o = 3 ∨ o = 6 ∨ o = 9) ∧ j = 2) ∨ ((o = 4 ∨ o = 5 ∨ o = 7 ∨ o = 8) ∧ j < 10) ∨ ((o = 10 ∨ o = 11) ∧ j < 8)) → ν (a + o) j = ν0 (b + o) j := by
    have key : cf_ck (fun o j => !((o == 0 && 5 ≤ j) || ((o == 1 || o == 2) && j < 6) || ((o == 3 || o == 6 || o == 9) && j == 2) || ((o == 4 || o == 5 || o == 7 || o == 8) && j < 10) || ((o == 10 || o == 11) && j < 8)) || cf_B 14 o j) = true := by decide +kernel
    intro o j ho hj hc
    refine h.2 o ho j hj ?_
    have k9 := cf_ok key o ho j hj
    rw [Bool.or_eq_true] at k9
    refine k9.resolve_left ?_
    rcases hc with ⟨h1, h2⟩ | ⟨h1 | h1, h2⟩ | ⟨h1 | h1 | h1, h2⟩ | ⟨h1 | h1 | h1 | h1, h2⟩ | ⟨h1 | h1, h2⟩ <;> subst h1 <;> simp [h2]
  have pr : ∀ (o m N : Nat), (o = 3 ∧ N = 10 ∨ o = 6 ∧ N = 10 ∨ o = 9 ∧ N = 8) → PR ν0 (b + o) T m N → PR ν (a + o) T m N := by
    rintro o m N ho ⟨n, q1, q2, q3, q4⟩
    refine ⟨n, q1, ?_, q3, fun i hi => ?_⟩
    · rw [hb o 2 (by omega) (by omega) (by omega)]; exact q2
    · rw [show a + o + 1 = a + (o + 1) by omega, show a + o + 2 = a + (o + 2) by omega, hb (o + 1) i (by omega) (by omega) (by omega), hb (o + 2) i (by omega) (by omega) (by omega)]
      exact q4 i hi
  refine ⟨fun j hj => ?_, fun j hj => ?_, fun j hj hj' => ?_, g4, pr 3 21 10 (by omega) g5, pr 6 42 10 (by omega) g6, pr 9 63 8 (by omega) g7⟩
  · rw [hb 1 j (by omega) (by omega) (by omega)]; exact g1 j hj
  · rw [hb 2 j (by omega) (by omega) (by omega)]; exact g2 j hj
  · have := hb 0 j (by omega) (by omega) (by omega)
    rw [show ν a j = ν0 b j from this]; exact g3 j hj hj'
set_option maxRecDepth 100000 in
set_option maxHeartbeats 4000000 in
theorem sp_A_copyFrom {Γ : cx_T} {τ : Nat × (Nat → sh_T)} {ν : Nat → Nat → Int32} {a b : Nat} {S : Nat → Int32} (hx : sh_X τ.2 a) (hy : sh_X τ.2 b) (hX : AX ν b S) (hd : b + 12 ≤ a ∨ a + 12 ≤ b) : mt_P Γ mk_A_copyFrom [.ref a, .ref b] (τ, ν) (ax_Q τ ν a none S) := by
  refine mt_of (L := [some (.ref a), some (.ref b)]) (by decide +kernel) (by simp [Value.category]) (Nat.le_of_ble_eq_true rfl) (lc_2_2 ()) ?_
  obtain ⟨x0, x1, x2, x3, x4, x5⟩ := id hx
  obtain ⟨y0, y1, y2, y3, y4, y5⟩ := id hy
  have hC : cf_P ν ν a b 0 := ⟨fun _ _ => rfl, cf_0⟩
  unfold ax_Q
  refine gg_aldn dc_A_copyFrom_0 rfl rfl ?_
  refine gg_getr dc_A_copyFrom_1 lf_A_9 y0 rfl ?_
  refine gg_aldn dc_A_copyFrom_4 rfl rfl ?_
  refine gg_getr dc_A_copyFrom_5 lf_A_9 x0 rfl ?_
  refine gg_okSv (sp_R_copy y1 x1 (by omega)) dc_A_copyFrom_8 ml_A_35 ce_R_copy ⟨Nat.le_of_ble_eq_true rfl, Nat.le_of_ble_eq_true rfl⟩ rfl (Nat.le_of_ble_eq_true rfl) ⟨rfl, rfl⟩ ⟨Nat.le_of_ble_eq_true rfl, Nat.le_of_ble_eq_true rfl⟩ ?_
  replace hC := cf_row (o := 1) (n := 6) (k := 0) hC hd (by omega) (by decide +kernel)
  generalize va_up ν (a + 1) (va_cpy (ν (b + 1)) (ν (a + 1)) 0 0 6) = ν at hC ⊢
  refine gg_aldn dc_A_copyFrom_11 rfl rfl ?_
  refine gg_getr dc_A_copyFrom_12 lf_A_15 y0 rfl ?_
  refine gg_aldn dc_A_copyFrom_15 rfl rfl ?_
  refine gg_getr dc_A_copyFrom_16 lf_A_15 x0 rfl ?_
  refine gg_okSv (sp_R_copy y2 x2 (by omega)) dc_A_copyFrom_19 ml_A_35 ce_R_copy ⟨Nat.le_of_ble_eq_true rfl, Nat.le_of_ble_eq_true rfl⟩ rfl (Nat.le_of_ble_eq_true rfl) ⟨rfl, rfl⟩ ⟨Nat.le_of_ble_eq_true rfl, Nat.le_of_ble_eq_true rfl⟩ ?_
  replace hC := cf_row (o := 2) (n := 6) (k := 1) hC hd (by omega) (by decide +kernel)
  generalize va_up ν (a + 2) (va_cpy (ν (b + 2)) (ν (a + 2)) 0 0 6) = ν at hC ⊢
  refine gg_aldn dc_A_copyFrom_22 rfl rfl ?_
  refine gg_getr dc_A_copyFrom_23 lf_A_21 x0 rfl ?_
  refine gg_aldn dc_A_copyFrom_26 rfl rfl ?_
  refine gg_getr dc_A_copyFrom_27 lf_A_21 y0 rfl ?_
  refine gg_okUv (sp_P_copyFrom x3 y3 (by omega)) dc_A_copyFrom_30 ml_A_41 ce_Q_copyFrom_P ⟨Nat.le_of_ble_eq_true rfl, Nat.le_of_ble_eq_true rfl⟩ x3.1 rfl rfl (Nat.le_of_ble_eq_true rfl) ⟨rfl, rfl⟩ ⟨Nat.le_of_ble_eq_true rfl, Nat.le_of_ble_eq_true rfl⟩ ?_
  replace hC := cf_pt (o := 3) (n := 10) (k := 2) hC hd (by omega) (by decide +kernel)
  generalize pt_set ν (a + 3) (ν (b + 3) 2) (cp_N (ν (b + 3 + 1)) (ν (a + 3 + 1)) 10) (cp_N (ν (b + 3 + 2)) (ν (a + 3 + 2)) 10) = ν at hC ⊢
  refine gg_aldn dc_A_copyFrom_33 rfl rfl ?_
  refine gg_getr dc_A_copyFrom_34 lf_A_25 x0 rfl ?_
  refine gg_aldn dc_A_copyFrom_37 rfl rfl ?_
  refine gg_getr dc_A_copyFrom_38 lf_A_25 y0 rfl ?_
  refine gg_okUv (sp_P_copyFrom x4 y4 (by omega)) dc_A_copyFrom_41 ml_A_41 ce_Q_copyFrom_P ⟨Nat.le_of_ble_eq_true rfl, Nat.le_of_ble_eq_true rfl⟩ x4.1 rfl rfl (Nat.le_of_ble_eq_true rfl) ⟨rfl, rfl⟩ ⟨Nat.le_of_ble_eq_true rfl, Nat.le_of_ble_eq_true rfl⟩ ?_
  replace hC := cf_pt (o := 6) (n := 10) (k := 3) hC hd (by omega) (by decide +kernel)
  generalize pt_set ν (a + 6) (ν (b + 6) 2) (cp_N (ν (b + 6 + 1)) (ν (a + 6 + 1)) 10) (cp_N (ν (b + 6 + 2)) (ν (a + 6 + 2)) 10) = ν at hC ⊢
  refine gg_aldn dc_A_copyFrom_44 rfl rfl ?_
  refine gg_getr dc_A_copyFrom_45 lf_A_31 x0 rfl ?_
  refine gg_aldn dc_A_copyFrom_48 rfl rfl ?_
  refine gg_getr dc_A_copyFrom_49 lf_A_31 y0 rfl ?_
  refine gg_okUv (sp_C_copyFrom x5 y5 (by omega)) dc_A_copyFrom_52 ml_A_45 ce_Q_copyFrom_C ⟨Nat.le_of_ble_eq_true rfl, Nat.le_of_ble_eq_true rfl⟩ x5.1 rfl rfl (Nat.le_of_ble_eq_true rfl) ⟨rfl, rfl⟩ ⟨Nat.le_of_ble_eq_true rfl, Nat.le_of_ble_eq_true rfl⟩ ?_
  replace hC := cf_pt (o := 9) (n := 8) (k := 4) hC hd (by omega) (by decide +kernel)
  generalize pt_set ν (a + 9) (ν (b + 9) 2) (cp_N (ν (b + 9 + 1)) (ν (a + 9 + 1)) 8) (cp_N (ν (b + 9 + 2)) (ν (a + 9 + 2)) 8) = ν at hC ⊢
  refine gg_aldn dc_A_copyFrom_55 rfl rfl ?_
  refine gg_aldn dc_A_copyFrom_56 rfl rfl ?_
  refine gx_geti dc_A_copyFrom_57 lf_A_46 y0 rfl ?_
  refine gg_putz dc_A_copyFrom_60 lp_A_46 x0 rfl (by rw [hC.1 b (by omega), hX.2.2.1 5 (by omega) (by omega)]; exact hX.2.2.2.1) ?_
  replace hC := cf_sc (i := 5) (k := 5) hC hd (by decide +kernel)
  generalize up_2 ν a 5 (ν b 5) = ν at hC ⊢
  refine gg_aldn dc_A_copyFrom_63 rfl rfl ?_
  refine gg_aldn dc_A_copyFrom_64 rfl rfl ?_
  refine gx_geti dc_A_copyFrom_65 lf_A_50 y0 rfl ?_
  refine gg_puti dc_A_copyFrom_68 lp_A_50 x0 rfl ?_
  replace hC := cf_sc (i := 6) (k := 6) hC hd (by decide +kernel)
  generalize up_2 ν a 6 (ν b 6) = ν at hC ⊢
  refine gg_aldn dc_A_copyFrom_71 rfl rfl ?_
  refine gg_aldn dc_A_copyFrom_72 rfl rfl ?_
  refine gx_geti dc_A_copyFrom_73 lf_A_54 y0 rfl ?_
  refine gg_puti dc_A_copyFrom_76 lp_A_54 x0 rfl ?_
  replace hC := cf_sc (i := 7) (k := 7) hC hd (by decide +kernel)
  generalize up_2 ν a 7 (ν b 7) = ν at hC ⊢
  refine gg_aldn dc_A_copyFrom_79 rfl rfl ?_
  refine gg_aldn dc_A_copyFrom_80 rfl rfl ?_
  refine gx_geti dc_A_copyFrom_81 lf_A_57 y0 rfl ?_
  refine gg_puti dc_A_copyFrom_84 lp_A_57 x0 rfl ?_
  replace hC := cf_sc (i := 8) (k := 8) hC hd (by decide +kernel)
  generalize up_2 ν a 8 (ν b 8) = ν at hC ⊢
  refine gg_aldn dc_A_copyFrom_87 rfl rfl ?_
  refine gg_aldn dc_A_copyFrom_88 rfl rfl ?_
  refine gx_geti dc_A_copyFrom_89 lf_A_60 y0 rfl ?_
  refine gg_puti dc_A_copyFrom_92 lp_A_60 x0 rfl ?_
  replace hC := cf_sc (i := 9) (k := 9) hC hd (by decide +kernel)
  generalize up_2 ν a 9 (ν b 9) = ν at hC ⊢
  refine gg_aldn dc_A_copyFrom_95 rfl rfl ?_
  refine gg_aldn dc_A_copyFrom_96 rfl rfl ?_
  refine gx_geti dc_A_copyFrom_97 lf_A_63 y0 rfl ?_
  refine gg_puti dc_A_copyFrom_100 lp_A_63 x0 rfl ?_
  replace hC := cf_sc (i := 10) (k := 10) hC hd (by decide +kernel)
  generalize up_2 ν a 10 (ν b 10) = ν at hC ⊢
  refine gg_aldn dc_A_copyFrom_103 rfl rfl ?_
  refine gg_aldn dc_A_copyFrom_104 rfl rfl ?_
  refine gx_geti dc_A_copyFrom_105 lf_A_66 y0 rfl ?_
  refine gg_puti dc_A_copyFrom_108 lp_A_66 x0 rfl ?_
  replace hC := cf_sc (i := 11) (k := 11) hC hd (by decide +kernel)
  generalize up_2 ν a 11 (ν b 11) = ν at hC ⊢
  refine gg_aldn dc_A_copyFrom_111 rfl rfl ?_
  refine gg_aldn dc_A_copyFrom_112 rfl rfl ?_
  refine gx_geti dc_A_copyFrom_113 lf_A_69 y0 rfl ?_
  refine gg_puti dc_A_copyFrom_116 lp_A_69 x0 rfl ?_
  replace hC := cf_sc (i := 12) (k := 12) hC hd (by decide +kernel)
  generalize up_2 ν a 12 (ν b 12) = ν at hC ⊢
  refine gg_aldn dc_A_copyFrom_119 rfl rfl ?_
  refine gg_aldn dc_A_copyFrom_120 rfl rfl ?_
  refine gx_geti dc_A_copyFrom_121 lf_A_72 y0 rfl ?_
  refine gg_puti dc_A_copyFrom_124 lp_A_72 x0 rfl ?_
  replace hC := cf_sc (i := 13) (k := 13) hC hd (by decide +kernel)
  generalize up_2 ν a 13 (ν b 13) = ν at hC ⊢
  exact gg_vret dc_A_copyFrom_127 rfl ⟨Nat.le_of_ble_eq_true rfl, Nat.le_of_ble_eq_true rfl⟩ (⟨ν, rfl, rfl, cf_AX hC hX, fun c hc => hC.1 c (by omega)⟩)
