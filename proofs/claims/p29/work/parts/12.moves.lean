def al_S (S : Nat → Int32) (d : Int32) : Int32 := if sl_S S = 1 then 1000000000 else if S 0 ≤ 0 ∨ ¬ S 9 = 0 ∨ S 8 < S 7 - S 4 ∨ S 7 < S 8 then 1 else (if d ≤ 0 then S 7 - pk_I (ut_N (ls_P S 21) (S 8) (ls_n S 21) 0) (ls_P S 21) (-1000000000) else pa_I S 21 (S 8) - 1 - (S 7 - S 4)) / S 0 + 1
def tk_S (S : Nat → Int32) (d left : Int32) : Int32 := mn_I left (mx_I 1 (al_S S d))
def tl_S : Nat → (Nat → Int32) → Int32 → Int32 → Int32 → (Nat → Int32) × Int32
  | 0, S, _, _, h => (S, h)
  | f + 1, S, d, left, h => if left ≤ 0 then (S, h) else tl_S f (mm_S S d (tk_S S d left)) d (left - tk_S S d left) (mx_I h (lo_S S (S 8)))
def st_S (S : Nat → Int32) (x : Int32) : Int32 := if 0 < S 0 then (x - S 6) / S 0 else 0
def tv_S (S : Nat → Int32) (x : Int32) : (Nat → Int32) × Int32 := if ip_I (ai_S S x) = 0 then (S, 0) else tl_S (ab_I (st_S S (ai_S S x))).toNatClampNeg S (sg_I (st_S S (ai_S S x))) (ab_I (st_S S (ai_S S x))) 0
theorem cn_le {x : Int32} (h : x.toNatClampNeg ≤ 0) : x ≤ 0 := by
  rw [Int32.le_iff_toInt_le, Int32.toInt_zero]
  have : x.toInt.toNat ≤ 0 := h
  omega
theorem tk_in {x y : Int32} (h : ¬ x ≤ 0) : 1 ≤ (mn_I x (mx_I 1 y)).toInt ∧ (mn_I x (mx_I 1 y)).toInt ≤ x.toInt := by
  rw [Int32.le_iff_toInt_le, Int32.toInt_zero] at h
  have e1 : (1 : Int32).toInt = 1 := by decide
  have key : ∀ z : Int32, 1 ≤ z.toInt → 1 ≤ (mn_I x z).toInt ∧ (mn_I x z).toInt ≤ x.toInt := by
    intro z hz
    unfold mn_I
    by_cases c : z < x
    · rw [if_pos c]
      rw [Int32.lt_iff_toInt_lt] at c
      omega
    · rw [if_neg c]
      omega
  refine key _ ?_
  unfold mx_I
  by_cases c : 1 < y
  · rw [if_pos c]
    rw [Int32.lt_iff_toInt_lt] at c
    omega
  · rw [if_neg c]
    omega
theorem tk_dec {x y : Int32} (h : ¬ x ≤ 0) : (x - mn_I x (mx_I 1 y)).toNatClampNeg < x.toNatClampNeg := by
  obtain ⟨h1, h2⟩ := tk_in (y := y) h
  have hx := x.toInt_lt
  have e : (x - mn_I x (mx_I 1 y)).toInt = x.toInt - (mn_I x (mx_I 1 y)).toInt := by
    rw [Int32.toInt_sub]
    refine Int.bmod_eq_of_le ?_ ?_ <;> simp <;> omega
  show (x - mn_I x (mx_I 1 y)).toInt.toNat < x.toInt.toNat
  rw [e]
  omega
theorem lc_mid (l1 l2 : List (Option Value)) (o : Option Value) : ∀ (i : Nat) (v : Value), (l1 ++ none :: l2)[i]? = some (some v) → (l1 ++ o :: l2)[i]? = some (some v) := by
  intro i v h
  by_cases h1 : i < l1.length
  · rw [List.getElem?_append_left h1] at h ⊢; exact h
  · rw [List.getElem?_append_right (by omega)] at h ⊢
    by_cases h2 : i = l1.length
    · subst h2; simp at h
    · obtain ⟨k, hk⟩ : ∃ k, i - l1.length = k + 1 := ⟨i - l1.length - 1, by omega⟩
      rw [hk] at h ⊢
      simpa using h
set_option maxRecDepth 100000 in
set_option maxHeartbeats 4000000 in
theorem sp_A_microstepsAlike {Γ : cx_T} {τ : Nat × (Nat → sh_T)} {ν : Nat → Nat → Int32} {a : Nat} {S : Nat → Int32} (hx : sh_X τ.2 a) (hX : AX ν a S) {d : Int32} : mt_P Γ mk_A_microstepsAlike [.ref a, .int d] (τ, ν) (fun v μ' => v = some (.int (al_S S d)) ∧ μ' = (τ, ν)) := by
  refine mt_of (L := [some (.ref a), some (.int d), none, none, none]) (by decide +kernel) (by simp [Value.category]) (Nat.le_of_ble_eq_true rfl) (lc_2_5 ()) ?_
  obtain ⟨x0, x1, x2, x3, x4, x5⟩ := id hx
  refine gg_aldn dc_A_microstepsAlike_0 rfl rfl ?_
  refine gg_okV (sp_A_stalls hx hX) dc_A_microstepsAlike_1 ml_A_166 ce_A_stalls ⟨Nat.le_of_ble_eq_true rfl, Nat.le_of_ble_eq_true rfl⟩ x0 rfl rfl (Nat.le_of_ble_eq_true rfl) ⟨rfl, rfl⟩ ⟨Nat.le_of_ble_eq_true rfl, Nat.le_of_ble_eq_true rfl⟩ ?_
  refine gg_ifeq dc_A_microstepsAlike_4 (fun c_4 => ?_) (fun c_4 => ?_)
  · refine gg_aldn dc_A_microstepsAlike_10 rfl rfl ?_
    refine gg_iconst (v := 0) dc_A_microstepsAlike_11 (by decide) ?_
    refine gg_okV (sp_A_number hx hX (k := 0) rfl (by omega)) dc_A_microstepsAlike_12 ml_A_95 ce_A_number ⟨Nat.le_of_ble_eq_true rfl, Nat.le_of_ble_eq_true rfl⟩ x0 rfl rfl (Nat.le_of_ble_eq_true rfl) ⟨rfl, rfl⟩ ⟨Nat.le_of_ble_eq_true rfl, Nat.le_of_ble_eq_true rfl⟩ ?_
    refine gg_istn (i := 2) dc_A_microstepsAlike_15 rfl (Nat.le_of_ble_eq_true rfl) rfl ?_
    dsimp only [List.set]
    refine gg_aldn dc_A_microstepsAlike_16 rfl rfl ?_
    refine gx_axi (k := 9) (s := 7) dc_A_microstepsAlike_17 lf_A_60 x0 hX rfl ⟨Nat.le_of_ble_eq_true rfl, Nat.le_of_ble_eq_true rfl⟩ rfl ?_
    refine gg_aldn dc_A_microstepsAlike_20 rfl rfl ?_
    refine gg_iconst (v := 4) dc_A_microstepsAlike_21 (by decide) ?_
    refine gg_okV (sp_A_number hx hX (k := 4) rfl (by omega)) dc_A_microstepsAlike_22 ml_A_95 ce_A_number ⟨Nat.le_of_ble_eq_true rfl, Nat.le_of_ble_eq_true rfl⟩ x0 rfl rfl (Nat.le_of_ble_eq_true rfl) ⟨rfl, rfl⟩ ⟨Nat.le_of_ble_eq_true rfl, Nat.le_of_ble_eq_true rfl⟩ ?_
    refine gg_isub dc_A_microstepsAlike_25 ?_
    refine gg_istn (i := 3) dc_A_microstepsAlike_26 rfl (Nat.le_of_ble_eq_true rfl) rfl ?_
    dsimp only [List.set]
    refine gg_ildn dc_A_microstepsAlike_27 rfl rfl ?_
    refine gg_ifle dc_A_microstepsAlike_28 (fun c_28 => ?_) (fun c_28 => ?_)
    · refine gg_iconst (v := 1) dc_A_microstepsAlike_57 (by decide) ?_
      exact gg_iret dc_A_microstepsAlike_58 rfl ⟨Nat.le_of_ble_eq_true rfl, Nat.le_of_ble_eq_true rfl⟩ (⟨by unfold al_S; rw [if_neg (show ¬ sl_S S = 1 by rw [c_4]; decide)]; rw [if_pos (Or.inl c_28)], rfl⟩)
    · refine gg_aldn dc_A_microstepsAlike_31 rfl rfl ?_
      refine gx_axi (k := 11) (s := 9) dc_A_microstepsAlike_32 lf_A_66 x0 hX rfl ⟨Nat.le_of_ble_eq_true rfl, Nat.le_of_ble_eq_true rfl⟩ rfl ?_
      refine gg_ifne dc_A_microstepsAlike_35 (fun c_35 => ?_) (fun c_35 => ?_)
      · refine gg_iconst (v := 1) dc_A_microstepsAlike_57 (by decide) ?_
        exact gg_iret dc_A_microstepsAlike_58 rfl ⟨Nat.le_of_ble_eq_true rfl, Nat.le_of_ble_eq_true rfl⟩ (⟨by unfold al_S; rw [if_neg (show ¬ sl_S S = 1 by rw [c_4]; decide)]; rw [if_pos (Or.inr (Or.inl c_35))], rfl⟩)
      · refine gg_aldn dc_A_microstepsAlike_38 rfl rfl ?_
        refine gx_axi (k := 10) (s := 8) dc_A_microstepsAlike_39 lf_A_63 x0 hX rfl ⟨Nat.le_of_ble_eq_true rfl, Nat.le_of_ble_eq_true rfl⟩ rfl ?_
        refine gg_ildn dc_A_microstepsAlike_42 rfl rfl ?_
        refine gg_iclt dc_A_microstepsAlike_43 (fun c_43 => ?_) (fun c_43 => ?_)
        · refine gg_iconst (v := 1) dc_A_microstepsAlike_57 (by decide) ?_
          exact gg_iret dc_A_microstepsAlike_58 rfl ⟨Nat.le_of_ble_eq_true rfl, Nat.le_of_ble_eq_true rfl⟩ (⟨by unfold al_S; rw [if_neg (show ¬ sl_S S = 1 by rw [c_4]; decide)]; rw [if_pos (Or.inr (Or.inr (Or.inl c_43)))], rfl⟩)
        · refine gg_aldn dc_A_microstepsAlike_46 rfl rfl ?_
          refine gx_axi (k := 10) (s := 8) dc_A_microstepsAlike_47 lf_A_63 x0 hX rfl ⟨Nat.le_of_ble_eq_true rfl, Nat.le_of_ble_eq_true rfl⟩ rfl ?_
          refine gg_aldn dc_A_microstepsAlike_50 rfl rfl ?_
          refine gx_axi (k := 9) (s := 7) dc_A_microstepsAlike_51 lf_A_60 x0 hX rfl ⟨Nat.le_of_ble_eq_true rfl, Nat.le_of_ble_eq_true rfl⟩ rfl ?_
          refine gg_icle dc_A_microstepsAlike_54 (fun c_54 => ?_) (fun c_54 => ?_)
          · refine gg_ildn dc_A_microstepsAlike_59 rfl rfl ?_
            refine gg_ifle dc_A_microstepsAlike_60 (fun c_60 => ?_) (fun c_60 => ?_)
            · refine gg_aldn dc_A_microstepsAlike_81 rfl rfl ?_
              refine gx_axi (k := 9) (s := 7) dc_A_microstepsAlike_82 lf_A_60 x0 hX rfl ⟨Nat.le_of_ble_eq_true rfl, Nat.le_of_ble_eq_true rfl⟩ rfl ?_
              refine gg_aldn dc_A_microstepsAlike_85 rfl rfl ?_
              refine gg_getr dc_A_microstepsAlike_86 lf_A_21 x0 rfl ?_
              refine gg_aldn dc_A_microstepsAlike_89 rfl rfl ?_
              refine gx_axi (k := 10) (s := 8) dc_A_microstepsAlike_90 lf_A_63 x0 hX rfl ⟨Nat.le_of_ble_eq_true rfl, Nat.le_of_ble_eq_true rfl⟩ rfl ?_
              refine gg_okV (sp_P_puR x3 hX.2.2.2.2.1) dc_A_microstepsAlike_93 ml_A_177 ce_P_placeUpTo ⟨Nat.le_of_ble_eq_true rfl, Nat.le_of_ble_eq_true rfl⟩ x3.1 rfl rfl (Nat.le_of_ble_eq_true rfl) ⟨rfl, rfl⟩ ⟨Nat.le_of_ble_eq_true rfl, Nat.le_of_ble_eq_true rfl⟩ ?_
              refine gg_isub dc_A_microstepsAlike_96 ?_
              refine gg_ist (i := 4) dc_A_microstepsAlike_97 (Nat.le_of_ble_eq_true rfl) rfl ?_
              dsimp only [List.set]
              refine gg_ild dc_A_microstepsAlike_99 rfl ?_
              refine gg_ildn dc_A_microstepsAlike_101 rfl rfl ?_
              refine gg_idiv dc_A_microstepsAlike_102 (fun e => c_28 (by rw [e]; exact Int32.le_refl _)) ?_
              refine gg_iconst (v := 1) dc_A_microstepsAlike_103 (by decide) ?_
              refine gg_iadd dc_A_microstepsAlike_104 ?_
              exact gg_iret dc_A_microstepsAlike_105 rfl ⟨Nat.le_of_ble_eq_true rfl, Nat.le_of_ble_eq_true rfl⟩ (⟨by unfold al_S; rw [if_neg (show ¬ sl_S S = 1 by rw [c_4]; decide)]; rw [if_neg (show ¬ (S 0 ≤ 0 ∨ ¬ S 9 = 0 ∨ S 8 < S 7 - S 4 ∨ S 7 < S 8) from fun h => by rcases h with h | h | h | h; exact c_28 h; exact h c_35; exact c_43 h; exact Int32.not_lt.mpr c_54 h)]; rw [if_pos c_60], rfl⟩)
            · refine gg_aldn dc_A_microstepsAlike_63 rfl rfl ?_
              refine gg_getr dc_A_microstepsAlike_64 lf_A_21 x0 rfl ?_
              refine gg_aldn dc_A_microstepsAlike_67 rfl rfl ?_
              refine gx_axi (k := 10) (s := 8) dc_A_microstepsAlike_68 lf_A_63 x0 hX rfl ⟨Nat.le_of_ble_eq_true rfl, Nat.le_of_ble_eq_true rfl⟩ rfl ?_
              refine gg_okV (sp_P_paR x3 hX.2.2.2.2.1) dc_A_microstepsAlike_71 ml_A_174 ce_P_placeAbove ⟨Nat.le_of_ble_eq_true rfl, Nat.le_of_ble_eq_true rfl⟩ x3.1 rfl rfl (Nat.le_of_ble_eq_true rfl) ⟨rfl, rfl⟩ ⟨Nat.le_of_ble_eq_true rfl, Nat.le_of_ble_eq_true rfl⟩ ?_
              refine gg_iconst (v := 1) dc_A_microstepsAlike_74 (by decide) ?_
              refine gg_isub dc_A_microstepsAlike_75 ?_
              refine gg_ildn dc_A_microstepsAlike_76 rfl rfl ?_
              refine gg_isub dc_A_microstepsAlike_77 ?_
              refine gg_goto dc_A_microstepsAlike_78 ?_
              refine gg_ist (i := 4) dc_A_microstepsAlike_97 (Nat.le_of_ble_eq_true rfl) rfl ?_
              dsimp only [List.set]
              refine gg_ild dc_A_microstepsAlike_99 rfl ?_
              refine gg_ildn dc_A_microstepsAlike_101 rfl rfl ?_
              refine gg_idiv dc_A_microstepsAlike_102 (fun e => c_28 (by rw [e]; exact Int32.le_refl _)) ?_
              refine gg_iconst (v := 1) dc_A_microstepsAlike_103 (by decide) ?_
              refine gg_iadd dc_A_microstepsAlike_104 ?_
              exact gg_iret dc_A_microstepsAlike_105 rfl ⟨Nat.le_of_ble_eq_true rfl, Nat.le_of_ble_eq_true rfl⟩ (⟨by unfold al_S; rw [if_neg (show ¬ sl_S S = 1 by rw [c_4]; decide)]; rw [if_neg (show ¬ (S 0 ≤ 0 ∨ ¬ S 9 = 0 ∨ S 8 < S 7 - S 4 ∨ S 7 < S 8) from fun h => by rcases h with h | h | h | h; exact c_28 h; exact h c_35; exact c_43 h; exact Int32.not_lt.mpr c_54 h)]; rw [if_neg c_60], rfl⟩)
          · refine gg_iconst (v := 1) dc_A_microstepsAlike_57 (by decide) ?_
            exact gg_iret dc_A_microstepsAlike_58 rfl ⟨Nat.le_of_ble_eq_true rfl, Nat.le_of_ble_eq_true rfl⟩ (⟨by unfold al_S; rw [if_neg (show ¬ sl_S S = 1 by rw [c_4]; decide)]; rw [if_pos (Or.inr (Or.inr (Or.inr (Int32.not_le.mp c_54))))], rfl⟩)
  · refine gg_ldc dc_A_microstepsAlike_7 lk_A_173 ?_
    exact gg_iret dc_A_microstepsAlike_9 rfl ⟨Nat.le_of_ble_eq_true rfl, Nat.le_of_ble_eq_true rfl⟩ (⟨by unfold al_S; rw [if_pos (by unfold sl_S at c_4 ⊢; split at c_4 <;> simp_all)], rfl⟩)
set_option maxRecDepth 100000 in
set_option maxHeartbeats 4000000 in
theorem sp_A_travel {Γ : cx_T} {τ : Nat × (Nat → sh_T)} {ν : Nat → Nat → Int32} {a : Nat} {S : Nat → Int32} (hx : sh_X τ.2 a) (hX : AX ν a S) {x : Int32} : mt_P Γ mk_A_travel [.ref a, .int x] (τ, ν) (ax_Q τ ν a (some (.int (tv_S S x).2)) (tv_S S x).1) := by
  refine mt_of (L := [some (.ref a), some (.int x), none, none, none, none, none]) (by decide +kernel) (by simp [Value.category]) (Nat.le_of_ble_eq_true rfl) (lc_2_7 ()) ?_
  obtain ⟨x0, x1, x2, x3, x4, x5⟩ := id hx
  have loop : ∀ (ν0 : Nat → Nat → Int32) (w d : Int32) (R : (Nat → Int32) × Int32) (f : Nat) (ν : Nat → Nat → Int32) (S : Nat → Int32) (left h : Int32), AX ν a S → fr_P ν0 ν a → left.toNatClampNeg ≤ f → tl_S f S d left h = R → gg_P Γ mk_A_travel (fun v μ' => ∃ ν' : Nat → Nat → Int32, v = some (.int R.2) ∧ μ' = (τ, ν') ∧ AX ν' a R.1 ∧ fr_P ν0 ν' a) 0 0 34 [some (.ref a), some (.int x), some (.int h), some (.int w), some (.int d), some (.int left), none] [] (τ, ν) := by
    intro ν0 w d R f
    induction f with
    | zero =>
      intro ν S left h hX hF hf hR
      refine gg_ild dc_A_travel_34 rfl ?_
      refine gg_ifle dc_A_travel_36 (fun c_36 => ?_) (fun c_36 => ?_)
      · refine gg_ildn dc_A_travel_87 rfl rfl ?_
        exact gg_iret dc_A_travel_88 rfl ⟨Nat.le_of_ble_eq_true rfl, Nat.le_of_ble_eq_true rfl⟩ (by rw [← hR]; exact ⟨_, rfl, rfl, hX, hF⟩)
      · exact absurd (cn_le hf) c_36
    | succ f ih =>
      intro ν S left h hX hF hf hR
      refine gg_ild dc_A_travel_34 rfl ?_
      refine gg_ifle dc_A_travel_36 (fun c_36 => ?_) (fun c_36 => ?_)
      · refine gg_ildn dc_A_travel_87 rfl rfl ?_
        exact gg_iret dc_A_travel_88 rfl ⟨Nat.le_of_ble_eq_true rfl, Nat.le_of_ble_eq_true rfl⟩ (by rw [← hR]; unfold tl_S; rw [if_pos c_36]; exact ⟨_, rfl, rfl, hX, hF⟩)
      · refine gg_ildn dc_A_travel_39 rfl rfl ?_
        refine gg_aldn dc_A_travel_40 rfl rfl ?_
        refine gg_aldn dc_A_travel_41 rfl rfl ?_
        refine gx_axi (k := 10) (s := 8) dc_A_travel_42 lf_A_63 x0 hX rfl ⟨Nat.le_of_ble_eq_true rfl, Nat.le_of_ble_eq_true rfl⟩ rfl ?_
        refine gg_okV (sp_A_loadOn hx hX) dc_A_travel_45 ml_A_101 ce_A_loadOn ⟨Nat.le_of_ble_eq_true rfl, Nat.le_of_ble_eq_true rfl⟩ x0 rfl rfl (Nat.le_of_ble_eq_true rfl) ⟨rfl, rfl⟩ ⟨Nat.le_of_ble_eq_true rfl, Nat.le_of_ble_eq_true rfl⟩ ?_
        refine gg_okS (sp_J_max) dc_A_travel_48 ml_A_108 ce_J_max ⟨Nat.le_of_ble_eq_true rfl, Nat.le_of_ble_eq_true rfl⟩ rfl (Nat.le_of_ble_eq_true rfl) ⟨rfl, rfl⟩ ⟨Nat.le_of_ble_eq_true rfl, Nat.le_of_ble_eq_true rfl⟩ ?_
        refine gg_istn (i := 2) dc_A_travel_51 rfl (Nat.le_of_ble_eq_true rfl) rfl ?_
        dsimp only [List.set]
        refine gg_ild dc_A_travel_52 rfl ?_
        refine gg_iconst (v := 1) dc_A_travel_54 (by decide) ?_
        refine gg_aldn dc_A_travel_55 rfl rfl ?_
        refine gg_ild dc_A_travel_56 rfl ?_
        refine gg_okV (sp_A_microstepsAlike hx hX) dc_A_travel_58 ml_A_139 ce_A_microstepsAlike ⟨Nat.le_of_ble_eq_true rfl, Nat.le_of_ble_eq_true rfl⟩ x0 rfl rfl (Nat.le_of_ble_eq_true rfl) ⟨rfl, rfl⟩ ⟨Nat.le_of_ble_eq_true rfl, Nat.le_of_ble_eq_true rfl⟩ ?_
        refine gg_okS (sp_J_max) dc_A_travel_61 ml_A_108 ce_J_max ⟨Nat.le_of_ble_eq_true rfl, Nat.le_of_ble_eq_true rfl⟩ rfl (Nat.le_of_ble_eq_true rfl) ⟨rfl, rfl⟩ ⟨Nat.le_of_ble_eq_true rfl, Nat.le_of_ble_eq_true rfl⟩ ?_
        refine gg_okS (sp_J_min) dc_A_travel_64 ml_A_142 ce_J_min ⟨Nat.le_of_ble_eq_true rfl, Nat.le_of_ble_eq_true rfl⟩ rfl (Nat.le_of_ble_eq_true rfl) ⟨rfl, rfl⟩ ⟨Nat.le_of_ble_eq_true rfl, Nat.le_of_ble_eq_true rfl⟩ ?_
        refine gg_ist (i := 6) dc_A_travel_67 (Nat.le_of_ble_eq_true rfl) rfl ?_
        dsimp only [List.set]
        refine gg_aldn dc_A_travel_69 rfl rfl ?_
        refine gg_ild dc_A_travel_70 rfl ?_
        refine gg_ild dc_A_travel_72 rfl ?_
        refine gx_callA (sp_A_makeMicrosteps hx hX) hF dc_A_travel_74 ml_A_145 ce_A_makeMicrosteps ⟨Nat.le_of_ble_eq_true rfl, Nat.le_of_ble_eq_true rfl⟩ x0 rfl rfl (Nat.le_of_ble_eq_true rfl) ⟨rfl, rfl⟩ ⟨Nat.le_of_ble_eq_true rfl, Nat.le_of_ble_eq_true rfl⟩ (fun ν hX hF => ?_)
        dsimp only [Option.toList, List.cons_append, List.nil_append]
        refine gg_ild dc_A_travel_77 rfl ?_
        refine gg_ild dc_A_travel_79 rfl ?_
        refine gg_isub dc_A_travel_81 ?_
        refine gg_ist (i := 5) dc_A_travel_82 (Nat.le_of_ble_eq_true rfl) rfl ?_
        dsimp only [List.set]
        refine gg_goto dc_A_travel_84 ?_
        have hR : tl_S f (mm_S S d (tk_S S d left)) d (left - tk_S S d left) (mx_I h (lo_S S (S 8))) = R := by rw [← hR]; exact (if_neg c_36).symm
        refine gg_L (ih _ _ _ _ hX hF ?_ hR) (lc_mid [_, _, _, _, _, _] [] _)
        exact Nat.le_of_lt_succ (Nat.lt_of_lt_of_le (tk_dec c_36) hf)
  refine gg_iconst (v := 0) dc_A_travel_0 (by decide) ?_
  refine gg_istn (i := 2) dc_A_travel_1 rfl (Nat.le_of_ble_eq_true rfl) rfl ?_
  dsimp only [List.set]
  refine gg_aldn dc_A_travel_2 rfl rfl ?_
  refine gg_ildn dc_A_travel_3 rfl rfl ?_
  refine gg_okV (sp_A_refuses hx hX) dc_A_travel_4 ml_A_127 ce_A_refuses ⟨Nat.le_of_ble_eq_true rfl, Nat.le_of_ble_eq_true rfl⟩ x0 rfl rfl (Nat.le_of_ble_eq_true rfl) ⟨rfl, rfl⟩ ⟨Nat.le_of_ble_eq_true rfl, Nat.le_of_ble_eq_true rfl⟩ ?_
  refine gg_ifeq dc_A_travel_7 (fun c_7 => ?_) (fun c_7 => ?_)
  · refine gg_aldn dc_A_travel_12 rfl rfl ?_
    refine gg_aldn dc_A_travel_13 rfl rfl ?_
    refine gg_ildn dc_A_travel_14 rfl rfl ?_
    refine gg_okV (sp_A_target hx hX) dc_A_travel_15 ml_A_120 ce_A_target ⟨Nat.le_of_ble_eq_true rfl, Nat.le_of_ble_eq_true rfl⟩ x0 rfl rfl (Nat.le_of_ble_eq_true rfl) ⟨rfl, rfl⟩ ⟨Nat.le_of_ble_eq_true rfl, Nat.le_of_ble_eq_true rfl⟩ ?_
    refine gg_okV (sp_A_microstepsTo hx hX) dc_A_travel_18 ml_A_130 ce_A_microstepsTo ⟨Nat.le_of_ble_eq_true rfl, Nat.le_of_ble_eq_true rfl⟩ x0 rfl rfl (Nat.le_of_ble_eq_true rfl) ⟨rfl, rfl⟩ ⟨Nat.le_of_ble_eq_true rfl, Nat.le_of_ble_eq_true rfl⟩ ?_
    refine gg_istn (i := 3) dc_A_travel_21 rfl (Nat.le_of_ble_eq_true rfl) rfl ?_
    dsimp only [List.set]
    refine gg_ildn dc_A_travel_22 rfl rfl ?_
    refine gg_okS (sp_J_signum) dc_A_travel_23 ml_A_133 ce_J_signum ⟨Nat.le_of_ble_eq_true rfl, Nat.le_of_ble_eq_true rfl⟩ rfl (Nat.le_of_ble_eq_true rfl) ⟨rfl, rfl⟩ ⟨Nat.le_of_ble_eq_true rfl, Nat.le_of_ble_eq_true rfl⟩ ?_
    refine gg_ist (i := 4) dc_A_travel_26 (Nat.le_of_ble_eq_true rfl) rfl ?_
    dsimp only [List.set]
    refine gg_ildn dc_A_travel_28 rfl rfl ?_
    refine gg_okS (sp_J_abs) dc_A_travel_29 ml_A_136 ce_J_abs ⟨Nat.le_of_ble_eq_true rfl, Nat.le_of_ble_eq_true rfl⟩ rfl (Nat.le_of_ble_eq_true rfl) ⟨rfl, rfl⟩ ⟨Nat.le_of_ble_eq_true rfl, Nat.le_of_ble_eq_true rfl⟩ ?_
    refine gg_ist (i := 5) dc_A_travel_32 (Nat.le_of_ble_eq_true rfl) rfl ?_
    dsimp only [List.set]
    have e9 : tv_S S x = tl_S (ab_I (st_S S (ai_S S x))).toNatClampNeg S (sg_I (st_S S (ai_S S x))) (ab_I (st_S S (ai_S S x))) 0 := by unfold tv_S; rw [if_neg (by split at c_7 <;> simp_all)]
    unfold ax_Q
    rw [e9]
    exact loop _ _ _ _ _ _ _ _ _ hX fr_rf (Nat.le_refl _) rfl
  · refine gg_ildn dc_A_travel_10 rfl rfl ?_
    exact gg_iret dc_A_travel_11 rfl ⟨Nat.le_of_ble_eq_true rfl, Nat.le_of_ble_eq_true rfl⟩ (by unfold tv_S; rw [if_pos (by split at c_7 <;> simp_all)]; exact ⟨_, rfl, rfl, hX, fr_rf⟩)
set_option maxRecDepth 100000 in
set_option maxHeartbeats 4000000 in
theorem sp_A_travelUnstalled {Γ : cx_T} {τ : Nat × (Nat → sh_T)} {ν : Nat → Nat → Int32} {a : Nat} {S : Nat → Int32} (hx : sh_X τ.2 a) (hX : AX ν a S) {x : Int32} : mt_P Γ mk_A_travelUnstalled [.ref a, .int x] (τ, ν) (ax_Q τ ν a (some (.int (tv_S (upd (upd S 1 200) 3 0) x).2)) ((tv_S (upd (upd S 1 200) 3 0) x).1)) := by
  refine mt_of (L := [some (.ref a), some (.int x)]) (by decide +kernel) (by simp [Value.category]) (Nat.le_of_ble_eq_true rfl) (lc_2_2 ()) ?_
  obtain ⟨x0, x1, x2, x3, x4, x5⟩ := id hx
  have hF : fr_P ν ν a := fr_rf
  refine gg_aldn dc_A_travelUnstalled_0 rfl rfl ?_
  refine gg_iconst (v := 1) dc_A_travelUnstalled_1 (by decide) ?_
  refine gg_sipush (v := 200) dc_A_travelUnstalled_2 (by decide) ?_
  refine gx_callA (sp_A_changeNumber hx hX (k := 1) rfl (by omega)) hF dc_A_travelUnstalled_5 ml_A_149 ce_A_changeNumber ⟨Nat.le_of_ble_eq_true rfl, Nat.le_of_ble_eq_true rfl⟩ x0 rfl rfl (Nat.le_of_ble_eq_true rfl) ⟨rfl, rfl⟩ ⟨Nat.le_of_ble_eq_true rfl, Nat.le_of_ble_eq_true rfl⟩ (fun ν hX hF => ?_)
  dsimp only [Option.toList, List.cons_append, List.nil_append]
  refine gg_aldn dc_A_travelUnstalled_8 rfl rfl ?_
  refine gg_iconst (v := 3) dc_A_travelUnstalled_9 (by decide) ?_
  refine gg_iconst (v := 0) dc_A_travelUnstalled_10 (by decide) ?_
  refine gx_callA (sp_A_changeNumber hx hX (k := 3) rfl (by omega)) hF dc_A_travelUnstalled_11 ml_A_149 ce_A_changeNumber ⟨Nat.le_of_ble_eq_true rfl, Nat.le_of_ble_eq_true rfl⟩ x0 rfl rfl (Nat.le_of_ble_eq_true rfl) ⟨rfl, rfl⟩ ⟨Nat.le_of_ble_eq_true rfl, Nat.le_of_ble_eq_true rfl⟩ (fun ν hX hF => ?_)
  dsimp only [Option.toList, List.cons_append, List.nil_append]
  refine gg_aldn dc_A_travelUnstalled_14 rfl rfl ?_
  refine gg_ildn dc_A_travelUnstalled_15 rfl rfl ?_
  refine gx_callA (sp_A_travel hx hX) hF dc_A_travelUnstalled_16 ml_A_152 ce_A_travel ⟨Nat.le_of_ble_eq_true rfl, Nat.le_of_ble_eq_true rfl⟩ x0 rfl rfl (Nat.le_of_ble_eq_true rfl) ⟨rfl, rfl⟩ ⟨Nat.le_of_ble_eq_true rfl, Nat.le_of_ble_eq_true rfl⟩ (fun ν hX hF => ?_)
  dsimp only [Option.toList, List.cons_append, List.nil_append]
  exact gg_iret dc_A_travelUnstalled_19 rfl ⟨Nat.le_of_ble_eq_true rfl, Nat.le_of_ble_eq_true rfl⟩ (⟨_, rfl, rfl, hX, hF⟩)
def ot_S (S : Nat → Int32) (e d : Int32) : Int32 := if 0 < S 0 then ((e - (if d ≤ 0 then S 7 else S 7 - S 4)) * d + S 0 - 1) / S 0 else 0
def tq_S (S : Nat → Int32) (e d left : Int32) : Int32 := mn_I left (mx_I 1 (mn_I (al_S S d) (ot_S S e d)))
def ap_S (e d : Int32) : Nat → (Nat → Int32) → Int32 → (Nat → Int32) × Int32
  | 0, S, left => if left < 0 then (S, left) else if (e - S 8) * d ≤ 0 then (S, left) else (S, -1)
  | f + 1, S, left => if left < 0 then (S, left) else if (e - S 8) * d ≤ 0 then (S, left) else if left = 0 then (S, -1) else if sl_S S = 0 then ap_S e d f (mm_S S d (tq_S S e d left)) (left - tq_S S e d left) else (S, -1)
def sk_D (w : Int32) : Int32 := if ¬ w = 0 then 1 else -1
def sk_E (S : Nat → Int32) (w : Int32) : Int32 := if ¬ w = 0 then S 20 else S 19
def sk_L : Int32 := 20000
def sk_1 (e d : Int32) (S : Nat → Int32) : (Nat → Int32) × Int32 := ap_S (e + d * 17) d sk_L.toNatClampNeg S sk_L
def sk_2 (e d : Int32) (S : Nat → Int32) : (Nat → Int32) × Int32 := ap_S e (-d) (sk_1 e d S).2.toNatClampNeg (sk_1 e d S).1 (sk_1 e d S).2
def sk_R (r : (Nat → Int32) × Int32) : (Nat → Int32) × Int32 := if 0 ≤ r.2 then (upd r.1 17 (r.1 17 + 1), 1) else (r.1, 0)
def sk_S (S : Nat → Int32) (w : Int32) : (Nat → Int32) × Int32 := sk_R (sk_2 (sk_E S w) (sk_D w) S)
theorem lf_0 {x : Int32} (h1 : ¬ x < 0) (h2 : x.toNatClampNeg ≤ 0) : x = 0 := by
  have h2 : x.toInt.toNat ≤ 0 := h2
  rw [Int32.lt_iff_toInt_lt, Int32.toInt_zero] at h1
  rw [← Int32.toInt_inj, Int32.toInt_zero]
  omega
theorem lf_1 {x : Int32} (h1 : ¬ x < 0) (h2 : ¬ x = 0) : ¬ x ≤ 0 := fun q => by
  rw [Int32.lt_iff_toInt_lt, Int32.toInt_zero] at h1
  rw [Int32.le_iff_toInt_le, Int32.toInt_zero] at q
  rw [← Int32.toInt_inj, Int32.toInt_zero] at h2
  omega
set_option maxRecDepth 100000 in
set_option maxHeartbeats 4000000 in
theorem sp_A_microstepsOfTable {Γ : cx_T} {τ : Nat × (Nat → sh_T)} {ν : Nat → Nat → Int32} {a : Nat} {S : Nat → Int32} (hx : sh_X τ.2 a) (hX : AX ν a S) {e d : Int32} : mt_P Γ mk_A_microstepsOfTable [.ref a, .int e, .int d] (τ, ν) (fun v μ' => v = some (.int (ot_S S e d)) ∧ μ' = (τ, ν)) := by
  refine mt_of (L := [some (.ref a), some (.int e), some (.int d), none, none]) (by decide +kernel) (by simp [Value.category]) (Nat.le_of_ble_eq_true rfl) (lc_3_5 ()) ?_
  obtain ⟨x0, x1, x2, x3, x4, x5⟩ := id hx
  refine gg_aldn dc_A_microstepsOfTable_0 rfl rfl ?_
  refine gg_iconst (v := 0) dc_A_microstepsOfTable_1 (by decide) ?_
  refine gg_okV (sp_A_number hx hX (k := 0) rfl (by omega)) dc_A_microstepsOfTable_2 ml_A_95 ce_A_number ⟨Nat.le_of_ble_eq_true rfl, Nat.le_of_ble_eq_true rfl⟩ x0 rfl rfl (Nat.le_of_ble_eq_true rfl) ⟨rfl, rfl⟩ ⟨Nat.le_of_ble_eq_true rfl, Nat.le_of_ble_eq_true rfl⟩ ?_
  refine gg_istn (i := 3) dc_A_microstepsOfTable_5 rfl (Nat.le_of_ble_eq_true rfl) rfl ?_
  dsimp only [List.set]
  refine gg_ildn dc_A_microstepsOfTable_6 rfl rfl ?_
  refine gg_ifle dc_A_microstepsOfTable_7 (fun c_7 => ?_) (fun c_7 => ?_)
  · refine gg_aldn dc_A_microstepsOfTable_23 rfl rfl ?_
    refine gx_axi (k := 9) (s := 7) dc_A_microstepsOfTable_24 lf_A_60 x0 hX rfl ⟨Nat.le_of_ble_eq_true rfl, Nat.le_of_ble_eq_true rfl⟩ rfl ?_
    refine gg_ist (i := 4) dc_A_microstepsOfTable_27 (Nat.le_of_ble_eq_true rfl) rfl ?_
    dsimp only [List.set]
    refine gg_ildn dc_A_microstepsOfTable_29 rfl rfl ?_
    refine gg_ifle dc_A_microstepsOfTable_30 (fun c_30 => ?_) (fun c_30 => ?_)
    · refine gg_iconst (v := 0) dc_A_microstepsOfTable_48 (by decide) ?_
      exact gg_iret dc_A_microstepsOfTable_49 rfl ⟨Nat.le_of_ble_eq_true rfl, Nat.le_of_ble_eq_true rfl⟩ (⟨by unfold ot_S; rw [if_neg (Int32.not_lt.mpr c_30)], rfl⟩)
    · refine gg_ildn dc_A_microstepsOfTable_33 rfl rfl ?_
      refine gg_ild dc_A_microstepsOfTable_34 rfl ?_
      refine gg_isub dc_A_microstepsOfTable_36 ?_
      refine gg_ildn dc_A_microstepsOfTable_37 rfl rfl ?_
      refine gg_imul dc_A_microstepsOfTable_38 ?_
      refine gg_ildn dc_A_microstepsOfTable_39 rfl rfl ?_
      refine gg_iadd dc_A_microstepsOfTable_40 ?_
      refine gg_iconst (v := 1) dc_A_microstepsOfTable_41 (by decide) ?_
      refine gg_isub dc_A_microstepsOfTable_42 ?_
      refine gg_ildn dc_A_microstepsOfTable_43 rfl rfl ?_
      refine gg_idiv dc_A_microstepsOfTable_44 (fun e => c_30 (by rw [e]; exact Int32.le_refl _)) ?_
      refine gg_goto dc_A_microstepsOfTable_45 ?_
      exact gg_iret dc_A_microstepsOfTable_49 rfl ⟨Nat.le_of_ble_eq_true rfl, Nat.le_of_ble_eq_true rfl⟩ (⟨by unfold ot_S; rw [if_pos (Int32.not_le.mp c_30), if_pos c_7], rfl⟩)
  · refine gg_aldn dc_A_microstepsOfTable_10 rfl rfl ?_
    refine gx_axi (k := 9) (s := 7) dc_A_microstepsOfTable_11 lf_A_60 x0 hX rfl ⟨Nat.le_of_ble_eq_true rfl, Nat.le_of_ble_eq_true rfl⟩ rfl ?_
    refine gg_aldn dc_A_microstepsOfTable_14 rfl rfl ?_
    refine gg_iconst (v := 4) dc_A_microstepsOfTable_15 (by decide) ?_
    refine gg_okV (sp_A_number hx hX (k := 4) rfl (by omega)) dc_A_microstepsOfTable_16 ml_A_95 ce_A_number ⟨Nat.le_of_ble_eq_true rfl, Nat.le_of_ble_eq_true rfl⟩ x0 rfl rfl (Nat.le_of_ble_eq_true rfl) ⟨rfl, rfl⟩ ⟨Nat.le_of_ble_eq_true rfl, Nat.le_of_ble_eq_true rfl⟩ ?_
    refine gg_isub dc_A_microstepsOfTable_19 ?_
    refine gg_goto dc_A_microstepsOfTable_20 ?_
    refine gg_ist (i := 4) dc_A_microstepsOfTable_27 (Nat.le_of_ble_eq_true rfl) rfl ?_
    dsimp only [List.set]
    refine gg_ildn dc_A_microstepsOfTable_29 rfl rfl ?_
    refine gg_ifle dc_A_microstepsOfTable_30 (fun c_30 => ?_) (fun c_30 => ?_)
    · refine gg_iconst (v := 0) dc_A_microstepsOfTable_48 (by decide) ?_
      exact gg_iret dc_A_microstepsOfTable_49 rfl ⟨Nat.le_of_ble_eq_true rfl, Nat.le_of_ble_eq_true rfl⟩ (⟨by unfold ot_S; rw [if_neg (Int32.not_lt.mpr c_30)], rfl⟩)
    · refine gg_ildn dc_A_microstepsOfTable_33 rfl rfl ?_
      refine gg_ild dc_A_microstepsOfTable_34 rfl ?_
      refine gg_isub dc_A_microstepsOfTable_36 ?_
      refine gg_ildn dc_A_microstepsOfTable_37 rfl rfl ?_
      refine gg_imul dc_A_microstepsOfTable_38 ?_
      refine gg_ildn dc_A_microstepsOfTable_39 rfl rfl ?_
      refine gg_iadd dc_A_microstepsOfTable_40 ?_
      refine gg_iconst (v := 1) dc_A_microstepsOfTable_41 (by decide) ?_
      refine gg_isub dc_A_microstepsOfTable_42 ?_
      refine gg_ildn dc_A_microstepsOfTable_43 rfl rfl ?_
      refine gg_idiv dc_A_microstepsOfTable_44 (fun e => c_30 (by rw [e]; exact Int32.le_refl _)) ?_
      refine gg_goto dc_A_microstepsOfTable_45 ?_
      exact gg_iret dc_A_microstepsOfTable_49 rfl ⟨Nat.le_of_ble_eq_true rfl, Nat.le_of_ble_eq_true rfl⟩ (⟨by unfold ot_S; rw [if_pos (Int32.not_le.mp c_30), if_neg c_7], rfl⟩)
set_option maxRecDepth 100000 in
set_option maxHeartbeats 4000000 in
theorem sp_A_approach {Γ : cx_T} {τ : Nat × (Nat → sh_T)} {ν : Nat → Nat → Int32} {a : Nat} {S : Nat → Int32} (hx : sh_X τ.2 a) (hX : AX ν a S) {e d x : Int32} : mt_P Γ mk_A_approach [.ref a, .int e, .int d, .int x] (τ, ν) (ax_Q τ ν a (some (.int (ap_S e d x.toNatClampNeg S x).2)) (ap_S e d x.toNatClampNeg S x).1) := by
  refine mt_of (L := [some (.ref a), some (.int e), some (.int d), some (.int x), none, none, none]) (by decide +kernel) (by simp [Value.category]) (Nat.le_of_ble_eq_true rfl) (lc_4_7 ()) ?_
  obtain ⟨x0, x1, x2, x3, x4, x5⟩ := id hx
  have loop : ∀ (ν0 : Nat → Nat → Int32) (z : Int32) (R : (Nat → Int32) × Int32) (f : Nat) (ν : Nat → Nat → Int32) (S : Nat → Int32) (left : Int32), AX ν a S → fr_P ν0 ν a → left.toNatClampNeg ≤ f → ap_S e d f S left = R → gg_P Γ mk_A_approach (fun v μ' => ∃ ν' : Nat → Nat → Int32, v = some (.int R.2) ∧ μ' = (τ, ν') ∧ AX ν' a R.1 ∧ fr_P ν0 ν' a) 0 0 3 [some (.ref a), some (.int e), some (.int d), some (.int z), some (.int left), none, none] [] (τ, ν) := by
    intro ν0 z R f
    induction f with
    | zero =>
      intro ν S left hX hF hf hR
      refine gg_ild dc_A_approach_3 rfl ?_
      refine gg_iflt dc_A_approach_5 (fun c_5 => ?_) (fun c_5 => ?_)
      · refine gg_ild dc_A_approach_79 rfl ?_
        exact gg_iret dc_A_approach_81 rfl ⟨Nat.le_of_ble_eq_true rfl, Nat.le_of_ble_eq_true rfl⟩ (by rw [← hR]; unfold ap_S; rw [if_pos c_5]; exact ⟨_, rfl, rfl, hX, hF⟩)
      · refine gg_ildn dc_A_approach_8 rfl rfl ?_
        refine gg_aldn dc_A_approach_9 rfl rfl ?_
        refine gx_axi (k := 10) (s := 8) dc_A_approach_10 lf_A_63 x0 hX rfl ⟨Nat.le_of_ble_eq_true rfl, Nat.le_of_ble_eq_true rfl⟩ rfl ?_
        refine gg_isub dc_A_approach_13 ?_
        refine gg_ildn dc_A_approach_14 rfl rfl ?_
        refine gg_imul dc_A_approach_15 ?_
        refine gg_ifle dc_A_approach_16 (fun c_16 => ?_) (fun c_16 => ?_)
        · refine gg_ild dc_A_approach_79 rfl ?_
          exact gg_iret dc_A_approach_81 rfl ⟨Nat.le_of_ble_eq_true rfl, Nat.le_of_ble_eq_true rfl⟩ (by rw [← hR]; unfold ap_S; rw [if_neg c_5, if_pos c_16]; exact ⟨_, rfl, rfl, hX, hF⟩)
        · refine gg_ild dc_A_approach_19 rfl ?_
          refine gg_ifeq dc_A_approach_21 (fun c_21 => ?_) (fun c_21 => ?_)
          · refine gg_iconst (v := (-1)) dc_A_approach_31 (by decide) ?_
            exact gg_iret dc_A_approach_32 rfl ⟨Nat.le_of_ble_eq_true rfl, Nat.le_of_ble_eq_true rfl⟩ (by rw [← hR]; unfold ap_S; rw [if_neg c_5, if_neg c_16]; exact ⟨_, rfl, rfl, hX, hF⟩)
          · exact absurd (lf_0 c_5 hf) c_21
    | succ f ih =>
      intro ν S left hX hF hf hR
      refine gg_ild dc_A_approach_3 rfl ?_
      refine gg_iflt dc_A_approach_5 (fun c_5 => ?_) (fun c_5 => ?_)
      · refine gg_ild dc_A_approach_79 rfl ?_
        exact gg_iret dc_A_approach_81 rfl ⟨Nat.le_of_ble_eq_true rfl, Nat.le_of_ble_eq_true rfl⟩ (by rw [← hR]; unfold ap_S; rw [if_pos c_5]; exact ⟨_, rfl, rfl, hX, hF⟩)
      · refine gg_ildn dc_A_approach_8 rfl rfl ?_
        refine gg_aldn dc_A_approach_9 rfl rfl ?_
        refine gx_axi (k := 10) (s := 8) dc_A_approach_10 lf_A_63 x0 hX rfl ⟨Nat.le_of_ble_eq_true rfl, Nat.le_of_ble_eq_true rfl⟩ rfl ?_
        refine gg_isub dc_A_approach_13 ?_
        refine gg_ildn dc_A_approach_14 rfl rfl ?_
        refine gg_imul dc_A_approach_15 ?_
        refine gg_ifle dc_A_approach_16 (fun c_16 => ?_) (fun c_16 => ?_)
        · refine gg_ild dc_A_approach_79 rfl ?_
          exact gg_iret dc_A_approach_81 rfl ⟨Nat.le_of_ble_eq_true rfl, Nat.le_of_ble_eq_true rfl⟩ (by rw [← hR]; unfold ap_S; rw [if_neg c_5, if_pos c_16]; exact ⟨_, rfl, rfl, hX, hF⟩)
        · refine gg_ild dc_A_approach_19 rfl ?_
          refine gg_ifeq dc_A_approach_21 (fun c_21 => ?_) (fun c_21 => ?_)
          · refine gg_iconst (v := (-1)) dc_A_approach_31 (by decide) ?_
            exact gg_iret dc_A_approach_32 rfl ⟨Nat.le_of_ble_eq_true rfl, Nat.le_of_ble_eq_true rfl⟩ (by rw [← hR]; unfold ap_S; rw [if_neg c_5, if_neg c_16, if_pos c_21]; exact ⟨_, rfl, rfl, hX, hF⟩)
          · refine gg_aldn dc_A_approach_24 rfl rfl ?_
            refine gg_okV (sp_A_stalls hx hX) dc_A_approach_25 ml_A_166 ce_A_stalls ⟨Nat.le_of_ble_eq_true rfl, Nat.le_of_ble_eq_true rfl⟩ x0 rfl rfl (Nat.le_of_ble_eq_true rfl) ⟨rfl, rfl⟩ ⟨Nat.le_of_ble_eq_true rfl, Nat.le_of_ble_eq_true rfl⟩ ?_
            refine gg_ifeq dc_A_approach_28 (fun c_28 => ?_) (fun c_28 => ?_)
            · refine gg_aldn dc_A_approach_33 rfl rfl ?_
              refine gg_ildn dc_A_approach_34 rfl rfl ?_
              refine gg_okV (sp_A_microstepsAlike hx hX) dc_A_approach_35 ml_A_139 ce_A_microstepsAlike ⟨Nat.le_of_ble_eq_true rfl, Nat.le_of_ble_eq_true rfl⟩ x0 rfl rfl (Nat.le_of_ble_eq_true rfl) ⟨rfl, rfl⟩ ⟨Nat.le_of_ble_eq_true rfl, Nat.le_of_ble_eq_true rfl⟩ ?_
              refine gg_aldn dc_A_approach_38 rfl rfl ?_
              refine gg_ildn dc_A_approach_39 rfl rfl ?_
              refine gg_ildn dc_A_approach_40 rfl rfl ?_
              refine gg_okV (sp_A_microstepsOfTable hx hX) dc_A_approach_41 ml_A_170 ce_A_microstepsOfTable ⟨Nat.le_of_ble_eq_true rfl, Nat.le_of_ble_eq_true rfl⟩ x0 rfl rfl (Nat.le_of_ble_eq_true rfl) ⟨rfl, rfl⟩ ⟨Nat.le_of_ble_eq_true rfl, Nat.le_of_ble_eq_true rfl⟩ ?_
              refine gg_okS (sp_J_min) dc_A_approach_44 ml_A_142 ce_J_min ⟨Nat.le_of_ble_eq_true rfl, Nat.le_of_ble_eq_true rfl⟩ rfl (Nat.le_of_ble_eq_true rfl) ⟨rfl, rfl⟩ ⟨Nat.le_of_ble_eq_true rfl, Nat.le_of_ble_eq_true rfl⟩ ?_
              refine gg_ist (i := 5) dc_A_approach_47 (Nat.le_of_ble_eq_true rfl) rfl ?_
              dsimp only [List.set]
              refine gg_ild dc_A_approach_49 rfl ?_
              refine gg_iconst (v := 1) dc_A_approach_51 (by decide) ?_
              refine gg_ild dc_A_approach_52 rfl ?_
              refine gg_okS (sp_J_max) dc_A_approach_54 ml_A_108 ce_J_max ⟨Nat.le_of_ble_eq_true rfl, Nat.le_of_ble_eq_true rfl⟩ rfl (Nat.le_of_ble_eq_true rfl) ⟨rfl, rfl⟩ ⟨Nat.le_of_ble_eq_true rfl, Nat.le_of_ble_eq_true rfl⟩ ?_
              refine gg_okS (sp_J_min) dc_A_approach_57 ml_A_142 ce_J_min ⟨Nat.le_of_ble_eq_true rfl, Nat.le_of_ble_eq_true rfl⟩ rfl (Nat.le_of_ble_eq_true rfl) ⟨rfl, rfl⟩ ⟨Nat.le_of_ble_eq_true rfl, Nat.le_of_ble_eq_true rfl⟩ ?_
              refine gg_ist (i := 6) dc_A_approach_60 (Nat.le_of_ble_eq_true rfl) rfl ?_
              dsimp only [List.set]
              refine gg_aldn dc_A_approach_62 rfl rfl ?_
              refine gg_ildn dc_A_approach_63 rfl rfl ?_
              refine gg_ild dc_A_approach_64 rfl ?_
              refine gx_callA (sp_A_makeMicrosteps hx hX) hF dc_A_approach_66 ml_A_145 ce_A_makeMicrosteps ⟨Nat.le_of_ble_eq_true rfl, Nat.le_of_ble_eq_true rfl⟩ x0 rfl rfl (Nat.le_of_ble_eq_true rfl) ⟨rfl, rfl⟩ ⟨Nat.le_of_ble_eq_true rfl, Nat.le_of_ble_eq_true rfl⟩ (fun ν hX hF => ?_)
              dsimp only [Option.toList, List.cons_append, List.nil_append]
              refine gg_ild dc_A_approach_69 rfl ?_
              refine gg_ild dc_A_approach_71 rfl ?_
              refine gg_isub dc_A_approach_73 ?_
              refine gg_ist (i := 4) dc_A_approach_74 (Nat.le_of_ble_eq_true rfl) rfl ?_
              dsimp only [List.set]
              refine gg_goto dc_A_approach_76 ?_
              have hR : ap_S e d f (mm_S S d (tq_S S e d left)) (left - tq_S S e d left) = R := by rw [← hR]; exact ((if_neg c_5).trans ((if_neg c_16).trans ((if_neg c_21).trans (if_pos c_28)))).symm
              refine gg_L (ih _ _ _ hX hF ?_ hR) (fun i v h9 => lc_mid [_, _, _, _, _, _] [] _ i v (lc_mid [_, _, _, _, _] [_] _ i v h9))
              exact Nat.le_of_lt_succ (Nat.lt_of_lt_of_le (tk_dec (lf_1 c_5 c_21)) hf)
            · refine gg_iconst (v := (-1)) dc_A_approach_31 (by decide) ?_
              exact gg_iret dc_A_approach_32 rfl ⟨Nat.le_of_ble_eq_true rfl, Nat.le_of_ble_eq_true rfl⟩ (by rw [← hR]; unfold ap_S; rw [if_neg c_5, if_neg c_16, if_neg c_21, if_neg c_28]; exact ⟨_, rfl, rfl, hX, hF⟩)
  refine gg_ildn dc_A_approach_0 rfl rfl ?_
  refine gg_ist (i := 4) dc_A_approach_1 (Nat.le_of_ble_eq_true rfl) rfl ?_
  dsimp only [List.set]
  exact loop _ _ _ _ _ _ _ hX fr_rf (Nat.le_refl _) rfl
set_option maxRecDepth 100000 in
set_option maxHeartbeats 4000000 in
theorem sp_A_seek {Γ : cx_T} {τ : Nat × (Nat → sh_T)} {ν : Nat → Nat → Int32} {a : Nat} {S : Nat → Int32} (hx : sh_X τ.2 a) (hX : AX ν a S) {w : Int32} : mt_P Γ mk_A_seek [.ref a, .int w] (τ, ν) (ax_Q τ ν a (some (.int (sk_S S w).2)) (sk_S S w).1) := by
  refine mt_of (L := [some (.ref a), some (.int w), none, none, none]) (by decide +kernel) (by simp [Value.category]) (Nat.le_of_ble_eq_true rfl) (lc_2_5 ()) ?_
  obtain ⟨x0, x1, x2, x3, x4, x5⟩ := id hx
  have tail : ∀ d e : Int32, gg_P Γ mk_A_seek (fun v μ' => ∃ ν' : Nat → Nat → Int32, v = some (.int (sk_R (sk_2 e d S)).2) ∧ μ' = (τ, ν') ∧ AX ν' a (sk_R (sk_2 e d S)).1 ∧ fr_P ν ν' a) 0 0 26 [some (.ref a), some (.int w), some (.int d), some (.int e), none] [] (τ, ν) := by
    intro d e
    have hF : fr_P ν ν a := fr_rf
    unfold sk_R sk_2 sk_1
    refine gg_aldn dc_A_seek_26 rfl rfl ?_
    refine gg_ildn dc_A_seek_27 rfl rfl ?_
    refine gg_ildn dc_A_seek_28 rfl rfl ?_
    refine gg_bipush (v := 17) dc_A_seek_29 (by decide) ?_
    refine gg_imul dc_A_seek_31 ?_
    refine gg_iadd dc_A_seek_32 ?_
    refine gg_ildn dc_A_seek_33 rfl rfl ?_
    refine gg_sipush (v := 20000) dc_A_seek_34 (by decide) ?_
    refine gx_top (show 20000 = sk_L from rfl) ?_
    refine gx_callA (sp_A_approach hx hX) hF dc_A_seek_37 ml_A_159 ce_A_approach ⟨Nat.le_of_ble_eq_true rfl, Nat.le_of_ble_eq_true rfl⟩ x0 rfl rfl (Nat.le_of_ble_eq_true rfl) ⟨rfl, rfl⟩ ⟨Nat.le_of_ble_eq_true rfl, Nat.le_of_ble_eq_true rfl⟩ (fun ν hX hF => ?_)
    dsimp only [Option.toList, List.cons_append, List.nil_append]
    refine gg_ist (i := 4) dc_A_seek_40 (Nat.le_of_ble_eq_true rfl) rfl ?_
    dsimp only [List.set]
    refine gg_aldn dc_A_seek_42 rfl rfl ?_
    refine gg_ildn dc_A_seek_43 rfl rfl ?_
    refine gg_ildn dc_A_seek_44 rfl rfl ?_
    refine gg_ineg dc_A_seek_45 ?_
    refine gg_ild dc_A_seek_46 rfl ?_
    refine gx_callA (sp_A_approach hx hX) hF dc_A_seek_48 ml_A_159 ce_A_approach ⟨Nat.le_of_ble_eq_true rfl, Nat.le_of_ble_eq_true rfl⟩ x0 rfl rfl (Nat.le_of_ble_eq_true rfl) ⟨rfl, rfl⟩ ⟨Nat.le_of_ble_eq_true rfl, Nat.le_of_ble_eq_true rfl⟩ (fun ν hX hF => ?_)
    dsimp only [Option.toList, List.cons_append, List.nil_append]
    refine gg_ist (i := 4) dc_A_seek_51 (Nat.le_of_ble_eq_true rfl) rfl ?_
    dsimp only [List.set]
    refine gg_ild dc_A_seek_53 rfl ?_
    refine gg_ifge dc_A_seek_55 (fun c_55 => ?_) (fun c_55 => ?_)
    · refine gg_aldn dc_A_seek_60 rfl rfl ?_
      refine gg_iconst (v := 5) dc_A_seek_61 (by decide) ?_
      refine gg_iconst (v := 1) dc_A_seek_62 (by decide) ?_
      refine gx_callA (sp_A_tally hx hX (k := 5) (s := 17) rfl (by omega) rfl) hF dc_A_seek_63 ml_A_163 ce_A_tally ⟨Nat.le_of_ble_eq_true rfl, Nat.le_of_ble_eq_true rfl⟩ x0 rfl rfl (Nat.le_of_ble_eq_true rfl) ⟨rfl, rfl⟩ ⟨Nat.le_of_ble_eq_true rfl, Nat.le_of_ble_eq_true rfl⟩ (fun ν hX hF => ?_)
      dsimp only [Option.toList, List.cons_append, List.nil_append]
      refine gg_iconst (v := 1) dc_A_seek_66 (by decide) ?_
      exact gg_zret dc_A_seek_67 rfl (by first | exact Or.inl rfl | exact Or.inr rfl | assumption) ⟨Nat.le_of_ble_eq_true rfl, Nat.le_of_ble_eq_true rfl⟩ (by rw [if_pos c_55]; exact ⟨_, rfl, rfl, hX, hF⟩)
    · refine gg_iconst (v := 0) dc_A_seek_58 (by decide) ?_
      exact gg_zret dc_A_seek_59 rfl (by first | exact Or.inl rfl | exact Or.inr rfl | assumption) ⟨Nat.le_of_ble_eq_true rfl, Nat.le_of_ble_eq_true rfl⟩ (by rw [if_neg c_55]; exact ⟨_, rfl, rfl, hX, hF⟩)
  refine gg_ildn dc_A_seek_0 rfl rfl ?_
  refine gg_ifne dc_A_seek_1 (fun c_1 => ?_) (fun c_1 => ?_)
  · refine gg_iconst (v := 1) dc_A_seek_8 (by decide) ?_
    refine gg_istn (i := 2) dc_A_seek_9 rfl (Nat.le_of_ble_eq_true rfl) rfl ?_
    dsimp only [List.set]
    refine gg_ildn dc_A_seek_10 rfl rfl ?_
    refine gg_ifne dc_A_seek_11 (fun c_11 => ?_) (fun c_11 => ?_)
    · refine gg_aldn dc_A_seek_21 rfl rfl ?_
      refine gx_axi (k := 7) (s := 20) dc_A_seek_22 lf_A_54 x0 hX rfl ⟨Nat.le_of_ble_eq_true rfl, Nat.le_of_ble_eq_true rfl⟩ rfl ?_
      refine gg_istn (i := 3) dc_A_seek_25 rfl (Nat.le_of_ble_eq_true rfl) rfl ?_
      dsimp only [List.set]
      have e1 : sk_D w = 1 := by unfold sk_D; rw [if_pos c_1]
      have e2 : sk_E S w = S 20 := by unfold sk_E; rw [if_pos c_1]
      unfold ax_Q sk_S
      rw [e1, e2]
      exact tail _ _
    · exact absurd c_11 c_1
  · refine gg_iconst (v := -1) dc_A_seek_4 (by decide) ?_
    refine gg_goto dc_A_seek_5 ?_
    refine gg_istn (i := 2) dc_A_seek_9 rfl (Nat.le_of_ble_eq_true rfl) rfl ?_
    dsimp only [List.set]
    refine gg_ildn dc_A_seek_10 rfl rfl ?_
    refine gg_ifne dc_A_seek_11 (fun c_11 => ?_) (fun c_11 => ?_)
    · exact absurd (by first | exact c_1 | exact Classical.not_not.mp c_1) c_11
    · refine gg_aldn dc_A_seek_14 rfl rfl ?_
      refine gx_axi (k := 6) (s := 19) dc_A_seek_15 lf_A_50 x0 hX rfl ⟨Nat.le_of_ble_eq_true rfl, Nat.le_of_ble_eq_true rfl⟩ rfl ?_
      refine gg_goto dc_A_seek_18 ?_
      refine gg_istn (i := 3) dc_A_seek_25 rfl (Nat.le_of_ble_eq_true rfl) rfl ?_
      dsimp only [List.set]
      have e1 : sk_D w = -1 := by unfold sk_D; rw [if_neg (by first | exact c_1 | exact not_not_intro c_1)]
      have e2 : sk_E S w = S 19 := by unfold sk_E; rw [if_neg (by first | exact c_1 | exact not_not_intro c_1)]
      unfold ax_Q sk_S
      rw [e1, e2]
      exact tail _ _
