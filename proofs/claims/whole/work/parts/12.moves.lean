/-! the axis: moves and seeking -/
def al_S (S : Nat → Int32) (d : Int32) : Int32 := if sl_S S = 1 then 1000000000 else if S 0 ≤ 0 ∨ ¬ S 9 = 0 ∨ S 8 < S 7 - S 4 ∨ S 7 < S 8 then 1 else (if d ≤ 0 then S 7 - pk_I (ut_N (ls_P S 21) (S 8) (ls_n S 21) 0) (ls_P S 21) (-1000000000) else pa_I S 21 (S 8) - 1 - (S 7 - S 4)) / S 0 + 1
def tk_S (S : Nat → Int32) (d left : Int32) : Int32 := mn_I left (mx_I 1 (al_S S d))
def tl_S : Nat → (Nat → Int32) → Int32 → Int32 → Int32 → (Nat → Int32) × Int32
  | 0, S, _, _, h => (S, h)
  | f + 1, S, d, left, h => if left ≤ 0 then (S, h) else tl_S f (mm_S S d (tk_S S d left)) d (left - tk_S S d left) (mx_I h (lo_S S (S 8)))
def st_S (S : Nat → Int32) (x : Int32) : Int32 := if 0 < S 0 then (x - S 6) / S 0 else 0
def tv_S (S : Nat → Int32) (x : Int32) : (Nat → Int32) × Int32 := if ip_I (ai_S S x) = 0 then (S, 0) else tl_S (ab_I (st_S S (ai_S S x))).toNatClampNeg S (sg_I (st_S S (ai_S S x))) (ab_I (st_S S (ai_S S x))) 0
theorem cn_le {x : Int32} (h : x.toNatClampNeg ≤ 0) : x ≤ 0 := by
  rw [Int32.le_iff_toInt_le, Int32.toInt_zero]
  have : x.toInt.toNat ≤ 0 := h
  omega
theorem cn_pos {x : Int32} (h : ¬ x ≤ 0) : 0 < x.toNatClampNeg := by
  rw [Int32.le_iff_toInt_le, Int32.toInt_zero] at h
  show 0 < x.toInt.toNat
  omega
theorem tk_in {x y : Int32} (h : ¬ x ≤ 0) : 1 ≤ (mn_I x (mx_I 1 y)).toInt ∧ (mn_I x (mx_I 1 y)).toInt ≤ x.toInt := by
  rw [Int32.le_iff_toInt_le, Int32.toInt_zero] at h
  have e1 : (1 : Int32).toInt = 1 := by decide
  have key : ∀ z : Int32, 1 ≤ z.toInt → 1 ≤ (mn_I x z).toInt ∧ (mn_I x z).toInt ≤ x.toInt := by
    intro z hz
    unfold mn_I
    by_cases c : z < x
    · rw [if_pos c]
      rw [Int32.lt_iff_toInt_lt] at c
      omega
    · rw [if_neg c]
      omega
  refine key _ ?_
  unfold mx_I
  by_cases c : 1 < y
  · rw [if_pos c]
    rw [Int32.lt_iff_toInt_lt] at c
    omega
  · rw [if_neg c]
    omega
theorem tk_dec {x y : Int32} (h : ¬ x ≤ 0) : (x - mn_I x (mx_I 1 y)).toNatClampNeg < x.toNatClampNeg := by
  obtain ⟨h1, h2⟩ := tk_in (y := y) h
  have hx := x.toInt_lt
  have e : (x - mn_I x (mx_I 1 y)).toInt = x.toInt - (mn_I x (mx_I 1 y)).toInt := by
    rw [Int32.toInt_sub]
    refine Int.bmod_eq_of_le ?_ ?_ <;> simp <;> omega
  show (x - mn_I x (mx_I 1 y)).toInt.toNat < x.toInt.toNat
  rw [e]
  omega
theorem lc_mid (l1 l2 : List (Option Value)) (o : Option Value) : ∀ (i : Nat) (v : Value), (l1 ++ none :: l2)[i]? = some (some v) → (l1 ++ o :: l2)[i]? = some (some v) := by
  intro i v h
  by_cases h1 : i < l1.length
  · rw [List.getElem?_append_left h1] at h ⊢; exact h
  · rw [List.getElem?_append_right (by omega)] at h ⊢
    by_cases h2 : i = l1.length
    · subst h2; simp at h
    · obtain ⟨k, hk⟩ : ∃ k, i - l1.length = k + 1 := ⟨i - l1.length - 1, by omega⟩
      rw [hk] at h ⊢
      simpa using h
set_option maxRecDepth 100000 in
set_option maxHeartbeats 4000000 in
theorem sp_A_microstepsAlike {Γ : cx_T} {τ : Nat × (Nat → sh_T)} {ν : Nat → Nat → Int32} {a : Nat} {S : Nat → Int32} (hx : sh_X τ.2 a) (hX : AX ν a S) {d : Int32} : mt_P Γ mk_A_microstepsAlike [.ref a, .int d] (τ, ν) (fun v μ' => v = some (.int (al_S S d)) ∧ μ' = (τ, ν)) := by
  refine mt_of (L := [some (.ref a), some (.int d), none, none, none]) (by decide +kernel) (by simp [Value.category]) (Nat.le_of_ble_eq_true rfl) (lc_2_5 ()) ?_
  obtain ⟨x0, x1, x2, x3, x4, x5⟩ := id hx
  refine gg_aldn dc_A_microstepsAlike_0 rfl rfl ?_
  refine gg_okV (sp_A_stalls hx hX) dc_A_microstepsAlike_1 ml_A_167 ce_A_stalls ⟨Nat.le_of_ble_eq_true rfl, Nat.le_of_ble_eq_true rfl⟩ x0 rfl rfl (Nat.le_of_ble_eq_true rfl) ⟨rfl, rfl⟩ ⟨Nat.le_of_ble_eq_true rfl, Nat.le_of_ble_eq_true rfl⟩ ?_
  refine gg_ifeq dc_A_microstepsAlike_4 (fun c_4 => ?_) (fun c_4 => ?_)
  · refine gg_aldn dc_A_microstepsAlike_10 rfl rfl ?_
    refine gg_iconst (v := 0) dc_A_microstepsAlike_11 (by decide) ?_
    refine gg_okV (sp_A_number hx hX (k := 0) rfl (by omega)) dc_A_microstepsAlike_12 ml_A_97 ce_A_number ⟨Nat.le_of_ble_eq_true rfl, Nat.le_of_ble_eq_true rfl⟩ x0 rfl rfl (Nat.le_of_ble_eq_true rfl) ⟨rfl, rfl⟩ ⟨Nat.le_of_ble_eq_true rfl, Nat.le_of_ble_eq_true rfl⟩ ?_
    refine gg_istn (i := 2) dc_A_microstepsAlike_15 rfl (Nat.le_of_ble_eq_true rfl) ?_
    dsimp only [List.set]
    refine gg_aldn dc_A_microstepsAlike_16 rfl rfl ?_
    refine gx_axi (k := 9) (s := 7) dc_A_microstepsAlike_17 lf_A_62 x0 hX rfl ⟨Nat.le_of_ble_eq_true rfl, Nat.le_of_ble_eq_true rfl⟩ rfl ?_
    refine gg_aldn dc_A_microstepsAlike_20 rfl rfl ?_
    refine gg_iconst (v := 4) dc_A_microstepsAlike_21 (by decide) ?_
    refine gg_okV (sp_A_number hx hX (k := 4) rfl (by omega)) dc_A_microstepsAlike_22 ml_A_97 ce_A_number ⟨Nat.le_of_ble_eq_true rfl, Nat.le_of_ble_eq_true rfl⟩ x0 rfl rfl (Nat.le_of_ble_eq_true rfl) ⟨rfl, rfl⟩ ⟨Nat.le_of_ble_eq_true rfl, Nat.le_of_ble_eq_true rfl⟩ ?_
    refine gg_isub dc_A_microstepsAlike_25 ?_
    refine gg_istn (i := 3) dc_A_microstepsAlike_26 rfl (Nat.le_of_ble_eq_true rfl) ?_
    dsimp only [List.set]
    refine gg_ildn dc_A_microstepsAlike_27 rfl rfl ?_
    refine gg_ifle dc_A_microstepsAlike_28 (fun c_28 => ?_) (fun c_28 => ?_)
    · refine gg_iconst (v := 1) dc_A_microstepsAlike_57 (by decide) ?_
      exact gg_iret dc_A_microstepsAlike_58 rfl ⟨Nat.le_of_ble_eq_true rfl, Nat.le_of_ble_eq_true rfl⟩ (⟨by unfold al_S; rw [if_neg (show ¬ sl_S S = 1 by rw [c_4]; decide)]; rw [if_pos (Or.inl c_28)], rfl⟩)
    · refine gg_aldn dc_A_microstepsAlike_31 rfl rfl ?_
      refine gx_axi (k := 11) (s := 9) dc_A_microstepsAlike_32 lf_A_68 x0 hX rfl ⟨Nat.le_of_ble_eq_true rfl, Nat.le_of_ble_eq_true rfl⟩ rfl ?_
      refine gg_ifne dc_A_microstepsAlike_35 (fun c_35 => ?_) (fun c_35 => ?_)
      · refine gg_iconst (v := 1) dc_A_microstepsAlike_57 (by decide) ?_
        exact gg_iret dc_A_microstepsAlike_58 rfl ⟨Nat.le_of_ble_eq_true rfl, Nat.le_of_ble_eq_true rfl⟩ (⟨by unfold al_S; rw [if_neg (show ¬ sl_S S = 1 by rw [c_4]; decide)]; rw [if_pos (Or.inr (Or.inl c_35))], rfl⟩)
      · refine gg_aldn dc_A_microstepsAlike_38 rfl rfl ?_
        refine gx_axi (k := 10) (s := 8) dc_A_microstepsAlike_39 lf_A_65 x0 hX rfl ⟨Nat.le_of_ble_eq_true rfl, Nat.le_of_ble_eq_true rfl⟩ rfl ?_
        refine gg_ildn dc_A_microstepsAlike_42 rfl rfl ?_
        refine gg_iclt dc_A_microstepsAlike_43 (fun c_43 => ?_) (fun c_43 => ?_)
        · refine gg_iconst (v := 1) dc_A_microstepsAlike_57 (by decide) ?_
          exact gg_iret dc_A_microstepsAlike_58 rfl ⟨Nat.le_of_ble_eq_true rfl, Nat.le_of_ble_eq_true rfl⟩ (⟨by unfold al_S; rw [if_neg (show ¬ sl_S S = 1 by rw [c_4]; decide)]; rw [if_pos (Or.inr (Or.inr (Or.inl c_43)))], rfl⟩)
        · refine gg_aldn dc_A_microstepsAlike_46 rfl rfl ?_
          refine gx_axi (k := 10) (s := 8) dc_A_microstepsAlike_47 lf_A_65 x0 hX rfl ⟨Nat.le_of_ble_eq_true rfl, Nat.le_of_ble_eq_true rfl⟩ rfl ?_
          refine gg_aldn dc_A_microstepsAlike_50 rfl rfl ?_
          refine gx_axi (k := 9) (s := 7) dc_A_microstepsAlike_51 lf_A_62 x0 hX rfl ⟨Nat.le_of_ble_eq_true rfl, Nat.le_of_ble_eq_true rfl⟩ rfl ?_
          refine gg_icle dc_A_microstepsAlike_54 (fun c_54 => ?_) (fun c_54 => ?_)
          · refine gg_ildn dc_A_microstepsAlike_59 rfl rfl ?_
            refine gg_ifle dc_A_microstepsAlike_60 (fun c_60 => ?_) (fun c_60 => ?_)
            · refine gg_aldn dc_A_microstepsAlike_81 rfl rfl ?_
              refine gx_axi (k := 9) (s := 7) dc_A_microstepsAlike_82 lf_A_62 x0 hX rfl ⟨Nat.le_of_ble_eq_true rfl, Nat.le_of_ble_eq_true rfl⟩ rfl ?_
              refine gg_aldn dc_A_microstepsAlike_85 rfl rfl ?_
              refine gg_getr dc_A_microstepsAlike_86 lf_A_21 x0 rfl ?_
              refine gg_aldn dc_A_microstepsAlike_89 rfl rfl ?_
              refine gx_axi (k := 10) (s := 8) dc_A_microstepsAlike_90 lf_A_65 x0 hX rfl ⟨Nat.le_of_ble_eq_true rfl, Nat.le_of_ble_eq_true rfl⟩ rfl ?_
              refine gg_okV (sp_P_puR x3 hX.2.2.2.2.1) dc_A_microstepsAlike_93 ml_A_175 ce_P_placeUpTo ⟨Nat.le_of_ble_eq_true rfl, Nat.le_of_ble_eq_true rfl⟩ x3.1 rfl rfl (Nat.le_of_ble_eq_true rfl) ⟨rfl, rfl⟩ ⟨Nat.le_of_ble_eq_true rfl, Nat.le_of_ble_eq_true rfl⟩ ?_
              refine gg_isub dc_A_microstepsAlike_96 ?_
              refine gg_ist (i := 4) dc_A_microstepsAlike_97 (Nat.le_of_ble_eq_true rfl) ?_
              dsimp only [List.set]
              refine gg_ild dc_A_microstepsAlike_99 rfl ?_
              refine gg_ildn dc_A_microstepsAlike_101 rfl rfl ?_
              refine gg_idiv dc_A_microstepsAlike_102 (fun e => c_28 (by rw [e]; exact Int32.le_refl _)) ?_
              refine gg_iconst (v := 1) dc_A_microstepsAlike_103 (by decide) ?_
              refine gg_iadd dc_A_microstepsAlike_104 ?_
              exact gg_iret dc_A_microstepsAlike_105 rfl ⟨Nat.le_of_ble_eq_true rfl, Nat.le_of_ble_eq_true rfl⟩ (⟨by unfold al_S; rw [if_neg (show ¬ sl_S S = 1 by rw [c_4]; decide)]; rw [if_neg (show ¬ (S 0 ≤ 0 ∨ ¬ S 9 = 0 ∨ S 8 < S 7 - S 4 ∨ S 7 < S 8) from fun h => by rcases h with h | h | h | h; exact c_28 h; exact h c_35; exact c_43 h; exact Int32.not_lt.mpr c_54 h)]; rw [if_pos c_60], rfl⟩)
            · refine gg_aldn dc_A_microstepsAlike_63 rfl rfl ?_
              refine gg_getr dc_A_microstepsAlike_64 lf_A_21 x0 rfl ?_
              refine gg_aldn dc_A_microstepsAlike_67 rfl rfl ?_
              refine gx_axi (k := 10) (s := 8) dc_A_microstepsAlike_68 lf_A_65 x0 hX rfl ⟨Nat.le_of_ble_eq_true rfl, Nat.le_of_ble_eq_true rfl⟩ rfl ?_
              refine gg_okV (sp_P_paR x3 hX.2.2.2.2.1) dc_A_microstepsAlike_71 ml_A_172 ce_P_placeAbove ⟨Nat.le_of_ble_eq_true rfl, Nat.le_of_ble_eq_true rfl⟩ x3.1 rfl rfl (Nat.le_of_ble_eq_true rfl) ⟨rfl, rfl⟩ ⟨Nat.le_of_ble_eq_true rfl, Nat.le_of_ble_eq_true rfl⟩ ?_
              refine gg_iconst (v := 1) dc_A_microstepsAlike_74 (by decide) ?_
              refine gg_isub dc_A_microstepsAlike_75 ?_
              refine gg_ildn dc_A_microstepsAlike_76 rfl rfl ?_
              refine gg_isub dc_A_microstepsAlike_77 ?_
              refine gg_goto dc_A_microstepsAlike_78 ?_
              refine gg_ist (i := 4) dc_A_microstepsAlike_97 (Nat.le_of_ble_eq_true rfl) ?_
              dsimp only [List.set]
              refine gg_ild dc_A_microstepsAlike_99 rfl ?_
              refine gg_ildn dc_A_microstepsAlike_101 rfl rfl ?_
              refine gg_idiv dc_A_microstepsAlike_102 (fun e => c_28 (by rw [e]; exact Int32.le_refl _)) ?_
              refine gg_iconst (v := 1) dc_A_microstepsAlike_103 (by decide) ?_
              refine gg_iadd dc_A_microstepsAlike_104 ?_
              exact gg_iret dc_A_microstepsAlike_105 rfl ⟨Nat.le_of_ble_eq_true rfl, Nat.le_of_ble_eq_true rfl⟩ (⟨by unfold al_S; rw [if_neg (show ¬ sl_S S = 1 by rw [c_4]; decide)]; rw [if_neg (show ¬ (S 0 ≤ 0 ∨ ¬ S 9 = 0 ∨ S 8 < S 7 - S 4 ∨ S 7 < S 8) from fun h => by rcases h with h | h | h | h; exact c_28 h; exact h c_35; exact c_43 h; exact Int32.not_lt.mpr c_54 h)]; rw [if_neg c_60], rfl⟩)
          · refine gg_iconst (v := 1) dc_A_microstepsAlike_57 (by decide) ?_
            exact gg_iret dc_A_microstepsAlike_58 rfl ⟨Nat.le_of_ble_eq_true rfl, Nat.le_of_ble_eq_true rfl⟩ (⟨by unfold al_S; rw [if_neg (show ¬ sl_S S = 1 by rw [c_4]; decide)]; rw [if_pos (Or.inr (Or.inr (Or.inr (Int32.not_le.mp c_54))))], rfl⟩)
  · refine gg_ldc dc_A_microstepsAlike_7 lk_A_171 ?_
    exact gg_iret dc_A_microstepsAlike_9 rfl ⟨Nat.le_of_ble_eq_true rfl, Nat.le_of_ble_eq_true rfl⟩ (⟨by unfold al_S; rw [if_pos (by unfold sl_S at c_4 ⊢; split at c_4 <;> simp_all)], rfl⟩)
set_option maxRecDepth 100000 in
set_option maxHeartbeats 4000000 in
theorem sp_A_travel {Γ : cx_T} {τ : Nat × (Nat → sh_T)} {ν : Nat → Nat → Int32} {a : Nat} {S : Nat → Int32} (hx : sh_X τ.2 a) (hX : AX ν a S) {x : Int32} : mt_P Γ mk_A_travel [.ref a, .int x] (τ, ν) (ax_Q τ ν a (some (.int (tv_S S x).2)) (tv_S S x).1) := by
  refine mt_of (L := [some (.ref a), some (.int x), none, none, none, none, none]) (by decide +kernel) (by simp [Value.category]) (Nat.le_of_ble_eq_true rfl) (lc_2_7 ()) ?_
  obtain ⟨x0, x1, x2, x3, x4, x5⟩ := id hx
  have loop : ∀ (ν0 : Nat → Nat → Int32) (w d : Int32) (R : (Nat → Int32) × Int32) (f : Nat) (ν : Nat → Nat → Int32) (S : Nat → Int32) (left h : Int32), AX ν a S → fr_P ν0 ν a → left.toNatClampNeg ≤ f → tl_S f S d left h = R → gg_P Γ mk_A_travel (fun v μ' => ∃ ν' : Nat → Nat → Int32, v = some (.int R.2) ∧ μ' = (τ, ν') ∧ AX ν' a R.1 ∧ fr_P ν0 ν' a) 0 0 34 [some (.ref a), some (.int x), some (.int h), some (.int w), some (.int d), some (.int left), none] [] (τ, ν) := by
    intro ν0 w d R f
    induction f with
    | zero =>
      intro ν S left h hX hF hf hR
      refine gg_ild dc_A_travel_34 rfl ?_
      refine gg_ifle dc_A_travel_36 (fun c_36 => ?_) (fun c_36 => ?_)
      · refine gg_ildn dc_A_travel_87 rfl rfl ?_
        exact gg_iret dc_A_travel_88 rfl ⟨Nat.le_of_ble_eq_true rfl, Nat.le_of_ble_eq_true rfl⟩ (by rw [← hR]; exact ⟨_, rfl, rfl, hX, hF⟩)
      · exact absurd (cn_le hf) c_36
    | succ f ih =>
      intro ν S left h hX hF hf hR
      refine gg_ild dc_A_travel_34 rfl ?_
      refine gg_ifle dc_A_travel_36 (fun c_36 => ?_) (fun c_36 => ?_)
      · refine gg_ildn dc_A_travel_87 rfl rfl ?_
        exact gg_iret dc_A_travel_88 rfl ⟨Nat.le_of_ble_eq_true rfl, Nat.le_of_ble_eq_true rfl⟩ (by rw [← hR]; unfold tl_S; rw [if_pos c_36]; exact ⟨_, rfl, rfl, hX, hF⟩)
      · refine gg_ildn dc_A_travel_39 rfl rfl ?_
        refine gg_aldn dc_A_travel_40 rfl rfl ?_
        refine gg_aldn dc_A_travel_41 rfl rfl ?_
        refine gx_axi (k := 10) (s := 8) dc_A_travel_42 lf_A_65 x0 hX rfl ⟨Nat.le_of_ble_eq_true rfl, Nat.le_of_ble_eq_true rfl⟩ rfl ?_
        refine gg_okV (sp_A_loadOn hx hX) dc_A_travel_45 ml_A_103 ce_A_loadOn ⟨Nat.le_of_ble_eq_true rfl, Nat.le_of_ble_eq_true rfl⟩ x0 rfl rfl (Nat.le_of_ble_eq_true rfl) ⟨rfl, rfl⟩ ⟨Nat.le_of_ble_eq_true rfl, Nat.le_of_ble_eq_true rfl⟩ ?_
        refine gg_okS (sp_J_max) dc_A_travel_48 ml_A_110 ce_J_max ⟨Nat.le_of_ble_eq_true rfl, Nat.le_of_ble_eq_true rfl⟩ rfl (Nat.le_of_ble_eq_true rfl) ⟨rfl, rfl⟩ ⟨Nat.le_of_ble_eq_true rfl, Nat.le_of_ble_eq_true rfl⟩ ?_
        refine gg_istn (i := 2) dc_A_travel_51 rfl (Nat.le_of_ble_eq_true rfl) ?_
        dsimp only [List.set]
        refine gg_ild dc_A_travel_52 rfl ?_
        refine gg_iconst (v := 1) dc_A_travel_54 (by decide) ?_
        refine gg_aldn dc_A_travel_55 rfl rfl ?_
        refine gg_ild dc_A_travel_56 rfl ?_
        refine gg_okV (sp_A_microstepsAlike hx hX) dc_A_travel_58 ml_A_141 ce_A_microstepsAlike ⟨Nat.le_of_ble_eq_true rfl, Nat.le_of_ble_eq_true rfl⟩ x0 rfl rfl (Nat.le_of_ble_eq_true rfl) ⟨rfl, rfl⟩ ⟨Nat.le_of_ble_eq_true rfl, Nat.le_of_ble_eq_true rfl⟩ ?_
        refine gg_okS (sp_J_max) dc_A_travel_61 ml_A_110 ce_J_max ⟨Nat.le_of_ble_eq_true rfl, Nat.le_of_ble_eq_true rfl⟩ rfl (Nat.le_of_ble_eq_true rfl) ⟨rfl, rfl⟩ ⟨Nat.le_of_ble_eq_true rfl, Nat.le_of_ble_eq_true rfl⟩ ?_
        refine gg_okS (sp_J_min) dc_A_travel_64 ml_A_144 ce_J_min ⟨Nat.le_of_ble_eq_true rfl, Nat.le_of_ble_eq_true rfl⟩ rfl (Nat.le_of_ble_eq_true rfl) ⟨rfl, rfl⟩ ⟨Nat.le_of_ble_eq_true rfl, Nat.le_of_ble_eq_true rfl⟩ ?_
        refine gg_ist (i := 6) dc_A_travel_67 (Nat.le_of_ble_eq_true rfl) ?_
        dsimp only [List.set]
        refine gg_aldn dc_A_travel_69 rfl rfl ?_
        refine gg_ild dc_A_travel_70 rfl ?_
        refine gg_ild dc_A_travel_72 rfl ?_
        refine gx_callA (sp_A_makeMicrosteps hx hX) hF dc_A_travel_74 ml_A_147 ce_A_makeMicrosteps ⟨Nat.le_of_ble_eq_true rfl, Nat.le_of_ble_eq_true rfl⟩ x0 rfl rfl (Nat.le_of_ble_eq_true rfl) ⟨rfl, rfl⟩ ⟨Nat.le_of_ble_eq_true rfl, Nat.le_of_ble_eq_true rfl⟩ (fun ν hX hF => ?_)
        dsimp only [Option.toList, List.cons_append, List.nil_append]
        refine gg_ild dc_A_travel_77 rfl ?_
        refine gg_ild dc_A_travel_79 rfl ?_
        refine gg_isub dc_A_travel_81 ?_
        refine gg_ist (i := 5) dc_A_travel_82 (Nat.le_of_ble_eq_true rfl) ?_
        dsimp only [List.set]
        refine gg_goto dc_A_travel_84 ?_
        have hR : tl_S f (mm_S S d (tk_S S d left)) d (left - tk_S S d left) (mx_I h (lo_S S (S 8))) = R := by rw [← hR]; exact (if_neg c_36).symm
        refine gg_L (ih _ _ _ _ hX hF ?_ hR) (lc_mid [_, _, _, _, _, _] [] _)
        exact Nat.le_of_lt_succ (Nat.lt_of_lt_of_le (tk_dec c_36) hf)
  refine gg_iconst (v := 0) dc_A_travel_0 (by decide) ?_
  refine gg_istn (i := 2) dc_A_travel_1 rfl (Nat.le_of_ble_eq_true rfl) ?_
  dsimp only [List.set]
  refine gg_aldn dc_A_travel_2 rfl rfl ?_
  refine gg_ildn dc_A_travel_3 rfl rfl ?_
  refine gg_okV (sp_A_refuses hx hX) dc_A_travel_4 ml_A_129 ce_A_refuses ⟨Nat.le_of_ble_eq_true rfl, Nat.le_of_ble_eq_true rfl⟩ x0 rfl rfl (Nat.le_of_ble_eq_true rfl) ⟨rfl, rfl⟩ ⟨Nat.le_of_ble_eq_true rfl, Nat.le_of_ble_eq_true rfl⟩ ?_
  refine gg_ifeq dc_A_travel_7 (fun c_7 => ?_) (fun c_7 => ?_)
  · refine gg_aldn dc_A_travel_12 rfl rfl ?_
    refine gg_aldn dc_A_travel_13 rfl rfl ?_
    refine gg_ildn dc_A_travel_14 rfl rfl ?_
    refine gg_okV (sp_A_target hx hX) dc_A_travel_15 ml_A_122 ce_A_target ⟨Nat.le_of_ble_eq_true rfl, Nat.le_of_ble_eq_true rfl⟩ x0 rfl rfl (Nat.le_of_ble_eq_true rfl) ⟨rfl, rfl⟩ ⟨Nat.le_of_ble_eq_true rfl, Nat.le_of_ble_eq_true rfl⟩ ?_
    refine gg_okV (sp_A_microstepsTo hx hX) dc_A_travel_18 ml_A_132 ce_A_microstepsTo ⟨Nat.le_of_ble_eq_true rfl, Nat.le_of_ble_eq_true rfl⟩ x0 rfl rfl (Nat.le_of_ble_eq_true rfl) ⟨rfl, rfl⟩ ⟨Nat.le_of_ble_eq_true rfl, Nat.le_of_ble_eq_true rfl⟩ ?_
    refine gg_istn (i := 3) dc_A_travel_21 rfl (Nat.le_of_ble_eq_true rfl) ?_
    dsimp only [List.set]
    refine gg_ildn dc_A_travel_22 rfl rfl ?_
    refine gg_okS (sp_J_signum) dc_A_travel_23 ml_A_135 ce_J_signum ⟨Nat.le_of_ble_eq_true rfl, Nat.le_of_ble_eq_true rfl⟩ rfl (Nat.le_of_ble_eq_true rfl) ⟨rfl, rfl⟩ ⟨Nat.le_of_ble_eq_true rfl, Nat.le_of_ble_eq_true rfl⟩ ?_
    refine gg_ist (i := 4) dc_A_travel_26 (Nat.le_of_ble_eq_true rfl) ?_
    dsimp only [List.set]
    refine gg_ildn dc_A_travel_28 rfl rfl ?_
    refine gg_okS (sp_J_abs) dc_A_travel_29 ml_A_138 ce_J_abs ⟨Nat.le_of_ble_eq_true rfl, Nat.le_of_ble_eq_true rfl⟩ rfl (Nat.le_of_ble_eq_true rfl) ⟨rfl, rfl⟩ ⟨Nat.le_of_ble_eq_true rfl, Nat.le_of_ble_eq_true rfl⟩ ?_
    refine gg_ist (i := 5) dc_A_travel_32 (Nat.le_of_ble_eq_true rfl) ?_
    dsimp only [List.set]
    have e9 : tv_S S x = tl_S (ab_I (st_S S (ai_S S x))).toNatClampNeg S (sg_I (st_S S (ai_S S x))) (ab_I (st_S S (ai_S S x))) 0 := by unfold tv_S; rw [if_neg (by split at c_7 <;> simp_all)]
    unfold ax_Q
    rw [e9]
    exact loop _ _ _ _ _ _ _ _ _ hX fr_rf (Nat.le_refl _) rfl
  · refine gg_ildn dc_A_travel_10 rfl rfl ?_
    exact gg_iret dc_A_travel_11 rfl ⟨Nat.le_of_ble_eq_true rfl, Nat.le_of_ble_eq_true rfl⟩ (by unfold tv_S; rw [if_pos (by split at c_7 <;> simp_all)]; exact ⟨_, rfl, rfl, hX, fr_rf⟩)
set_option maxRecDepth 100000 in
set_option maxHeartbeats 4000000 in
theorem sp_A_travelUnstalled {Γ : cx_T} {τ : Nat × (Nat → sh_T)} {ν : Nat → Nat → Int32} {a : Nat} {S : Nat → Int32} (hx : sh_X τ.2 a) (hX : AX ν a S) {x : Int32} : mt_P Γ mk_A_travelUnstalled [.ref a, .int x] (τ, ν) (ax_Q τ ν a (some (.int (tv_S (upd (upd S 1 200) 3 0) x).2)) ((tv_S (upd (upd S 1 200) 3 0) x).1)) := by
  refine mt_of (L := [some (.ref a), some (.int x)]) (by decide +kernel) (by simp [Value.category]) (Nat.le_of_ble_eq_true rfl) (lc_2_2 ()) ?_
  obtain ⟨x0, x1, x2, x3, x4, x5⟩ := id hx
  have hF : fr_P ν ν a := fr_rf
  refine gg_aldn dc_A_travelUnstalled_0 rfl rfl ?_
  refine gg_iconst (v := 1) dc_A_travelUnstalled_1 (by decide) ?_
  refine gg_sipush (v := 200) dc_A_travelUnstalled_2 (by decide) ?_
  refine gx_callA (sp_A_changeNumber hx hX (k := 1) rfl (by omega)) hF dc_A_travelUnstalled_5 ml_A_151 ce_A_changeNumber ⟨Nat.le_of_ble_eq_true rfl, Nat.le_of_ble_eq_true rfl⟩ x0 rfl rfl (Nat.le_of_ble_eq_true rfl) ⟨rfl, rfl⟩ ⟨Nat.le_of_ble_eq_true rfl, Nat.le_of_ble_eq_true rfl⟩ (fun ν hX hF => ?_)
  dsimp only [Option.toList, List.cons_append, List.nil_append]
  refine gg_aldn dc_A_travelUnstalled_8 rfl rfl ?_
  refine gg_iconst (v := 3) dc_A_travelUnstalled_9 (by decide) ?_
  refine gg_iconst (v := 0) dc_A_travelUnstalled_10 (by decide) ?_
  refine gx_callA (sp_A_changeNumber hx hX (k := 3) rfl (by omega)) hF dc_A_travelUnstalled_11 ml_A_151 ce_A_changeNumber ⟨Nat.le_of_ble_eq_true rfl, Nat.le_of_ble_eq_true rfl⟩ x0 rfl rfl (Nat.le_of_ble_eq_true rfl) ⟨rfl, rfl⟩ ⟨Nat.le_of_ble_eq_true rfl, Nat.le_of_ble_eq_true rfl⟩ (fun ν hX hF => ?_)
  dsimp only [Option.toList, List.cons_append, List.nil_append]
  refine gg_aldn dc_A_travelUnstalled_14 rfl rfl ?_
  refine gg_ildn dc_A_travelUnstalled_15 rfl rfl ?_
  refine gx_callA (sp_A_travel hx hX) hF dc_A_travelUnstalled_16 ml_A_154 ce_A_travel ⟨Nat.le_of_ble_eq_true rfl, Nat.le_of_ble_eq_true rfl⟩ x0 rfl rfl (Nat.le_of_ble_eq_true rfl) ⟨rfl, rfl⟩ ⟨Nat.le_of_ble_eq_true rfl, Nat.le_of_ble_eq_true rfl⟩ (fun ν hX hF => ?_)
  dsimp only [Option.toList, List.cons_append, List.nil_append]
  exact gg_iret dc_A_travelUnstalled_19 rfl ⟨Nat.le_of_ble_eq_true rfl, Nat.le_of_ble_eq_true rfl⟩ (⟨_, rfl, rfl, hX, hF⟩)
def s1_S (e d : Int32) : Nat → (Nat → Int32) → (Nat → Int32) × Nat
  | 0, S => (S, 0)
  | f + 1, S => if 16 < (S 8 - e) * d then (S, f + 1) else s1_S e d f (mm_S S d 1)
def s2_S (e d : Int32) : Nat → (Nat → Int32) → (Nat → Int32) × Nat
  | 0, S => (S, 0)
  | f + 1, S => if (S 8 - e) * d ≤ 0 then (S, f + 1) else s2_S e d f (mm_S S (-d) 1)
def sk_D (w : Int32) : Int32 := if ¬ w = 0 then 1 else -1
def sk_E (S : Nat → Int32) (w : Int32) : Int32 := if ¬ w = 0 then S 20 else S 19
def sk_3 (e d : Int32) (T : Nat → Int32) : (Nat → Int32) × Int32 := if (T 8 - e) * d ≤ 0 then (upd T 17 (T 17 + 1), 1) else (T, 0)
def sk_2 (e d : Int32) (r : (Nat → Int32) × Nat) : (Nat → Int32) × Int32 := if 16 < (r.1 8 - e) * d then sk_3 e d (s2_S e d r.2 r.1).1 else (r.1, 0)
def sk_S (S : Nat → Int32) (w : Int32) : (Nat → Int32) × Int32 := sk_2 (sk_E S w) (sk_D w) (s1_S (sk_E S w) (sk_D w) 20000 S)
theorem s1_le {e d : Int32} : ∀ (f : Nat) (S : Nat → Int32), (s1_S e d f S).2 ≤ f
  | 0, S => Nat.le_refl 0
  | f + 1, S => by
    unfold s1_S
    split
    · exact Nat.le_refl _
    · exact Nat.le_succ_of_le (s1_le f _)
theorem s2_le {e d : Int32} : ∀ (f : Nat) (S : Nat → Int32), (s2_S e d f S).2 ≤ f
  | 0, S => Nat.le_refl 0
  | f + 1, S => by
    unfold s2_S
    split
    · exact Nat.le_refl _
    · exact Nat.le_succ_of_le (s2_le f _)
set_option maxRecDepth 100000 in
set_option maxHeartbeats 4000000 in
theorem sp_A_seek {Γ : cx_T} {τ : Nat × (Nat → sh_T)} {ν : Nat → Nat → Int32} {a : Nat} {S : Nat → Int32} (hx : sh_X τ.2 a) (hX : AX ν a S) {w : Int32} : mt_P Γ mk_A_seek [.ref a, .int w] (τ, ν) (ax_Q τ ν a (some (.int (sk_S S w).2)) (sk_S S w).1) := by
  refine mt_of (L := [some (.ref a), some (.int w), none, none, none]) (by decide +kernel) (by simp [Value.category]) (Nat.le_of_ble_eq_true rfl) (lc_2_5 ()) ?_
  obtain ⟨x0, x1, x2, x3, x4, x5⟩ := id hx
  have l3 : ∀ (ν0 : Nat → Nat → Int32) (e d : Int32) (R : (Nat → Int32) × Int32) (f : Nat) (ν : Nat → Nat → Int32) (S : Nat → Int32), AX ν a S → fr_P ν0 ν a → sk_3 e d S = R → gg_P Γ mk_A_seek (fun v μ' => ∃ ν' : Nat → Nat → Int32, v = some (.int R.2) ∧ μ' = (τ, ν') ∧ AX ν' a R.1 ∧ fr_P ν0 ν' a) 0 0 99 [some (.ref a), some (.int w), some (.int d), some (.int e), some (.int (nI f))] [] (τ, ν) := by
    intro ν0 e d R f ν S hX hF hR
    refine gg_aldn dc_A_seek_99 rfl rfl ?_
    refine gg_ildn dc_A_seek_100 rfl rfl ?_
    refine gg_ildn dc_A_seek_101 rfl rfl ?_
    refine gg_okV (sp_A_ticksBeyond hx hX) dc_A_seek_102 ml_A_161 ce_A_ticksBeyond ⟨Nat.le_of_ble_eq_true rfl, Nat.le_of_ble_eq_true rfl⟩ x0 rfl rfl (Nat.le_of_ble_eq_true rfl) ⟨rfl, rfl⟩ ⟨Nat.le_of_ble_eq_true rfl, Nat.le_of_ble_eq_true rfl⟩ ?_
    refine gg_ifle dc_A_seek_105 (fun c_105 => ?_) (fun c_105 => ?_)
    · refine gg_aldn dc_A_seek_110 rfl rfl ?_
      refine gg_iconst (v := 5) dc_A_seek_111 (by decide) ?_
      refine gg_iconst (v := 1) dc_A_seek_112 (by decide) ?_
      refine gx_callA (sp_A_tally hx hX (k := 5) (s := 17) rfl (by omega) rfl) hF dc_A_seek_113 ml_A_164 ce_A_tally ⟨Nat.le_of_ble_eq_true rfl, Nat.le_of_ble_eq_true rfl⟩ x0 rfl rfl (Nat.le_of_ble_eq_true rfl) ⟨rfl, rfl⟩ ⟨Nat.le_of_ble_eq_true rfl, Nat.le_of_ble_eq_true rfl⟩ (fun ν hX hF => ?_)
      dsimp only [Option.toList, List.cons_append, List.nil_append]
      refine gg_iconst (v := 1) dc_A_seek_116 (by decide) ?_
      exact gg_zret dc_A_seek_117 rfl (by first | exact Or.inl rfl | exact Or.inr rfl | assumption) ⟨Nat.le_of_ble_eq_true rfl, Nat.le_of_ble_eq_true rfl⟩ (by rw [← hR]; unfold sk_3; rw [if_pos c_105]; exact ⟨_, rfl, rfl, hX, hF⟩)
    · refine gg_iconst (v := 0) dc_A_seek_108 (by decide) ?_
      exact gg_zret dc_A_seek_109 rfl (by first | exact Or.inl rfl | exact Or.inr rfl | assumption) ⟨Nat.le_of_ble_eq_true rfl, Nat.le_of_ble_eq_true rfl⟩ (by rw [← hR]; unfold sk_3; rw [if_neg c_105]; exact ⟨_, rfl, rfl, hX, hF⟩)
  have l2 : ∀ (ν0 : Nat → Nat → Int32) (e d : Int32) (R : (Nat → Int32) × Int32) (f : Nat) (ν : Nat → Nat → Int32) (S : Nat → Int32), f ≤ 20000 → AX ν a S → fr_P ν0 ν a → sk_3 e d (s2_S e d f S).1 = R → gg_P Γ mk_A_seek (fun v μ' => ∃ ν' : Nat → Nat → Int32, v = some (.int R.2) ∧ μ' = (τ, ν') ∧ AX ν' a R.1 ∧ fr_P ν0 ν' a) 0 0 72 [some (.ref a), some (.int w), some (.int d), some (.int e), some (.int (nI f))] [] (τ, ν) := by
    intro ν0 e d R f
    have l3 := fun (f : Nat) => l3 ν0 e d R f
    induction f with
    | zero =>
      intro ν S hf hX hF hR
      have l3 := l3 0
      refine gg_ild dc_A_seek_72 rfl ?_
      refine gg_ifle dc_A_seek_74 (fun c_74 => ?_) (fun c_74 => ?_)
      · exact l3 _ _ hX hF hR
      · exact absurd (by decide) c_74
    | succ f ih =>
      intro ν S hf hX hF hR
      have l3 := l3 (f + 1)
      refine gg_ild dc_A_seek_72 rfl ?_
      refine gg_ifle dc_A_seek_74 (fun c_74 => ?_) (fun c_74 => ?_)
      · exact absurd c_74 (nI_nle (by omega) (by omega))
      · refine gg_aldn dc_A_seek_77 rfl rfl ?_
        refine gg_ildn dc_A_seek_78 rfl rfl ?_
        refine gg_ildn dc_A_seek_79 rfl rfl ?_
        refine gg_okV (sp_A_ticksBeyond hx hX) dc_A_seek_80 ml_A_161 ce_A_ticksBeyond ⟨Nat.le_of_ble_eq_true rfl, Nat.le_of_ble_eq_true rfl⟩ x0 rfl rfl (Nat.le_of_ble_eq_true rfl) ⟨rfl, rfl⟩ ⟨Nat.le_of_ble_eq_true rfl, Nat.le_of_ble_eq_true rfl⟩ ?_
        refine gg_ifle dc_A_seek_83 (fun c_83 => ?_) (fun c_83 => ?_)
        · exact l3 _ _ hX hF (by rw [← hR]; unfold s2_S; rw [if_pos c_83])
        · refine gg_aldn dc_A_seek_86 rfl rfl ?_
          refine gg_ildn dc_A_seek_87 rfl rfl ?_
          refine gg_ineg dc_A_seek_88 ?_
          refine gg_iconst (v := 1) dc_A_seek_89 (by decide) ?_
          refine gx_callA (sp_A_makeMicrosteps hx hX) hF dc_A_seek_90 ml_A_147 ce_A_makeMicrosteps ⟨Nat.le_of_ble_eq_true rfl, Nat.le_of_ble_eq_true rfl⟩ x0 rfl rfl (Nat.le_of_ble_eq_true rfl) ⟨rfl, rfl⟩ ⟨Nat.le_of_ble_eq_true rfl, Nat.le_of_ble_eq_true rfl⟩ (fun ν hX hF => ?_)
          dsimp only [Option.toList, List.cons_append, List.nil_append]
          refine gg_iinc (i := 4) dc_A_seek_93 rfl (Nat.le_of_ble_eq_true rfl) ?_
          dsimp only [List.set]
          rw [show Int32.ofInt (-1) = (-1) from by decide]
          refine gg_goto dc_A_seek_96 ?_
          have hs : s2_S e d (f + 1) S = s2_S e d f (mm_S S (-d) 1) := if_neg c_83
          rw [hs] at hR
          rw [pk_m1]
          exact ih _ _ (by omega) hX hF hR
  have lm : ∀ (ν0 : Nat → Nat → Int32) (e d : Int32) (R : (Nat → Int32) × Int32) (f : Nat) (ν : Nat → Nat → Int32) (S : Nat → Int32), f ≤ 20000 → AX ν a S → fr_P ν0 ν a → sk_2 e d (S, f) = R → gg_P Γ mk_A_seek (fun v μ' => ∃ ν' : Nat → Nat → Int32, v = some (.int R.2) ∧ μ' = (τ, ν') ∧ AX ν' a R.1 ∧ fr_P ν0 ν' a) 0 0 59 [some (.ref a), some (.int w), some (.int d), some (.int e), some (.int (nI f))] [] (τ, ν) := by
    intro ν0 e d R f ν S hf hX hF hR
    have l2 := l2 ν0 e d R
    refine gg_aldn dc_A_seek_59 rfl rfl ?_
    refine gg_ildn dc_A_seek_60 rfl rfl ?_
    refine gg_ildn dc_A_seek_61 rfl rfl ?_
    refine gg_okV (sp_A_ticksBeyond hx hX) dc_A_seek_62 ml_A_161 ce_A_ticksBeyond ⟨Nat.le_of_ble_eq_true rfl, Nat.le_of_ble_eq_true rfl⟩ x0 rfl rfl (Nat.le_of_ble_eq_true rfl) ⟨rfl, rfl⟩ ⟨Nat.le_of_ble_eq_true rfl, Nat.le_of_ble_eq_true rfl⟩ ?_
    refine gg_bipush (v := 16) dc_A_seek_65 (by decide) ?_
    refine gg_icgt dc_A_seek_67 (fun c_67 => ?_) (fun c_67 => ?_)
    · exact l2 f ν S hf hX hF (by rw [← hR]; unfold sk_2; rw [if_pos c_67])
    · refine gg_iconst (v := 0) dc_A_seek_70 (by decide) ?_
      exact gg_zret dc_A_seek_71 rfl (by first | exact Or.inl rfl | exact Or.inr rfl | assumption) ⟨Nat.le_of_ble_eq_true rfl, Nat.le_of_ble_eq_true rfl⟩ (by rw [← hR]; unfold sk_2; rw [if_neg c_67]; exact ⟨_, rfl, rfl, hX, hF⟩)
  have loop : ∀ (ν0 : Nat → Nat → Int32) (e d : Int32) (R : (Nat → Int32) × Int32) (f : Nat) (ν : Nat → Nat → Int32) (S : Nat → Int32), f ≤ 20000 → AX ν a S → fr_P ν0 ν a → sk_2 e d (s1_S e d f S) = R → gg_P Γ mk_A_seek (fun v μ' => ∃ ν' : Nat → Nat → Int32, v = some (.int R.2) ∧ μ' = (τ, ν') ∧ AX ν' a R.1 ∧ fr_P ν0 ν' a) 0 0 31 [some (.ref a), some (.int w), some (.int d), some (.int e), some (.int (nI f))] [] (τ, ν) := by
    intro ν0 e d R f
    have lm := lm ν0 e d R
    induction f with
    | zero =>
      intro ν S hf hX hF hR
      refine gg_ild dc_A_seek_31 rfl ?_
      refine gg_ifle dc_A_seek_33 (fun c_33 => ?_) (fun c_33 => ?_)
      · exact lm 0 _ _ (by omega) hX hF hR
      · exact absurd (by decide) c_33
    | succ f ih =>
      intro ν S hf hX hF hR
      refine gg_ild dc_A_seek_31 rfl ?_
      refine gg_ifle dc_A_seek_33 (fun c_33 => ?_) (fun c_33 => ?_)
      · exact absurd c_33 (nI_nle (by omega) (by omega))
      · refine gg_aldn dc_A_seek_36 rfl rfl ?_
        refine gg_ildn dc_A_seek_37 rfl rfl ?_
        refine gg_ildn dc_A_seek_38 rfl rfl ?_
        refine gg_okV (sp_A_ticksBeyond hx hX) dc_A_seek_39 ml_A_161 ce_A_ticksBeyond ⟨Nat.le_of_ble_eq_true rfl, Nat.le_of_ble_eq_true rfl⟩ x0 rfl rfl (Nat.le_of_ble_eq_true rfl) ⟨rfl, rfl⟩ ⟨Nat.le_of_ble_eq_true rfl, Nat.le_of_ble_eq_true rfl⟩ ?_
        refine gg_bipush (v := 16) dc_A_seek_42 (by decide) ?_
        refine gg_icgt dc_A_seek_44 (fun c_44 => ?_) (fun c_44 => ?_)
        · exact lm (f + 1) _ _ hf hX hF (by rw [← hR]; unfold s1_S; rw [if_pos c_44])
        · refine gg_aldn dc_A_seek_47 rfl rfl ?_
          refine gg_ildn dc_A_seek_48 rfl rfl ?_
          refine gg_iconst (v := 1) dc_A_seek_49 (by decide) ?_
          refine gx_callA (sp_A_makeMicrosteps hx hX) hF dc_A_seek_50 ml_A_147 ce_A_makeMicrosteps ⟨Nat.le_of_ble_eq_true rfl, Nat.le_of_ble_eq_true rfl⟩ x0 rfl rfl (Nat.le_of_ble_eq_true rfl) ⟨rfl, rfl⟩ ⟨Nat.le_of_ble_eq_true rfl, Nat.le_of_ble_eq_true rfl⟩ (fun ν hX hF => ?_)
          dsimp only [Option.toList, List.cons_append, List.nil_append]
          refine gg_iinc (i := 4) dc_A_seek_53 rfl (Nat.le_of_ble_eq_true rfl) ?_
          dsimp only [List.set]
          rw [show Int32.ofInt (-1) = (-1) from by decide]
          refine gg_goto dc_A_seek_56 ?_
          have hs : s1_S e d (f + 1) S = s1_S e d f (mm_S S d 1) := if_neg c_44
          rw [hs] at hR
          rw [pk_m1]
          exact ih _ _ (by omega) hX hF hR
  refine gg_ildn dc_A_seek_0 rfl rfl ?_
  refine gg_ifne dc_A_seek_1 (fun c_1 => ?_) (fun c_1 => ?_)
  · refine gg_iconst (v := 1) dc_A_seek_8 (by decide) ?_
    refine gg_istn (i := 2) dc_A_seek_9 rfl (Nat.le_of_ble_eq_true rfl) ?_
    dsimp only [List.set]
    refine gg_ildn dc_A_seek_10 rfl rfl ?_
    refine gg_ifne dc_A_seek_11 (fun c_11 => ?_) (fun c_11 => ?_)
    · refine gg_aldn dc_A_seek_21 rfl rfl ?_
      refine gx_axi (k := 7) (s := 20) dc_A_seek_22 lf_A_56 x0 hX rfl ⟨Nat.le_of_ble_eq_true rfl, Nat.le_of_ble_eq_true rfl⟩ rfl ?_
      refine gg_istn (i := 3) dc_A_seek_25 rfl (Nat.le_of_ble_eq_true rfl) ?_
      dsimp only [List.set]
      refine gg_sipush (v := 20000) dc_A_seek_26 (by decide) ?_
      refine gg_ist (i := 4) dc_A_seek_29 (Nat.le_of_ble_eq_true rfl) ?_
      dsimp only [List.set]
      have e1 : sk_D w = 1 := by unfold sk_D; rw [if_pos c_1]
      have e2 : sk_E S w = S 20 := by unfold sk_E; rw [if_pos c_1]
      unfold ax_Q sk_S
      rw [e1, e2]
      exact loop ν _ _ _ 20000 ν S (by omega) hX fr_rf rfl
    · exact absurd c_11 c_1
  · refine gg_iconst (v := -1) dc_A_seek_4 (by decide) ?_
    refine gg_goto dc_A_seek_5 ?_
    refine gg_istn (i := 2) dc_A_seek_9 rfl (Nat.le_of_ble_eq_true rfl) ?_
    dsimp only [List.set]
    refine gg_ildn dc_A_seek_10 rfl rfl ?_
    refine gg_ifne dc_A_seek_11 (fun c_11 => ?_) (fun c_11 => ?_)
    · exact absurd (by first | exact c_1 | exact Classical.not_not.mp c_1) c_11
    · refine gg_aldn dc_A_seek_14 rfl rfl ?_
      refine gx_axi (k := 6) (s := 19) dc_A_seek_15 lf_A_52 x0 hX rfl ⟨Nat.le_of_ble_eq_true rfl, Nat.le_of_ble_eq_true rfl⟩ rfl ?_
      refine gg_goto dc_A_seek_18 ?_
      refine gg_istn (i := 3) dc_A_seek_25 rfl (Nat.le_of_ble_eq_true rfl) ?_
      dsimp only [List.set]
      refine gg_sipush (v := 20000) dc_A_seek_26 (by decide) ?_
      refine gg_ist (i := 4) dc_A_seek_29 (Nat.le_of_ble_eq_true rfl) ?_
      dsimp only [List.set]
      have e1 : sk_D w = -1 := by unfold sk_D; rw [if_neg (by first | exact c_1 | exact not_not_intro c_1)]
      have e2 : sk_E S w = S 19 := by unfold sk_E; rw [if_neg (by first | exact c_1 | exact not_not_intro c_1)]
      unfold ax_Q sk_S
      rw [e1, e2]
      exact loop ν _ _ _ 20000 ν S (by omega) hX fr_rf rfl
