/-- the class' object: 126 cells from f on -/
def sh_F (sh : Nat → sh_T) (f : Nat) : Prop := sh f = .inr (.inr (5, [some (some (f + 1)), some (some (f + 13)), some (some (f + 25)), none, some (some (f + 50)), some (some (f + 124))])) ∧ sh_X sh (f + 1) ∧ sh_X sh (f + 13) ∧ (∃ g : Nat → Option Nat, sh (f + 25) = .inr (.inl (2, g)) ∧ ∀ i : Nat, i < 2 → g i = some (f + 26 + 12 * i)) ∧ (∀ i : Nat, i < 2 → sh_X sh (f + 26 + 12 * i)) ∧ sh_V sh (f + 50) ∧ sh_Tx sh (f + 124)
theorem sh_V.cg {sh sh' : Nat → sh_T} {q : Nat} (h : sh_V sh q) (e : ∀ c : Nat, q ≤ c → c < q + 74 → sh' c = sh c) : sh_V sh' q := ⟨by rw [e q (by omega) (by omega)]; exact h.1, by rw [e _ (by omega) (by omega)]; exact h.2.1, fun i hi => (h.2.2 i hi).cg fun c h1 h2 => e c (by omega) (by omega)⟩

set_option maxRecDepth 100000 in
set_option maxHeartbeats 4000000 in
theorem sp_F_init {Γ : cx_T} {ν : Nat → Nat → Int32} {sh : Nat → sh_T} {f : Nat} (h0 : sh f = .inr (.inr (5, [some none, some none, some none, none, some none, some none]))) : mt_P Γ mk_F_init [.ref f] ((f + 1, sh), ν) (fun v μ' => ∃ (sh' : Nat → sh_T) (ν' : Nat → Nat → Int32), v = none ∧ μ' = ((f + 126, sh'), ν') ∧ sh_F sh' f ∧ AX ν' (f + 1) I0_S ∧ ν' f 3 = 0 ∧ ν' (f + 50) 1 = 0 ∧ ν' (f + 50) 2 = 0 ∧ ν' (f + 124) 1 = 0 ∧ ∀ c : Nat, c < f → sh' c = sh c ∧ ν' c = ν c) := by
  refine mt_of (L := [some (.ref f), none]) (by decide +kernel) (by simp [Value.category]) (Nat.le_of_ble_eq_true rfl) (lc_1_2 ()) ?_
  have loop : ∀ d i : Nat, i + d = 2 → ∀ (sh1 : Nat → sh_T) (ν1 : Nat → Nat → Int32) (g : Nat → Option Nat), sh1 f = .inr (.inr (5, [some (some (f + 1)), some (some (f + 13)), some (some (f + 25)), none, some none, some none])) → sh1 (f + 25) = .inr (.inl (2, g)) → sh_X sh1 (f + 1) → sh_X sh1 (f + 13) → AX ν1 (f + 1) I0_S → (∀ j : Nat, j < i → g j = some (f + 26 + 12 * j) ∧ sh_X sh1 (f + 26 + 12 * j)) → (∀ c : Nat, c < f → sh1 c = sh c ∧ ν1 c = ν c) → gg_P Γ mk_F_init (fun v μ' => ∃ (sh' : Nat → sh_T) (ν' : Nat → Nat → Int32), v = none ∧ μ' = ((f + 126, sh'), ν') ∧ sh_F sh' f ∧ AX ν' (f + 1) I0_S ∧ ν' f 3 = 0 ∧ ν' (f + 50) 1 = 0 ∧ ν' (f + 50) 2 = 0 ∧ ν' (f + 124) 1 = 0 ∧ ∀ c : Nat, c < f → sh' c = sh c ∧ ν' c = ν c) (25 + 12 * i) (192 + 95 * i) 36 [some (.ref f), some (.int (nI i))] [] ((f + 26 + 12 * i, sh1), ν1) := by
    intro d
    induction d with
    | zero =>
      intro i hi sh1 ν1 g hs0 hs1 hxp hxt hA1 hj1 hf
      have hi : i = 2 := by omega
      subst hi
      refine gg_ildn dc_F_init_36 rfl rfl ?_
      refine gg_iconst (v := 2) dc_F_init_37 (by decide) ?_
      refine gg_icge dc_F_init_38 (fun c_38 => ?_) (fun c_38 => ?_)
      · refine gg_aldn dc_F_init_60 rfl rfl ?_
        refine gg_iconst (v := 0) dc_F_init_61 (by decide) ?_
        refine gg_puti dc_F_init_62 lp_F_23 (hs0) rfl ?_
        refine gg_aldn dc_F_init_65 rfl rfl ?_
        refine gg_new dc_F_init_66 nw_F_27 ⟨Nat.le_of_ble_eq_true rfl, Nat.le_of_ble_eq_true rfl⟩ ?_
        refine gg_dup dc_F_init_69 rfl ?_
        refine gg_callI (As := []) (sp_S_init (by simp [va_up])) dc_F_init_70 ml_F_29 ce_S_init ⟨Nat.le_of_ble_eq_true rfl, Nat.le_of_ble_eq_true rfl⟩ rfl (Nat.le_of_ble_eq_true rfl) ⟨Nat.le_of_ble_eq_true rfl, Nat.le_of_ble_eq_true rfl⟩ ?_
        rintro v9 μ9 ⟨sh5, ν5, rfl, rfl, hV5, hX5, hn5, hz5, hk5⟩
        dsimp only [Option.toList, List.nil_append] at hk5 ⊢
        have t0 : sh5 f = .inr (.inr (5, [some (some (f + 1)), some (some (f + 13)), some (some (f + 25)), none, some none, some none])) := by rw [(hk5 f (by omega)).1, va_up_ne _ _ (by omega)]; exact hs0
        have kx : ∀ a : Nat, a + 12 ≤ f + 50 → sh_X sh1 a → sh_X sh5 a := fun a ha h => h.cg fun c h1 h2 => by rw [(hk5 c (by omega)).1, va_up_ne _ _ (by omega)]
        have t1 : sh5 (f + 25) = .inr (.inl (2, g)) := by rw [(hk5 (f + 25) (by omega)).1, va_up_ne _ _ (by omega)]; exact hs1
        have kX : AX ν5 (f + 1) I0_S := hA1.fr (a := 0) fun c h1 h2 => by rw [(hk5 c (by omega)).2, va_up_ne _ _ (by omega), u2_ne (by omega)]
        have k3 : ν5 f 3 = 0 := by rw [(hk5 f (by omega)).2, va_up_ne _ _ (by omega)]; simp [up_2]
        have kf : ∀ c : Nat, c < f → sh5 c = sh c ∧ ν5 c = ν c := fun c hc => by rw [(hk5 c (by omega)).1, (hk5 c (by omega)).2, va_up_ne _ _ (by omega), va_up_ne _ _ (by omega), u2_ne (by omega)]; exact hf c hc
        refine gg_putr dc_F_init_73 rfl lr_F_30 (t0) (Nat.le_of_ble_eq_true rfl) ?_
        dsimp only
        refine gg_aldn dc_F_init_76 rfl rfl ?_
        refine gg_new dc_F_init_77 nw_F_34 ⟨Nat.le_of_ble_eq_true rfl, Nat.le_of_ble_eq_true rfl⟩ ?_
        refine gg_dup dc_F_init_80 rfl ?_
        refine gg_callI (As := []) (sp_T_init (by simp [va_up])) dc_F_init_81 ml_F_36 ce_T_init ⟨Nat.le_of_ble_eq_true rfl, Nat.le_of_ble_eq_true rfl⟩ rfl (Nat.le_of_ble_eq_true rfl) ⟨Nat.le_of_ble_eq_true rfl, Nat.le_of_ble_eq_true rfl⟩ ?_
        rintro v9 μ9 ⟨sh6, ν6, rfl, rfl, hT6, hz6, hk6⟩
        dsimp only [Option.toList, List.nil_append] at hk6 ⊢
        have u0 : sh6 f = .inr (.inr (5, [some (some (f + 1)), some (some (f + 13)), some (some (f + 25)), none, some (some (f + 50)), some none])) := by rw [(hk6 f (by omega)).1, va_up_ne _ _ (by omega), va_up_self]; rfl
        have lx : ∀ a : Nat, f < a → a + 12 ≤ f + 124 → sh_X sh5 a → sh_X sh6 a := fun a ha h2 h => h.cg fun c h1 h3 => by rw [(hk6 c (by omega)).1, va_up_ne _ _ (by omega), va_up_ne _ _ (by omega)]
        have u1 : sh6 (f + 25) = .inr (.inl (2, g)) := by rw [(hk6 (f + 25) (by omega)).1, va_up_ne _ _ (by omega), va_up_ne _ _ (by omega)]; exact t1
        have hV6 : sh_V sh6 (f + 50) := hV5.cg fun c h1 h2 => by rw [(hk6 c (by omega)).1, va_up_ne _ _ (by omega), va_up_ne _ _ (by omega)]
        have lν : ∀ c : Nat, c < f + 124 → ν6 c = ν5 c := fun c hc => by rw [(hk6 c (by omega)).2, va_up_ne _ _ (by omega)]
        refine gg_putr dc_F_init_84 rfl lr_F_37 (u0) (Nat.le_of_ble_eq_true rfl) ?_
        dsimp only
        exact gg_vret dc_F_init_87 rfl ⟨Nat.le_of_ble_eq_true rfl, Nat.le_of_ble_eq_true rfl⟩ (⟨_, _, rfl, rfl, ⟨by simp [va_up], (lx _ (by omega) (by omega) (kx _ (by omega) hxp)).va (by omega), (lx _ (by omega) (by omega) (kx _ (by omega) hxt)).va (by omega), ⟨g, by rw [va_up_ne _ _ (by omega)]; exact u1, fun j hj => (hj1 j hj).1⟩, fun j hj => (lx _ (by omega) (by omega) (kx _ (by omega) (hj1 j hj).2)).va (by omega), hV6.cg (fun c h1 h2 => va_up_ne _ _ (by omega)), ⟨by rw [va_up_ne _ _ (by omega)]; exact hT6.1, by rw [va_up_ne _ _ (by omega)]; exact hT6.2⟩⟩, kX.fr (a := 0) (fun c h1 h2 => lν c (by omega)), by rw [lν f (by omega)]; exact k3, by rw [lν _ (by omega)]; exact hn5, by rw [lν _ (by omega)]; exact hz5, hz6, fun c hc => ⟨by rw [va_up_ne _ _ (by omega), (hk6 c (by omega)).1, va_up_ne _ _ (by omega), va_up_ne _ _ (by omega)]; exact (kf c hc).1, by rw [lν c (by omega)]; exact (kf c hc).2⟩⟩)
      · exact absurd (Int32.le_refl _) c_38
    | succ d ih =>
      intro i hi sh1 ν1 g hs0 hs1 hxp hxt hA1 hj1 hf
      refine gg_ildn dc_F_init_36 rfl rfl ?_
      refine gg_iconst (v := 2) dc_F_init_37 (by decide) ?_
      refine gg_icge dc_F_init_38 (fun c_38 => ?_) (fun c_38 => ?_)
      · exact absurd c_38 (nI_ge (b := 2) (by omega) (by omega))
      · refine gg_aldn dc_F_init_41 rfl rfl ?_
        refine gg_getr dc_F_init_42 lf_F_19 (hs0) rfl ?_
        refine gg_ildn dc_F_init_45 rfl rfl ?_
        refine gg_new dc_F_init_46 nw_F_7 ⟨by show 25 + 12 * i + 1 ≤ 125; omega, by show 192 + 95 * i + 14 ≤ 1065; omega⟩ ?_
        refine gg_dup dc_F_init_49 rfl ?_
        refine gg_callI (As := []) (sp_A_init (by simp [va_up]) (by intro j; simp [va_up])) dc_F_init_50 ml_F_9 ce_A_init ⟨Nat.le_of_ble_eq_true rfl, Nat.le_of_ble_eq_true rfl⟩ rfl (Nat.le_of_ble_eq_true rfl) ⟨by show 25 + 12 * i + 1 + 11 ≤ 125; omega, by show 192 + 95 * i + 14 + 81 ≤ 1065; omega⟩ ?_
        rintro v9 μ9 ⟨sh2, ν2, rfl, rfl, hx2, hX2, hk2⟩
        dsimp only [Option.toList, List.nil_append] at hk2 ⊢
        have t0 : sh2 f = .inr (.inr (5, [some (some (f + 1)), some (some (f + 13)), some (some (f + 25)), none, some none, some none])) := by rw [(hk2 f (by omega)).1, va_up_ne _ _ (by omega)]; exact hs0
        have t1 : sh2 (f + 25) = .inr (.inl (2, g)) := by rw [(hk2 (f + 25) (by omega)).1, va_up_ne _ _ (by omega)]; exact hs1
        have kx : ∀ a : Nat, a + 12 ≤ f + 26 + 12 * i → sh_X sh1 a → sh_X sh2 a := fun a ha h => h.cg fun c h1 h2 => by rw [(hk2 c (by omega)).1, va_up_ne _ _ (by omega)]
        have kX : AX ν2 (f + 1) I0_S := hA1.fr (a := 0) fun c h1 h2 => by rw [(hk2 c (by omega)).2, va_up_ne _ _ (by omega)]
        refine gg_aast dc_F_init_53 t1 hx2.1 (vp_in_nI (by omega) (by omega)) ?_
        rw [nI_clamp (by omega)]
        refine gg_iinc (i := 1) dc_F_init_54 rfl (Nat.le_of_ble_eq_true rfl) rfl ?_
        dsimp only [List.set]
        rw [show Int32.ofInt 1 = 1 from by decide]
        refine gg_goto dc_F_init_57 ?_
        refine gg_c (gg_e (ih (i + 1) (by omega) (va_up sh2 (f + 25) (.inr (.inl (2, va_up g i (some (f + 26 + 12 * i)))))) ν2 (va_up g i (some (f + 26 + 12 * i))) (by rw [va_up_ne _ _ (by omega)]; exact t0) (va_up_self _ _ _) ((kx _ (by omega) hxp).va (by omega)) ((kx _ (by omega) hxt).va (by omega)) kX (fun j hj => ?_) (fun c hc => ?_)) (by rw [nI_1]) rfl (by rw [show f + 26 + 12 * (i + 1) = f + 26 + 12 * i + 12 by omega])) (by show 25 + 12 * i + 1 + 11 = _; omega) (by show 192 + 95 * i + 14 + 81 = _; omega)
        · by_cases e : j = i
          · subst e
            exact ⟨va_up_self _ _ _, hx2.va (by omega)⟩
          · have h := hj1 j (by omega)
            exact ⟨by rw [va_up_ne _ _ e]; exact h.1, (kx _ (by omega) h.2).va (by omega)⟩
        · rw [va_up_ne _ _ (by omega), (hk2 c (by omega)).1, va_up_ne _ _ (by omega), (hk2 c (by omega)).2, va_up_ne _ _ (by omega)]
          exact hf c hc
  refine gg_aldn dc_F_init_0 rfl rfl ?_
  refine gg_obj dc_F_init_1 oi_F ⟨Nat.le_of_ble_eq_true rfl, Nat.le_of_ble_eq_true rfl⟩ ?_
  refine gg_aldn dc_F_init_4 rfl rfl ?_
  refine gg_new dc_F_init_5 nw_F_7 ⟨Nat.le_of_ble_eq_true rfl, Nat.le_of_ble_eq_true rfl⟩ ?_
  refine gg_dup dc_F_init_8 rfl ?_
  refine gg_callI (As := []) (sp_A_init (by simp [va_up]) (by intro j; simp [va_up])) dc_F_init_9 ml_F_9 ce_A_init ⟨Nat.le_of_ble_eq_true rfl, Nat.le_of_ble_eq_true rfl⟩ rfl (Nat.le_of_ble_eq_true rfl) ⟨Nat.le_of_ble_eq_true rfl, Nat.le_of_ble_eq_true rfl⟩ ?_
  rintro v9 μ9 ⟨sh1, ν1, rfl, rfl, hx1, hX1, hk1⟩
  dsimp only [Option.toList, List.nil_append] at hk1 ⊢
  have e1 : sh1 f = .inr (.inr (5, [some none, some none, some none, none, some none, some none])) := by rw [(hk1 f (by omega)).1]; simp [va_up, h0]
  refine gg_putr dc_F_init_12 rfl lr_F_10 (e1) (Nat.le_of_ble_eq_true rfl) ?_
  refine gg_aldn dc_F_init_15 rfl rfl ?_
  refine gg_new dc_F_init_16 nw_F_7 ⟨Nat.le_of_ble_eq_true rfl, Nat.le_of_ble_eq_true rfl⟩ ?_
  refine gg_dup dc_F_init_19 rfl ?_
  refine gg_callI (As := []) (sp_A_init (by simp [va_up]) (by intro j; simp [va_up])) dc_F_init_20 ml_F_9 ce_A_init ⟨Nat.le_of_ble_eq_true rfl, Nat.le_of_ble_eq_true rfl⟩ rfl (Nat.le_of_ble_eq_true rfl) ⟨Nat.le_of_ble_eq_true rfl, Nat.le_of_ble_eq_true rfl⟩ ?_
  rintro v9 μ9 ⟨sh2, ν2, rfl, rfl, hx2, hX2, hk2⟩
  dsimp only [Option.toList, List.nil_append] at hk2 ⊢
  have e2 : sh2 f = .inr (.inr (5, [some (some (f + 1)), some none, some none, none, some none, some none])) := by rw [(hk2 f (by omega)).1]; simp [va_up, Nat.add_assoc]
  have hx1 : sh_X sh2 (f + 1) := hx1.cg (fun c h1 h2 => by rw [(hk2 c (by omega)).1, va_up_ne _ _ (by omega), va_up_ne _ _ (by omega)])
  have hX1 : AX ν2 (f + 1) I0_S := hX1.fr (a := 0) (fun c h1 h2 => by rw [(hk2 c (by omega)).2, va_up_ne _ _ (by omega)])
  refine gg_putr dc_F_init_23 rfl lr_F_16 (e2) (Nat.le_of_ble_eq_true rfl) ?_
  refine gg_aldn dc_F_init_26 rfl rfl ?_
  refine gg_iconst (v := 2) dc_F_init_27 (by decide) ?_
  refine gg_anew (n := 2) dc_F_init_28 cq_F_7 (by decide) ⟨Nat.le_of_ble_eq_true rfl, Nat.le_of_ble_eq_true rfl⟩ ?_
  refine gg_putr dc_F_init_31 rfl lr_F_19 (show _ = ((.inr (.inr (5, [some (some (f + 1)), some (some (f + 13)), some none, none, some none, some none]))) : sh_T) from by simp [va_up, Nat.add_assoc]) (Nat.le_of_ble_eq_true rfl) ?_
  refine gg_iconst (v := 0) dc_F_init_34 (by decide) ?_
  refine gg_istn (i := 1) dc_F_init_35 rfl (Nat.le_of_ble_eq_true rfl) rfl ?_
  dsimp only [List.set]
  exact loop 2 0 rfl _ _ (fun _ => none) (by simp [va_up, Nat.add_assoc]) (by simp [va_up, Nat.add_assoc]) ((hx1.va (by omega)).va (by omega) |>.va (by omega)) ((hx2.va (by omega)).va (by omega) |>.va (by omega)) (hX1.va (by omega)) (fun j hj => absurd hj (Nat.not_lt_zero _)) (fun c hc => ⟨by rw [va_up_ne _ _ (by omega), va_up_ne _ _ (by omega), va_up_ne _ _ (by omega), (hk2 c (by omega)).1, va_up_ne _ _ (by omega), va_up_ne _ _ (by omega), (hk1 c (by omega)).1, va_up_ne _ _ (by omega)], by rw [va_up_ne _ _ (by omega), (hk2 c (by omega)).2, va_up_ne _ _ (by omega), (hk1 c (by omega)).2, va_up_ne _ _ (by omega)]⟩)
