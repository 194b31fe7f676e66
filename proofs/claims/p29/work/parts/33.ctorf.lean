theorem sh_X.va {sh : Nat → sh_T} {a q : Nat} {s : sh_T} (h : sh_X sh a) (hq : q < a ∨ a + 12 ≤ q) : sh_X (va_up sh q s) a := h.cg fun c h1 h2 => va_up_ne _ _ (by omega)
theorem AX.va {ν : Nat → Nat → Int32} {a q : Nat} {S f : Nat → Int32} (h : AX ν a S) (hq : q < a ∨ a + 12 ≤ q) : AX (va_up ν q f) a S := h.fr (a := 0) (fun c h1 h2 => va_up_ne _ _ (by omega))
theorem gg_c {Γ : cx_T} {K : mt_K} {Q : Option Value → mm_T → Prop} {cs sl cs' sl' pc : Nat} {L : List (Option Value)} {st : List Value} {μ : mm_T} (h : gg_P Γ K Q cs' sl' pc L st μ) (h1 : cs = cs') (h2 : sl = sl') : gg_P Γ K Q cs sl pc L st μ := by subst h1 h2; exact h
set_option maxRecDepth 100000 in
set_option maxHeartbeats 4000000 in
theorem sp_S_init {Γ : cx_T} {ν : Nat → Nat → Int32} {sh : Nat → sh_T} {q : Nat} (h0 : sh q = .inr (.inr (3, [some none, none, none]))) : mt_P Γ mk_S_init [.ref q] ((q + 1, sh), ν) (fun v μ' => ∃ (sh' : Nat → sh_T) (ν' : Nat → Nat → Int32), v = none ∧ μ' = ((q + 74, sh'), ν') ∧ sh_V sh' q ∧ (∀ i : Nat, i < 6 → AX ν' (q + 2 + 12 * i) I0_S) ∧ ν' q 1 = 0 ∧ ν' q 2 = 0 ∧ ∀ c : Nat, c < q → sh' c = sh c ∧ ν' c = ν c) := by
  refine mt_of (L := [some (.ref q), none]) (by decide +kernel) (by simp [Value.category]) (Nat.le_of_ble_eq_true rfl) (lc_1_2 ()) ?_
  have loop : ∀ d i : Nat, i + d = 6 → ∀  (sh1 : Nat → sh_T) (ν1 : Nat → Nat → Int32) (f : Nat → Option Nat), sh1 q = .inr (.inr (3, [some (some (q + 1)), none, none])) → sh1 (q + 1) = .inr (.inl (6, f)) → (∀ j : Nat, j < i → f j = some (q + 2 + 12 * j) ∧ sh_X sh1 (q + 2 + 12 * j) ∧ AX ν1 (q + 2 + 12 * j) I0_S) → (∀ c : Nat, c < q → sh1 c = sh c ∧ ν1 c = ν c) → gg_P Γ mk_S_init (fun v μ' => ∃ (sh' : Nat → sh_T) (ν' : Nat → Nat → Int32), v = none ∧ μ' = ((q + 74, sh'), ν') ∧ sh_V sh' q ∧ (∀ i : Nat, i < 6 → AX ν' (q + 2 + 12 * i) I0_S) ∧ ν' q 1 = 0 ∧ ν' q 2 = 0 ∧ ∀ c : Nat, c < q → sh' c = sh c ∧ ν' c = ν c) (1 + 12 * i) (6 + 95 * i) 15 [some (.ref q), some (.int (nI i))] [] ((q + 2 + 12 * i, sh1), ν1) := by
    intro d
    induction d with
    | zero =>
      intro i hi sh1 ν1 f hs0 hs1 hj1 hf
      have hi : i = 6 := by omega
      subst hi
      refine gg_ildn dc_S_init_15 rfl rfl ?_
      refine gg_bipush (v := 6) dc_S_init_16 (by decide) ?_
      refine gg_icge dc_S_init_18 (fun c_18 => ?_) (fun c_18 => ?_)
      · refine gg_aldn dc_S_init_40 rfl rfl ?_
        refine gg_iconst (v := 0) dc_S_init_41 (by decide) ?_
        refine gg_puti dc_S_init_42 lp_S_16 (hs0) rfl ?_
        refine gg_aldn dc_S_init_45 rfl rfl ?_
        refine gg_iconst (v := 0) dc_S_init_46 (by decide) ?_
        refine gg_puti dc_S_init_47 lp_S_20 (hs0) rfl ?_
        exact gg_vret dc_S_init_50 rfl ⟨Nat.le_of_ble_eq_true rfl, Nat.le_of_ble_eq_true rfl⟩ (⟨_, _, rfl, rfl, ⟨hs0, ⟨f, hs1, fun j hj => (hj1 j hj).1⟩, fun j hj => (hj1 j hj).2.1⟩, fun j hj => (hj1 j hj).2.2.fr (a := 0) (fun c h1 h2 => by rw [u2_ne (by omega), u2_ne (by omega)]), by simp [up_2], by simp [up_2], fun c hc => ⟨(hf c hc).1, by rw [u2_ne (by omega), u2_ne (by omega)]; exact (hf c hc).2⟩⟩)
      · exact absurd (Int32.le_refl _) c_18
    | succ d ih =>
      intro i hi sh1 ν1 f hs0 hs1 hj1 hf
      refine gg_ildn dc_S_init_15 rfl rfl ?_
      refine gg_bipush (v := 6) dc_S_init_16 (by decide) ?_
      refine gg_icge dc_S_init_18 (fun c_18 => ?_) (fun c_18 => ?_)
      · exact absurd c_18 (nI_ge (b := 6) (by omega) (by omega))
      · refine gg_aldn dc_S_init_21 rfl rfl ?_
        refine gg_getr dc_S_init_22 lf_S_11 (hs0) rfl ?_
        refine gg_ildn dc_S_init_25 rfl rfl ?_
        refine gg_new dc_S_init_26 nw_S_9 ⟨by show 1 + 12 * i + 1 ≤ 73; omega, by show 6 + 95 * i + 14 ≤ 576; omega⟩ ?_
        refine gg_dup dc_S_init_29 rfl ?_
        refine gg_callI (As := []) (sp_A_init (by simp [va_up]) (by intro j; simp [va_up])) dc_S_init_30 ml_S_15 ce_A_init ⟨Nat.le_of_ble_eq_true rfl, Nat.le_of_ble_eq_true rfl⟩ rfl (Nat.le_of_ble_eq_true rfl) ⟨by show 1 + 12 * i + 1 + 11 ≤ 73; omega, by show 6 + 95 * i + 14 + 81 ≤ 576; omega⟩ ?_
        rintro v9 μ9 ⟨sh2, ν2, rfl, rfl, hx2, hX2, hk2⟩
        dsimp only [Option.toList, List.nil_append]
        have t0 : sh2 q = .inr (.inr (3, [some (some (q + 1)), none, none])) := by rw [(hk2 q (by omega)).1, va_up_ne _ _ (by omega)]; exact hs0
        have t1 : sh2 (q + 1) = .inr (.inl (6, f)) := by rw [(hk2 (q + 1) (by omega)).1, va_up_ne _ _ (by omega)]; exact hs1
        refine gg_aast dc_S_init_33 t1 hx2.1 (vp_in_nI (by omega) (by omega)) ?_
        rw [nI_clamp (by omega)]
        refine gg_iinc (i := 1) dc_S_init_34 rfl (Nat.le_of_ble_eq_true rfl) rfl ?_
        dsimp only [List.set]
        rw [show Int32.ofInt 1 = 1 from by decide]
        refine gg_goto dc_S_init_37 ?_
        refine gg_c (gg_e (ih (i + 1) (by omega) (va_up sh2 (q + 1) (.inr (.inl (6, va_up f i (some (q + 2 + 12 * i)))))) ν2 (va_up f i (some (q + 2 + 12 * i))) (by rw [va_up_ne _ _ (by omega)]; exact t0) (va_up_self _ _ _) (fun j hj => ?_) (fun c hc => ?_)) (by rw [nI_1]) rfl (by rw [show q + 2 + 12 * (i + 1) = q + 2 + 12 * i + 12 by omega])) (by show 1 + 12 * i + 1 + 11 = _; omega) (by show 6 + 95 * i + 14 + 81 = _; omega)
        · by_cases e : j = i
          · subst e
            exact ⟨va_up_self _ _ _, hx2.va (by omega), hX2⟩
          · have h := hj1 j (by omega)
            refine ⟨by rw [va_up_ne _ _ e]; exact h.1, ?_, h.2.2.fr (a := 0) (fun c h1 h2 => by rw [(hk2 c (by omega)).2, va_up_ne _ _ (by omega)])⟩
            exact (h.2.1.cg fun c h1 h2 => by rw [(hk2 c (by omega)).1, va_up_ne _ _ (by omega)]).va (by omega)
        · rw [va_up_ne _ _ (by omega), (hk2 c (by omega)).1, va_up_ne _ _ (by omega), (hk2 c (by omega)).2, va_up_ne _ _ (by omega)]
          exact hf c hc
  refine gg_aldn dc_S_init_0 rfl rfl ?_
  refine gg_obj dc_S_init_1 oi_S ⟨Nat.le_of_ble_eq_true rfl, Nat.le_of_ble_eq_true rfl⟩ ?_
  refine gg_aldn dc_S_init_4 rfl rfl ?_
  refine gg_bipush (v := 6) dc_S_init_5 (by decide) ?_
  refine gg_anew (n := 6) dc_S_init_7 cq_S_9 (by decide) ⟨Nat.le_of_ble_eq_true rfl, Nat.le_of_ble_eq_true rfl⟩ ?_
  refine gg_putr dc_S_init_10 rfl lr_S_11 (show _ = ((.inr (.inr (3, [some none, none, none]))) : sh_T) from by simp [va_up, h0, Nat.add_assoc]) (Nat.le_of_ble_eq_true rfl) ?_
  refine gg_iconst (v := 0) dc_S_init_13 (by decide) ?_
  refine gg_istn (i := 1) dc_S_init_14 rfl (Nat.le_of_ble_eq_true rfl) rfl ?_
  dsimp only [List.set]
  exact loop 6 0 rfl _ _ (fun _ => none) (by simp [va_up]) (by simp [va_up]) (fun j hj => absurd hj (Nat.not_lt_zero _)) (fun c hc => ⟨by simp [va_up, show c ≠ q by omega, show c ≠ q + 1 by omega], by funext j; simp [va_up, show c ≠ q + 1 by omega]⟩)
