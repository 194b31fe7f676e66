def sh_V (sh : Nat → sh_T) (q : Nat) : Prop := sh q = .inr (.inr (3, [some (some (q + 1)), none, none])) ∧ (∃ f : Nat → Option Nat, sh (q + 1) = .inr (.inl (6, f)) ∧ ∀ i : Nat, i < 6 → f i = some (q + 2 + 12 * i)) ∧ ∀ i : Nat, i < 6 → sh_X sh (q + 2 + 12 * i)
theorem rm_6 {a : Nat} (h : a < 100) : nI a - nI a / 6 * 6 = nI (a % 6) := pk_rem (d := 6) (by omega) (by omega) (by omega)
theorem mn_6 {n : Nat} (h : n ≤ 6) : mn_I (nI n + 1) 6 = nI (if n < 6 then n + 1 else 6) := by
  unfold mn_I
  rw [nI_1]
  by_cases c : n < 6
  · rw [if_pos c]
    exact if_neg (nI_nlt (a := 6) (b := n + 1) (by omega) (by omega))
  · rw [if_neg c]
    exact if_pos (nI_lt (a := 6) (b := n + 1) (by omega) (by omega))
set_option maxRecDepth 100000 in
set_option maxHeartbeats 4000000 in
theorem sp_S_rowAt {Γ : cx_T} {τ : Nat × (Nat → sh_T)} {ν : Nat → Nat → Int32} {q k : Nat} {i : Int32} (hv : sh_V τ.2 q) (hi : i = nI k) (hk : k < 6) : mt_P Γ mk_S_rowAt [.ref q, .int i] (τ, ν) (fun v μ' => v = some (.ref (q + 2 + 12 * k)) ∧ μ' = (τ, ν)) := by
  refine mt_of (L := [some (.ref q), some (.int i)]) (by decide +kernel) (by simp [Value.category]) (Nat.le_of_ble_eq_true rfl) (lc_2_2 ()) ?_
  obtain ⟨v0, ⟨f, hf, hfi⟩, hvx⟩ := id hv
  subst hi
  refine gg_ildn dc_S_rowAt_0 rfl rfl ?_
  refine gg_iflt dc_S_rowAt_1 (fun c_1 => ?_) (fun c_1 => ?_)
  · exact absurd c_1 (nI_pos (by omega))
  · refine gg_ildn dc_S_rowAt_4 rfl rfl ?_
    refine gg_aldn dc_S_rowAt_5 rfl rfl ?_
    refine gg_getr dc_S_rowAt_6 lf_S_11 v0 rfl ?_
    refine gg_alen dc_S_rowAt_9 (Or.inr (Or.inr ⟨_, hf⟩)) rfl ?_
    refine gg_icge dc_S_rowAt_10 (fun c_10 => ?_) (fun c_10 => ?_)
    · exact absurd c_10 (nI_ge (b := 6) (by omega) (by omega))
    · refine gg_aldn dc_S_rowAt_13 rfl rfl ?_
      refine gg_getr dc_S_rowAt_14 lf_S_11 v0 rfl ?_
      refine gg_ildn dc_S_rowAt_17 rfl rfl ?_
      refine gg_aald dc_S_rowAt_18 hf (vp_in_nI hk (by omega)) ?_
      rw [nI_clamp (by omega), hfi k hk]
      refine gg_goto dc_S_rowAt_19 ?_
      exact gg_aret dc_S_rowAt_23 rfl ⟨Nat.le_of_ble_eq_true rfl, Nat.le_of_ble_eq_true rfl⟩ (⟨rfl, rfl⟩)
set_option maxRecDepth 100000 in
set_option maxHeartbeats 4000000 in
theorem sp_S_push {Γ : cx_T} {τ : Nat × (Nat → sh_T)} {ν : Nat → Nat → Int32} {q c k n : Nat} {S : Nat → Int32} (hv : sh_V τ.2 q) (hk1 : ν q 1 = nI k) (hk : k < 6) (hn2 : ν q 2 = nI n) (hn6 : n ≤ 6) (hc : sh_X τ.2 c) (hd : c + 12 ≤ q ∨ q + 74 ≤ c) (hX : AX ν c S) : mt_P Γ mk_S_push [.ref q, .ref c] (τ, ν) (fun v μ' => ∃ ν' : Nat → Nat → Int32, v = none ∧ μ' = (τ, ν') ∧ AX ν' (q + 2 + 12 * k) S ∧ ν' q 1 = nI ((k + 1) % 6) ∧ ν' q 2 = nI (if n < 6 then n + 1 else 6) ∧ ∀ b : Nat, b ≠ q → (b < q + 2 + 12 * k ∨ q + 14 + 12 * k ≤ b) → ν' b = ν b) := by
  refine mt_of (L := [some (.ref q), some (.ref c), none]) (by decide +kernel) (by simp [Value.category]) (Nat.le_of_ble_eq_true rfl) (lc_2_3 ()) ?_
  obtain ⟨v0, ⟨f, hf, hfi⟩, hvx⟩ := id hv
  have hF : fr_P ν ν (q + 2 + 12 * k) := fr_rf
  refine gg_aldn dc_S_push_0 rfl rfl ?_
  refine gg_aldn dc_S_push_1 rfl rfl ?_
  refine gx_geti dc_S_push_2 lf_S_16 v0 rfl ?_
  refine gg_callV (sp_S_rowAt hv hk1 hk) dc_S_push_5 ml_S_23 ce_S_rowAt ⟨Nat.le_of_ble_eq_true rfl, Nat.le_of_ble_eq_true rfl⟩ v0 rfl rfl (Nat.le_of_ble_eq_true rfl) ⟨Nat.le_of_ble_eq_true rfl, Nat.le_of_ble_eq_true rfl⟩ ?_
  rintro v μ9 ⟨rfl, rfl⟩
  dsimp only [Option.toList, List.cons_append, List.nil_append]
  refine gg_astn (i := 2) dc_S_push_8 rfl (Nat.le_of_ble_eq_true rfl) rfl ?_
  dsimp only [List.set]
  refine gg_aldn dc_S_push_9 rfl rfl ?_
  refine gg_nnull dc_S_push_10 ?_
  refine gg_aldn dc_S_push_14 rfl rfl ?_
  refine gg_aldn dc_S_push_15 rfl rfl ?_
  refine gx_callA (sp_A_copyFrom (hvx k hk) hc hX (by omega)) hF dc_S_push_16 ml_S_27 ce_A_copyFrom ⟨Nat.le_of_ble_eq_true rfl, Nat.le_of_ble_eq_true rfl⟩ (hvx k (by omega)).1 rfl rfl (Nat.le_of_ble_eq_true rfl) ⟨rfl, rfl⟩ ⟨Nat.le_of_ble_eq_true rfl, Nat.le_of_ble_eq_true rfl⟩ (fun ν hX hF => ?_)
  dsimp only [Option.toList, List.cons_append, List.nil_append]
  refine gg_aldn dc_S_push_19 rfl rfl ?_
  refine gg_aldn dc_S_push_20 rfl rfl ?_
  refine gx_geti dc_S_push_21 lf_S_16 v0 rfl ?_
  refine gx_top (show ν q 1 = nI k by rw [hF q (by omega)]; exact hk1) ?_
  refine gg_iconst (v := 1) dc_S_push_24 (by decide) ?_
  refine gg_iadd dc_S_push_25 ?_
  refine gg_bipush (v := 6) dc_S_push_26 (by decide) ?_
  refine gg_irem dc_S_push_28 (by decide) ?_
  refine gx_top (show nI k + 1 - (nI k + 1) / 6 * 6 = nI ((k + 1) % 6) by rw [nI_1]; exact rm_6 (by omega)) ?_
  refine gg_puti dc_S_push_29 lp_S_16 v0 rfl ?_
  refine gg_aldn dc_S_push_32 rfl rfl ?_
  refine gg_aldn dc_S_push_33 rfl rfl ?_
  refine gx_geti dc_S_push_34 lf_S_20 v0 rfl ?_
  refine gx_top (show up_2 ν q 1 _ q 2 = nI n by rw [u2_eq, ud_ne (by omega), hF q (by omega)]; exact hn2) ?_
  refine gg_iconst (v := 1) dc_S_push_37 (by decide) ?_
  refine gg_iadd dc_S_push_38 ?_
  refine gg_bipush (v := 6) dc_S_push_39 (by decide) ?_
  refine gg_okS (sp_J_min) dc_S_push_41 ml_S_31 ce_J_min ⟨Nat.le_of_ble_eq_true rfl, Nat.le_of_ble_eq_true rfl⟩ rfl (Nat.le_of_ble_eq_true rfl) ⟨rfl, rfl⟩ ⟨Nat.le_of_ble_eq_true rfl, Nat.le_of_ble_eq_true rfl⟩ ?_
  refine gx_top (mn_6 hn6) ?_
  refine gg_puti dc_S_push_44 lp_S_20 v0 rfl ?_
  exact gg_vret dc_S_push_47 rfl ⟨Nat.le_of_ble_eq_true rfl, Nat.le_of_ble_eq_true rfl⟩ (⟨_, rfl, rfl, hX.fr (a := 0) (fun c9 g1 g2 => by rw [u2_ne (by omega), u2_ne (by omega)]), by rw [u2_eq, ud_ne (by omega), u2_eq, ud_eq], by rw [u2_eq, ud_eq], fun b hb1 hb2 => by rw [u2_ne hb1, u2_ne hb1]; exact hF b (by omega)⟩)
set_option maxRecDepth 100000 in
set_option maxHeartbeats 4000000 in
theorem sp_S_pop0 {Γ : cx_T} {τ : Nat × (Nat → sh_T)} {ν : Nat → Nat → Int32} {q c k n : Nat} (hv : sh_V τ.2 q) (hk1 : ν q 1 = nI k) (hk : k < 6) (hn2 : ν q 2 = nI n) (hn6 : n ≤ 6) (hc : sh_X τ.2 c) (hd : c + 12 ≤ q ∨ q + 74 ≤ c) (h0 : n = 0) : mt_P Γ mk_S_popInto [.ref q, .ref c] (τ, ν) (fun v μ' => v = some (.int (0)) ∧ μ' = (τ, ν)) := by
  refine mt_of (L := [some (.ref q), some (.ref c), none, none]) (by decide +kernel) (by simp [Value.category]) (Nat.le_of_ble_eq_true rfl) (lc_2_4 ()) ?_
  obtain ⟨v0, ⟨f, hf, hfi⟩, hvx⟩ := id hv
  refine gg_aldn dc_S_popInto_0 rfl rfl ?_
  refine gx_geti dc_S_popInto_1 lf_S_16 v0 rfl ?_
  refine gx_top (hk1) ?_
  refine gg_bipush (v := 6) dc_S_popInto_4 (by decide) ?_
  refine gg_iadd dc_S_popInto_6 ?_
  refine gg_iconst (v := 1) dc_S_popInto_7 (by decide) ?_
  refine gg_isub dc_S_popInto_8 ?_
  refine gg_bipush (v := 6) dc_S_popInto_9 (by decide) ?_
  refine gg_irem dc_S_popInto_11 (by decide) ?_
  refine gx_top (show nI k + 6 - 1 - (nI k + 6 - 1) / 6 * 6 = nI ((k + 5) % 6) by rw [show (6 : Int32) = nI 6 from rfl, nI_add, show (1 : Int32) = nI 1 from rfl, pk_sub (by omega)]; exact rm_6 (by omega)) ?_
  refine gg_istn (i := 2) dc_S_popInto_12 rfl (Nat.le_of_ble_eq_true rfl) rfl ?_
  dsimp only [List.set]
  refine gg_aldn dc_S_popInto_13 rfl rfl ?_
  refine gg_ildn dc_S_popInto_14 rfl rfl ?_
  refine gg_callV (sp_S_rowAt hv rfl (by omega)) dc_S_popInto_15 ml_S_23 ce_S_rowAt ⟨Nat.le_of_ble_eq_true rfl, Nat.le_of_ble_eq_true rfl⟩ v0 rfl rfl (Nat.le_of_ble_eq_true rfl) ⟨Nat.le_of_ble_eq_true rfl, Nat.le_of_ble_eq_true rfl⟩ ?_
  rintro v μ9 ⟨rfl, rfl⟩
  dsimp only [Option.toList, List.cons_append, List.nil_append]
  refine gg_astn (i := 3) dc_S_popInto_18 rfl (Nat.le_of_ble_eq_true rfl) rfl ?_
  dsimp only [List.set]
  refine gg_aldn dc_S_popInto_19 rfl rfl ?_
  refine gx_geti dc_S_popInto_20 lf_S_20 v0 rfl ?_
  refine gx_top (hn2) ?_
  refine gg_ifeq dc_S_popInto_23 (fun c_23 => ?_) (fun c_23 => ?_)
  · refine gg_iconst (v := 0) dc_S_popInto_30 (by decide) ?_
    exact gg_zret dc_S_popInto_31 rfl (by first | exact Or.inl rfl | exact Or.inr rfl | assumption) ⟨Nat.le_of_ble_eq_true rfl, Nat.le_of_ble_eq_true rfl⟩ (⟨rfl, rfl⟩)
  · exact absurd (by rw [h0]; rfl) c_23
set_option maxRecDepth 100000 in
set_option maxHeartbeats 4000000 in
theorem sp_S_pop {Γ : cx_T} {τ : Nat × (Nat → sh_T)} {ν : Nat → Nat → Int32} {q c k n : Nat} {S : Nat → Int32} (hv : sh_V τ.2 q) (hk1 : ν q 1 = nI k) (hk : k < 6) (hn2 : ν q 2 = nI (n + 1)) (hn6 : n < 6) (hc : sh_X τ.2 c) (hd : c + 12 ≤ q ∨ q + 74 ≤ c) (hX : AX ν (q + 2 + 12 * ((k + 5) % 6)) S) : mt_P Γ mk_S_popInto [.ref q, .ref c] (τ, ν) (fun v μ' => ∃ ν' : Nat → Nat → Int32, v = some (.int 1) ∧ μ' = (τ, ν') ∧ AX ν' c S ∧ ν' q 1 = nI ((k + 5) % 6) ∧ ν' q 2 = nI n ∧ ∀ b : Nat, b ≠ q → (b < c ∨ c + 12 ≤ b) → ν' b = ν b) := by
  refine mt_of (L := [some (.ref q), some (.ref c), none, none]) (by decide +kernel) (by simp [Value.category]) (Nat.le_of_ble_eq_true rfl) (lc_2_4 ()) ?_
  obtain ⟨v0, ⟨f, hf, hfi⟩, hvx⟩ := id hv
  have hF : fr_P ν ν c := fr_rf
  refine gg_aldn dc_S_popInto_0 rfl rfl ?_
  refine gx_geti dc_S_popInto_1 lf_S_16 v0 rfl ?_
  refine gx_top (hk1) ?_
  refine gg_bipush (v := 6) dc_S_popInto_4 (by decide) ?_
  refine gg_iadd dc_S_popInto_6 ?_
  refine gg_iconst (v := 1) dc_S_popInto_7 (by decide) ?_
  refine gg_isub dc_S_popInto_8 ?_
  refine gg_bipush (v := 6) dc_S_popInto_9 (by decide) ?_
  refine gg_irem dc_S_popInto_11 (by decide) ?_
  refine gx_top (show nI k + 6 - 1 - (nI k + 6 - 1) / 6 * 6 = nI ((k + 5) % 6) by rw [show (6 : Int32) = nI 6 from rfl, nI_add, show (1 : Int32) = nI 1 from rfl, pk_sub (by omega)]; exact rm_6 (by omega)) ?_
  refine gg_istn (i := 2) dc_S_popInto_12 rfl (Nat.le_of_ble_eq_true rfl) rfl ?_
  dsimp only [List.set]
  refine gg_aldn dc_S_popInto_13 rfl rfl ?_
  refine gg_ildn dc_S_popInto_14 rfl rfl ?_
  refine gg_callV (sp_S_rowAt hv rfl (by omega)) dc_S_popInto_15 ml_S_23 ce_S_rowAt ⟨Nat.le_of_ble_eq_true rfl, Nat.le_of_ble_eq_true rfl⟩ v0 rfl rfl (Nat.le_of_ble_eq_true rfl) ⟨Nat.le_of_ble_eq_true rfl, Nat.le_of_ble_eq_true rfl⟩ ?_
  rintro v μ9 ⟨rfl, rfl⟩
  dsimp only [Option.toList, List.cons_append, List.nil_append]
  refine gg_astn (i := 3) dc_S_popInto_18 rfl (Nat.le_of_ble_eq_true rfl) rfl ?_
  dsimp only [List.set]
  refine gg_aldn dc_S_popInto_19 rfl rfl ?_
  refine gx_geti dc_S_popInto_20 lf_S_20 v0 rfl ?_
  refine gx_top (hn2) ?_
  refine gg_ifeq dc_S_popInto_23 (fun c_23 => ?_) (fun c_23 => ?_)
  · exact absurd (show nI (n + 1) = nI 0 from c_23) (fun e => absurd ((nI_eq (by omega) (by omega)).mp e) (by omega))
  · refine gg_aldn dc_S_popInto_26 rfl rfl ?_
    refine gg_nnull dc_S_popInto_27 ?_
    refine gg_aldn dc_S_popInto_32 rfl rfl ?_
    refine gg_aldn dc_S_popInto_33 rfl rfl ?_
    refine gx_callA (sp_A_copyFrom hc (hvx ((k + 5) % 6) (by omega)) hX (by omega)) hF dc_S_popInto_34 ml_S_27 ce_A_copyFrom ⟨Nat.le_of_ble_eq_true rfl, Nat.le_of_ble_eq_true rfl⟩ hc.1 rfl rfl (Nat.le_of_ble_eq_true rfl) ⟨rfl, rfl⟩ ⟨Nat.le_of_ble_eq_true rfl, Nat.le_of_ble_eq_true rfl⟩ (fun ν hX hF => ?_)
    dsimp only [Option.toList, List.cons_append, List.nil_append]
    refine gg_aldn dc_S_popInto_37 rfl rfl ?_
    refine gg_ildn dc_S_popInto_38 rfl rfl ?_
    refine gg_puti dc_S_popInto_39 lp_S_16 v0 rfl ?_
    refine gg_aldn dc_S_popInto_42 rfl rfl ?_
    refine gg_dup dc_S_popInto_43 rfl ?_
    refine gx_geti dc_S_popInto_44 lf_S_20 v0 rfl ?_
    refine gx_top (show up_2 ν q 1 _ q 2 = nI (n + 1) by rw [u2_eq, ud_ne (by omega), hF q (by omega)]; exact hn2) ?_
    refine gg_iconst (v := 1) dc_S_popInto_47 (by decide) ?_
    refine gg_isub dc_S_popInto_48 ?_
    refine gx_top (nI_pred n) ?_
    refine gg_puti dc_S_popInto_49 lp_S_20 v0 rfl ?_
    refine gg_iconst (v := 1) dc_S_popInto_52 (by decide) ?_
    exact gg_zret dc_S_popInto_53 rfl (by first | exact Or.inl rfl | exact Or.inr rfl | assumption) ⟨Nat.le_of_ble_eq_true rfl, Nat.le_of_ble_eq_true rfl⟩ (⟨_, rfl, rfl, hX.fr (a := 0) (fun c9 g1 g2 => by rw [u2_ne (by omega), u2_ne (by omega)]), by rw [u2_eq, ud_ne (by omega), u2_eq, ud_eq], by rw [u2_eq, ud_eq], fun b hb1 hb2 => by rw [u2_ne hb1, u2_ne hb1]; exact hF b (by omega)⟩)
