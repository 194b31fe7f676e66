theorem in_lo {x a b : Int32} (h : x < a) : in_I x a b = 0 := if_pos (Or.inl h)
theorem in_hi {x a b : Int32} (h : b < x) : in_I x a b = 0 := if_pos (Or.inr h)
theorem in_no {x a b : Int32} (h : ¬ x < a) (h2 : ¬ b < x) : ¬ in_I x a b = 0 := by
  unfold in_I
  rw [if_neg (fun q => q.elim h h2)]; decide
theorem it_0 {p : Prop} {d : Decidable p} (h : (if p then (1 : Int32) else 0) = 0) : ¬ p := fun q => by rw [if_pos q] at h; exact absurd h (by decide)
theorem it_1 {p : Prop} {d : Decidable p} (h : ¬ (if p then (1 : Int32) else 0) = 0) : p := Classical.not_not.mp fun q => h (if_neg q)
theorem PR.c {ν : Nat → Nat → Int32} {q b N : Nat} {S : Nat → Int32} (h : PR ν q S b N) : ν q 2 = S b := by
  obtain ⟨n, h1, h2, h3, h4⟩ := h
  rw [h2, h3]
theorem RF.ev {ν0 ν X : Nat → Nat → Int32} {f : Nat} {S T : Nat → Int32} (h : RF ν0 f (va_up X 1 S) ν) (e : EV S T) : RF ν0 f (va_up X 1 T) ν := by
  obtain ⟨⟨h1, h2, h3, h4, h5⟩, h6⟩ := h
  exact ⟨⟨AX.ev h1 e, h2, h3, h4, h5⟩, h6⟩
theorem RF.cx {ν0 ν1 ν X : Nat → Nat → Int32} {f : Nat} (h : RF ν1 f X ν) (e : ∀ c : Nat, (c < f ∨ f + 126 ≤ c) → ν1 c = ν0 c) : RF ν0 f X ν := ⟨h.1, fun c hc => (h.2 c hc).trans (e c hc)⟩
/-- cells of the trial and of the text changed, but not the text's length -/
theorem RF.rd {ν0 ν ν' X : Nat → Nat → Int32} {f : Nat} (h : RF ν0 f X ν) (hL : ν' (f + 124) 1 = ν (f + 124) 1) (hF : ∀ c : Nat, c ≠ f + 124 → (c < f + 13 ∨ f + 25 ≤ c) → ν' c = ν c) : RF ν0 f X ν' := by
  obtain ⟨⟨h1, h2, h3, ⟨k, n, hk, g1, g2, g3, g4⟩, L, hL2, hT⟩, h6⟩ := h
  refine ⟨⟨h1.fr (a := 0) fun c p q => hF c (by omega) (by omega), by rw [hF f (by omega) (by omega)]; exact h2, fun i hi hb => (h3 i hi hb).fr (a := 0) fun c p q => hF c (by omega) (by omega), ⟨k, n, hk, by rw [hF _ (by omega) (by omega)]; exact g1, by rw [hF _ (by omega) (by omega)]; exact g2, g3, fun j hj => (g4 j hj).fr (a := 0) fun c p q => hF c (by omega) (by omega)⟩, L, by rw [hL]; exact hL2, by rw [hF _ (by omega) (by omega)]; exact hT⟩, fun c hc => by rw [hF c (by omega) (by omega)]; exact h6 c hc⟩
theorem RF.nt {ν0 ν X : Nat → Nat → Int32} {f : Nat} (h : RF ν0 f (nt_X X) ν) : AX ν (f + 1) (X 1) := by
  have := h.ax
  rw [nt_o (by omega) (by omega)] at this
  exact this
set_option maxRecDepth 100000 in
set_option maxHeartbeats 4000000 in
theorem sp_F_adoptTrial {Γ : cx_T} {τ : Nat × (Nat → sh_T)} {ν : Nat → Nat → Int32} {ν0 : Nat → Nat → Int32} {f : Nat} {X : Nat → Nat → Int32} (hf : sh_F τ.2 f) (h : RF ν0 f X ν) {S : Nat → Int32} (hY : AX ν (f + 13) S) : mt_P Γ mk_F_adoptTrial [.ref f] (τ, ν) (fun v μ' => ∃ ν' : Nat → Nat → Int32, v = none ∧ μ' = (τ, ν') ∧ RF ν0 f (va_up (nt_X X) 1 S) ν') := by
  refine mt_of (L := [some (.ref f)]) (by decide +kernel) (by simp [Value.category]) (Nat.le_of_ble_eq_true rfl) (lc_1_1 ()) ?_
  obtain ⟨f0, hx, hy, ⟨g, hg, hgi⟩, him, hv, ht⟩ := id hf
  refine gg_aldn dc_F_adoptTrial_0 rfl rfl ?_
  refine gg_getr dc_F_adoptTrial_1 lf_F_30 f0 rfl ?_
  refine gg_aldn dc_F_adoptTrial_4 rfl rfl ?_
  refine gg_getr dc_F_adoptTrial_5 lf_F_10 f0 rfl ?_
  refine gg_callV (sp_F_push hf h) dc_F_adoptTrial_8 ml_F_50 ce_S_push ⟨Nat.le_of_ble_eq_true rfl, Nat.le_of_ble_eq_true rfl⟩ hv.1 rfl rfl (Nat.le_of_ble_eq_true rfl) ⟨Nat.le_of_ble_eq_true rfl, Nat.le_of_ble_eq_true rfl⟩ ?_
  rintro v μ9 ⟨ν2, rfl, rfl, h2, hk2⟩
  dsimp only [Option.toList, List.cons_append, List.nil_append]
  have hX := h2.nt
  replace hY : AX ν2 (f + 13) S := hY.fr (a := 0) fun c p q => hk2 c (by omega)
  refine gg_aldn dc_F_adoptTrial_11 rfl rfl ?_
  refine gg_getr dc_F_adoptTrial_12 lf_F_10 f0 rfl ?_
  refine gg_aldn dc_F_adoptTrial_15 rfl rfl ?_
  refine gg_getr dc_F_adoptTrial_16 lf_F_16 f0 rfl ?_
  refine gg_callV (sp_A_copyFrom hx hy hY (by omega)) dc_F_adoptTrial_19 ml_F_87 ce_A_copyFrom ⟨Nat.le_of_ble_eq_true rfl, Nat.le_of_ble_eq_true rfl⟩ hx.1 rfl rfl (Nat.le_of_ble_eq_true rfl) ⟨Nat.le_of_ble_eq_true rfl, Nat.le_of_ble_eq_true rfl⟩ ?_
  rintro v μ9 ⟨ν3, rfl, rfl, hX3, hF3⟩
  dsimp only [Option.toList, List.cons_append, List.nil_append]
  exact gg_vret dc_F_adoptTrial_22 rfl ⟨Nat.le_of_ble_eq_true rfl, Nat.le_of_ble_eq_true rfl⟩ (⟨_, rfl, rfl, h2.row hX3 hF3⟩)
set_option maxRecDepth 100000 in
set_option maxHeartbeats 4000000 in
theorem sp_F_img {Γ : cx_T} {τ : Nat × (Nat → sh_T)} {ν : Nat → Nat → Int32} {f : Nat} {X : Nat → Nat → Int32} (hf : sh_F τ.2 f) {i : Int32} {q : Nat} (hi : i = nI q) (hq : q < 2) : mt_P Γ mk_F_imageNumbered [.ref f, .int i] (τ, ν) (fun v μ' => v = some (.ref (f + 26 + 12 * q)) ∧ μ' = (τ, ν)) := by
  refine mt_of (L := [some (.ref f), some (.int i)]) (by decide +kernel) (by simp [Value.category]) (Nat.le_of_ble_eq_true rfl) (lc_2_2 ()) ?_
  obtain ⟨f0, hx, hy, ⟨g, hg, hgi⟩, him, hv, ht⟩ := id hf
  subst hi
  refine gg_ildn dc_F_imageNumbered_0 rfl rfl ?_
  refine gg_iflt dc_F_imageNumbered_1 (fun c_1 => ?_) (fun c_1 => ?_)
  · exact absurd c_1 (nI_pos (by omega))
  · refine gg_ildn dc_F_imageNumbered_4 rfl rfl ?_
    refine gg_aldn dc_F_imageNumbered_5 rfl rfl ?_
    refine gg_getr dc_F_imageNumbered_6 lf_F_19 f0 rfl ?_
    refine gg_alen dc_F_imageNumbered_9 (Or.inr (Or.inr ⟨_, hg⟩)) rfl ?_
    refine gg_icge dc_F_imageNumbered_10 (fun c_10 => ?_) (fun c_10 => ?_)
    · exact absurd c_10 (nI_ge (b := 2) (by omega) (by omega))
    · refine gg_aldn dc_F_imageNumbered_13 rfl rfl ?_
      refine gg_getr dc_F_imageNumbered_14 lf_F_19 f0 rfl ?_
      refine gg_ildn dc_F_imageNumbered_17 rfl rfl ?_
      refine gg_aald dc_F_imageNumbered_18 hg (vp_in_nI hq (by omega)) ?_
      rw [nI_clamp (by omega), hgi q hq]
      refine gg_goto dc_F_imageNumbered_19 ?_
      exact gg_aret dc_F_imageNumbered_23 rfl ⟨Nat.le_of_ble_eq_true rfl, Nat.le_of_ble_eq_true rfl⟩ (⟨rfl, rfl⟩)
set_option maxRecDepth 100000 in
set_option maxHeartbeats 4000000 in
theorem sp_F_imgN {Γ : cx_T} {τ : Nat × (Nat → sh_T)} {ν : Nat → Nat → Int32} {f : Nat} {X : Nat → Nat → Int32} (hf : sh_F τ.2 f) {i : Int32} (hi : in_I i 0 1 = 0) : mt_P Γ mk_F_imageNumbered [.ref f, .int i] (τ, ν) (fun v μ' => v = some .null ∧ μ' = (τ, ν)) := by
  refine mt_of (L := [some (.ref f), some (.int i)]) (by decide +kernel) (by simp [Value.category]) (Nat.le_of_ble_eq_true rfl) (lc_2_2 ()) ?_
  obtain ⟨f0, hx, hy, ⟨g, hg, hgi⟩, him, hv, ht⟩ := id hf
  refine gg_ildn dc_F_imageNumbered_0 rfl rfl ?_
  refine gg_iflt dc_F_imageNumbered_1 (fun c_1 => ?_) (fun c_1 => ?_)
  · refine gg_null dc_F_imageNumbered_22 ?_
    exact gg_aret (r := none) dc_F_imageNumbered_23 rfl ⟨Nat.le_of_ble_eq_true rfl, Nat.le_of_ble_eq_true rfl⟩ (⟨rfl, rfl⟩)
  · refine gg_ildn dc_F_imageNumbered_4 rfl rfl ?_
    refine gg_aldn dc_F_imageNumbered_5 rfl rfl ?_
    refine gg_getr dc_F_imageNumbered_6 lf_F_19 f0 rfl ?_
    refine gg_alen dc_F_imageNumbered_9 (Or.inr (Or.inr ⟨_, hg⟩)) rfl ?_
    refine gg_icge dc_F_imageNumbered_10 (fun c_10 => ?_) (fun c_10 => ?_)
    · refine gg_null dc_F_imageNumbered_22 ?_
      exact gg_aret (r := none) dc_F_imageNumbered_23 rfl ⟨Nat.le_of_ble_eq_true rfl, Nat.le_of_ble_eq_true rfl⟩ (⟨rfl, rfl⟩)
    · exact absurd hi (in_no c_1 (fun q => c_10 (by rw [ti_lt] at q; rw [ti_le]; have q : (1 : Int) < i.toInt := q; show (2 : Int) ≤ _; omega)))
set_option maxRecDepth 100000 in
set_option maxHeartbeats 4000000 in
theorem sp_A_carryM {Γ : cx_T} {τ : Nat × (Nat → sh_T)} {ν : Nat → Nat → Int32} {a : Nat} {S : Nat → Int32} (hx : sh_X τ.2 a) (hX : AX ν a S) {K : Int} (hI : IV S K) (hK : K ≤ 400000000) (hn : 0 < ls_n S 63) : mt_P Γ mk_A_carryOutNext [.ref a] (τ, ν) (ax_Q τ ν a (none) (ro_S S)) := by
  refine mt_of (L := [some (.ref a)]) (by decide +kernel) (by simp [Value.category]) (Nat.le_of_ble_eq_true rfl) (lc_1_1 ()) ?_
  obtain ⟨x0, x1, x2, x3, x4, x5⟩ := id hx
  have hF : fr_P ν ν a := fr_rf
  refine gg_aldn dc_A_carryOutNext_0 rfl rfl ?_
  refine gg_aldn dc_A_carryOutNext_1 rfl rfl ?_
  refine gg_getr dc_A_carryOutNext_2 lf_A_31 x0 rfl ?_
  refine gg_callV (sp_C_takeR x5 hX.2.2.2.2.2.2 hn) dc_A_carryOutNext_5 ml_A_155 ce_C_takeNext ⟨Nat.le_of_ble_eq_true rfl, Nat.le_of_ble_eq_true rfl⟩ x5.1 rfl rfl (Nat.le_of_ble_eq_true rfl) ⟨Nat.le_of_ble_eq_true rfl, Nat.le_of_ble_eq_true rfl⟩ ?_
  rintro v μ' ⟨ν1, rfl, rfl, hR1, ho1⟩
  replace hX := hX.cm hR1 ho1 (fun j hj => rw_o (by have := (hX.2.2.2.2.2.2.n (by omega)).1; omega))
  replace hX := hX.ev (ct_EV hI.lk.1 hI.lk.2.1 hI.lk.2.2)
  replace hF := fr_tr hF (fr_pt ho1 (by omega))
  dsimp only [Option.toList, List.cons_append, List.nil_append]
  refine gx_callA (sp_A_travel hx hX) hF dc_A_carryOutNext_8 ml_A_152 ce_A_travel ⟨Nat.le_of_ble_eq_true rfl, Nat.le_of_ble_eq_true rfl⟩ x0 rfl rfl (Nat.le_of_ble_eq_true rfl) ⟨rfl, rfl⟩ ⟨Nat.le_of_ble_eq_true rfl, Nat.le_of_ble_eq_true rfl⟩ (fun ν hX hF => ?_)
  dsimp only [Option.toList, List.cons_append, List.nil_append]
  refine gg_pop dc_A_carryOutNext_11 rfl ?_
  refine gg_vret dc_A_carryOutNext_12 rfl ⟨Nat.le_of_ble_eq_true rfl, Nat.le_of_ble_eq_true rfl⟩ ?_
  rw [(hI.ro hK hn).2] at hX
  exact ⟨_, rfl, rfl, hX, hF⟩
