set_option maxRecDepth 100000 in
set_option maxHeartbeats 4000000 in
theorem sp_F_keepB {Γ : cx_T} {τ : Nat × (Nat → sh_T)} {ν : Nat → Nat → Int32} {f : Nat} {X : Nat → Nat → Int32} (hf : sh_F τ.2 f) (h : RL ν f X) {i : Int32} {Q : Option Value → mm_T → Prop}  (hB : in_I i 0 1 = 0) (hQ : Q (some (.int (-1000001))) (τ, ν)) : mt_P Γ mk_F_keep [.ref f, .int i] (τ, ν) (Q) := by
  refine mt_of (L := [some (.ref f), some (.int i), none]) (by decide +kernel) (by simp [Value.category]) (Nat.le_of_ble_eq_true rfl) (lc_2_3 ()) ?_
  obtain ⟨f0, hx, hy, ⟨g, hg, hgi⟩, him, hv, ht⟩ := id hf
  have hX := h.1
  refine gg_aldn dc_F_keep_0 rfl rfl ?_
  refine gg_ildn dc_F_keep_1 rfl rfl ?_
  refine gg_callV (sp_F_imgN (X := X) hf hB) dc_F_keep_2 ml_F_145 ce_F_imageNumbered ⟨Nat.le_of_ble_eq_true rfl, Nat.le_of_ble_eq_true rfl⟩ f0 rfl rfl (Nat.le_of_ble_eq_true rfl) ⟨Nat.le_of_ble_eq_true rfl, Nat.le_of_ble_eq_true rfl⟩ ?_
  rintro v μ9 ⟨rfl, rfl⟩
  dsimp only [Option.toList, List.cons_append, List.nil_append]
  refine gg_astnN (i := 2) dc_F_keep_5 rfl (Nat.le_of_ble_eq_true rfl) rfl ?_
  dsimp only [List.set]
  refine gg_aldnN dc_F_keep_6 rfl rfl ?_
  refine gg_nnullN dc_F_keep_7 ?_
  refine gg_ldc dc_F_keep_10 lk_F_45 ?_
  exact gg_iret dc_F_keep_12 rfl ⟨Nat.le_of_ble_eq_true rfl, Nat.le_of_ble_eq_true rfl⟩ (hQ)
set_option maxRecDepth 100000 in
set_option maxHeartbeats 4000000 in
theorem sp_F_backB {Γ : cx_T} {τ : Nat × (Nat → sh_T)} {ν : Nat → Nat → Int32} {f : Nat} {X : Nat → Nat → Int32} (hf : sh_F τ.2 f) (h : RL ν f X) {i : Int32} {Q : Option Value → mm_T → Prop}  (hB : in_I i 0 1 = 0) (hQ : Q (some (.int (-1000001))) (τ, ν)) : mt_P Γ mk_F_back [.ref f, .int i] (τ, ν) (Q) := by
  refine mt_of (L := [some (.ref f), some (.int i), none]) (by decide +kernel) (by simp [Value.category]) (Nat.le_of_ble_eq_true rfl) (lc_2_3 ()) ?_
  obtain ⟨f0, hx, hy, ⟨g, hg, hgi⟩, him, hv, ht⟩ := id hf
  have hX := h.1
  refine gg_aldn dc_F_back_0 rfl rfl ?_
  refine gg_ildn dc_F_back_1 rfl rfl ?_
  refine gg_callV (sp_F_imgN (X := X) hf hB) dc_F_back_2 ml_F_145 ce_F_imageNumbered ⟨Nat.le_of_ble_eq_true rfl, Nat.le_of_ble_eq_true rfl⟩ f0 rfl rfl (Nat.le_of_ble_eq_true rfl) ⟨Nat.le_of_ble_eq_true rfl, Nat.le_of_ble_eq_true rfl⟩ ?_
  rintro v μ9 ⟨rfl, rfl⟩
  dsimp only [Option.toList, List.cons_append, List.nil_append]
  refine gg_astnN (i := 2) dc_F_back_5 rfl (Nat.le_of_ble_eq_true rfl) rfl ?_
  dsimp only [List.set]
  refine gg_aldnN dc_F_back_6 rfl rfl ?_
  refine gg_nnullN dc_F_back_7 ?_
  refine gg_ldc dc_F_back_10 lk_F_45 ?_
  exact gg_iret dc_F_back_12 rfl ⟨Nat.le_of_ble_eq_true rfl, Nat.le_of_ble_eq_true rfl⟩ (hQ)
set_option maxRecDepth 100000 in
set_option maxHeartbeats 4000000 in
theorem sp_F_keep {Γ : cx_T} {τ : Nat × (Nat → sh_T)} {ν : Nat → Nat → Int32} {f : Nat} {X : Nat → Nat → Int32} (hf : sh_F τ.2 f) (h : RL ν f X) {i : Int32} {Q : Option Value → mm_T → Prop} {q : Nat} (hi : i = nI q) (hq : q < 2) (hN : ∀ ν' : Nat → Nat → Int32, RF ν f (up_2 (va_up X 3 (pa_N (X 3) (80 * q) (X 1) 80)) 0 4 (X 0 4 ||| 1 <<< (nI q &&& 31))) ν' → Q (some (.int (X 1 6))) (τ, ν')) : mt_P Γ mk_F_keep [.ref f, .int i] (τ, ν) (Q) := by
  refine mt_of (L := [some (.ref f), some (.int i), none]) (by decide +kernel) (by simp [Value.category]) (Nat.le_of_ble_eq_true rfl) (lc_2_3 ()) ?_
  obtain ⟨f0, hx, hy, ⟨g, hg, hgi⟩, him, hv, ht⟩ := id hf
  have hX := h.1
  refine gg_aldn dc_F_keep_0 rfl rfl ?_
  refine gg_ildn dc_F_keep_1 rfl rfl ?_
  refine gg_callV (sp_F_img (X := X) hf hi hq) dc_F_keep_2 ml_F_145 ce_F_imageNumbered ⟨Nat.le_of_ble_eq_true rfl, Nat.le_of_ble_eq_true rfl⟩ f0 rfl rfl (Nat.le_of_ble_eq_true rfl) ⟨Nat.le_of_ble_eq_true rfl, Nat.le_of_ble_eq_true rfl⟩ ?_
  rintro v μ9 ⟨rfl, rfl⟩
  dsimp only [Option.toList, List.cons_append, List.nil_append]
  refine gg_astn (i := 2) dc_F_keep_5 rfl (Nat.le_of_ble_eq_true rfl) rfl ?_
  dsimp only [List.set]
  refine gg_aldn dc_F_keep_6 rfl rfl ?_
  refine gg_nnull dc_F_keep_7 ?_
  refine gg_aldn dc_F_keep_13 rfl rfl ?_
  refine gg_aldn dc_F_keep_14 rfl rfl ?_
  refine gg_getr dc_F_keep_15 lf_F_10 f0 rfl ?_
  refine gg_callV (sp_A_copyFrom (him q hq) hx hX (by omega)) dc_F_keep_18 ml_F_87 ce_A_copyFrom ⟨Nat.le_of_ble_eq_true rfl, Nat.le_of_ble_eq_true rfl⟩ (him q hq).1 rfl rfl (Nat.le_of_ble_eq_true rfl) ⟨Nat.le_of_ble_eq_true rfl, Nat.le_of_ble_eq_true rfl⟩ ?_
  rintro v μ9 ⟨ν2, rfl, rfl, hA2, hF2⟩
  dsimp only [Option.toList, List.cons_append, List.nil_append]
  have e3 : ν2 f 3 = X 0 4 := by rw [hF2 f (by omega)]; exact h.2.1.1
  refine gg_aldn dc_F_keep_21 rfl rfl ?_
  refine gg_dup dc_F_keep_22 rfl ?_
  refine gx_geti dc_F_keep_23 lf_F_23 f0 rfl ?_
  refine gx_top (e3) ?_
  refine gg_iconst (v := 1) dc_F_keep_26 (by decide) ?_
  refine gg_ildn dc_F_keep_27 rfl rfl ?_
  refine gg_ishl dc_F_keep_28 ?_
  refine gg_ior dc_F_keep_29 ?_
  refine gg_puti dc_F_keep_30 lp_F_23 f0 rfl ?_
  have h3 : RF ν f (up_2 (va_up X 3 (pa_N (X 3) (80 * q) (X 1) 80)) 0 4 (X 0 4 ||| 1 <<< (nI q &&& 31))) (up_2 ν2 f 3 (X 0 4 ||| 1 <<< (i &&& 31))) := by
    rw [hi]
    exact (RF.id h).kp hq (hA2.fr (a := 0) fun c z1 z2 => by rw [u2_ne (by omega)]) (fun c z1 z2 => by rw [u2_ne z1]; exact hF2 c (by omega)) (by rw [u2_eq, ud_eq])
  replace hX : AX (up_2 ν2 f 3 (X 0 4 ||| 1 <<< (i &&& 31))) (f + 1) (X 1) := hX.fr (a := 0) fun c z1 z2 => by rw [u2_ne (by omega)]; exact hF2 c (by omega)
  refine gg_aldn dc_F_keep_33 rfl rfl ?_
  refine gg_getr dc_F_keep_34 lf_F_10 f0 rfl ?_
  refine gx_axi (k := 8) (s := 6) dc_F_keep_37 lf_F_136 hx.1 hX rfl ⟨Nat.le_of_ble_eq_true rfl, Nat.le_of_ble_eq_true rfl⟩ rfl ?_
  exact gg_iret dc_F_keep_40 rfl ⟨Nat.le_of_ble_eq_true rfl, Nat.le_of_ble_eq_true rfl⟩ ((hN _ h3))
set_option maxRecDepth 100000 in
set_option maxHeartbeats 4000000 in
theorem sp_F_back {Γ : cx_T} {τ : Nat × (Nat → sh_T)} {ν : Nat → Nat → Int32} {f : Nat} {X : Nat → Nat → Int32} (hf : sh_F τ.2 f) (h : RL ν f X) {i : Int32} {Q : Option Value → mm_T → Prop} {q : Nat} (hi : i = nI q) (hq : q < 2) (hI : X 0 4 >>> (nI q &&& 31) &&& 1 = 0 → Q (some (.int (-1000002))) (τ, ν)) (hN : ¬ X 0 4 >>> (nI q &&& 31) &&& 1 = 0 → ∀ ν' : Nat → Nat → Int32, RF ν f (va_up (nt_X X) 1 ((fun k => X 3 (80 * q + k)))) ν' → Q (some (.int (X 3 (80 * q + 6)))) (τ, ν')) : mt_P Γ mk_F_back [.ref f, .int i] (τ, ν) (Q) := by
  refine mt_of (L := [some (.ref f), some (.int i), none]) (by decide +kernel) (by simp [Value.category]) (Nat.le_of_ble_eq_true rfl) (lc_2_3 ()) ?_
  obtain ⟨f0, hx, hy, ⟨g, hg, hgi⟩, him, hv, ht⟩ := id hf
  have hX := h.1
  obtain ⟨e3, z, hz, ez⟩ := h.2.1
  have hkb := (kb_T z hz q hq).2.1
  refine gg_aldn dc_F_back_0 rfl rfl ?_
  refine gg_ildn dc_F_back_1 rfl rfl ?_
  refine gg_callV (sp_F_img (X := X) hf hi hq) dc_F_back_2 ml_F_145 ce_F_imageNumbered ⟨Nat.le_of_ble_eq_true rfl, Nat.le_of_ble_eq_true rfl⟩ f0 rfl rfl (Nat.le_of_ble_eq_true rfl) ⟨Nat.le_of_ble_eq_true rfl, Nat.le_of_ble_eq_true rfl⟩ ?_
  rintro v μ9 ⟨rfl, rfl⟩
  dsimp only [Option.toList, List.cons_append, List.nil_append]
  refine gg_astn (i := 2) dc_F_back_5 rfl (Nat.le_of_ble_eq_true rfl) rfl ?_
  dsimp only [List.set]
  refine gg_aldn dc_F_back_6 rfl rfl ?_
  refine gg_nnull dc_F_back_7 ?_
  refine gg_aldn dc_F_back_13 rfl rfl ?_
  refine gx_geti dc_F_back_14 lf_F_23 f0 rfl ?_
  refine gx_top (e3) ?_
  refine gg_iconst (v := 1) dc_F_back_17 (by decide) ?_
  refine gg_ildn dc_F_back_18 rfl rfl ?_
  refine gg_ishl dc_F_back_19 ?_
  refine gg_iand dc_F_back_20 ?_
  refine gg_ifne dc_F_back_21 (fun c_21 => ?_) (fun c_21 => ?_)
  · refine gg_aldn dc_F_back_27 rfl rfl ?_
    refine gg_getr dc_F_back_28 lf_F_30 f0 rfl ?_
    refine gg_aldn dc_F_back_31 rfl rfl ?_
    refine gg_getr dc_F_back_32 lf_F_10 f0 rfl ?_
    refine gg_callV (sp_F_push hf (RF.id h)) dc_F_back_35 ml_F_50 ce_S_push ⟨Nat.le_of_ble_eq_true rfl, Nat.le_of_ble_eq_true rfl⟩ hv.1 rfl rfl (Nat.le_of_ble_eq_true rfl) ⟨Nat.le_of_ble_eq_true rfl, Nat.le_of_ble_eq_true rfl⟩ ?_
    rintro v μ9 ⟨ν2, rfl, rfl, h2, hk2⟩
    dsimp only [Option.toList, List.cons_append, List.nil_append]
    have hX : AX ν2 (f + 1) (X 1) := by
      have := h2.ax
      rw [nt_o (by omega) (by omega)] at this
      exact this
    refine gg_aldn dc_F_back_38 rfl rfl ?_
    refine gg_getr dc_F_back_39 lf_F_10 f0 rfl ?_
    refine gg_aldn dc_F_back_42 rfl rfl ?_
    refine gg_callV (sp_A_copyFrom hx (him q hq) (((h.2.2.1 q hq (fun y => c_21 (by rw [hi, ez]; rw [ez] at y; exact hkb.mpr y)))).fr (a := 0) fun c z1 z2 => hk2 c (by omega)) (by omega)) dc_F_back_43 ml_F_87 ce_A_copyFrom ⟨Nat.le_of_ble_eq_true rfl, Nat.le_of_ble_eq_true rfl⟩ hx.1 rfl rfl (Nat.le_of_ble_eq_true rfl) ⟨Nat.le_of_ble_eq_true rfl, Nat.le_of_ble_eq_true rfl⟩ ?_
    rintro v μ9 ⟨ν3, rfl, rfl, hX3, hF3⟩
    dsimp only [Option.toList, List.cons_append, List.nil_append]
    have h3 := h2.row hX3 hF3
    replace hX := hX3
    refine gg_aldn dc_F_back_46 rfl rfl ?_
    refine gg_getr dc_F_back_47 lf_F_10 f0 rfl ?_
    refine gx_axi (k := 8) (s := 6) dc_F_back_50 lf_F_136 hx.1 hX rfl ⟨Nat.le_of_ble_eq_true rfl, Nat.le_of_ble_eq_true rfl⟩ rfl ?_
    exact gg_iret dc_F_back_53 rfl ⟨Nat.le_of_ble_eq_true rfl, Nat.le_of_ble_eq_true rfl⟩ ((hN (fun y => c_21 (by rw [hi, ez]; rw [ez] at y; exact hkb.mpr y)) ν3 h3))
  · refine gg_ldc dc_F_back_24 lk_F_100 ?_
    exact gg_iret dc_F_back_26 rfl ⟨Nat.le_of_ble_eq_true rfl, Nat.le_of_ble_eq_true rfl⟩ ((hI (by rw [hi, ez] at c_21; rw [ez]; exact hkb.mp c_21)))
set_option maxRecDepth 100000 in
set_option maxHeartbeats 4000000 in
theorem sp_F_undo0 {Γ : cx_T} {τ : Nat × (Nat → sh_T)} {ν : Nat → Nat → Int32} {f : Nat} {X : Nat → Nat → Int32} (hf : sh_F τ.2 f) (h : RL ν f X) {Q : Option Value → mm_T → Prop} (h0 : X 0 2 = 0) (hQ : Q (some (.int (-1000002))) (τ, ν)) : mt_P Γ mk_F_undo [.ref f] (τ, ν) (Q) := by
  refine mt_of (L := [some (.ref f)]) (by decide +kernel) (by simp [Value.category]) (Nat.le_of_ble_eq_true rfl) (lc_1_1 ()) ?_
  obtain ⟨f0, hx, hy, ⟨g, hg, hgi⟩, him, hv, ht⟩ := id hf
  have hX := h.1
  obtain ⟨k, n, hk, g1, g2, g3, g4⟩ := h.2.2.2.1
  have hn : n = 0 := (nI_eq (by omega) (by omega)).mp (g3.symm.trans h0)
  refine gg_aldn dc_F_undo_0 rfl rfl ?_
  refine gg_getr dc_F_undo_1 lf_F_30 f0 rfl ?_
  refine gg_aldn dc_F_undo_4 rfl rfl ?_
  refine gg_getr dc_F_undo_5 lf_F_10 f0 rfl ?_
  refine gg_okV (sp_S_pop0 hv g1 hk.1 g2 hk.2 hf.2.1 (by omega) hn) dc_F_undo_8 ml_F_149 ce_S_popInto ⟨Nat.le_of_ble_eq_true rfl, Nat.le_of_ble_eq_true rfl⟩ hv.1 rfl rfl (Nat.le_of_ble_eq_true rfl) ⟨rfl, rfl⟩ ⟨Nat.le_of_ble_eq_true rfl, Nat.le_of_ble_eq_true rfl⟩ ?_
  refine gg_ifne dc_F_undo_11 (fun c_11 => ?_) (fun c_11 => ?_)
  · exact absurd rfl c_11
  · refine gg_ldc dc_F_undo_14 lk_F_100 ?_
    exact gg_iret dc_F_undo_16 rfl ⟨Nat.le_of_ble_eq_true rfl, Nat.le_of_ble_eq_true rfl⟩ (hQ)
set_option maxRecDepth 100000 in
set_option maxHeartbeats 4000000 in
theorem sp_F_undo {Γ : cx_T} {τ : Nat × (Nat → sh_T)} {ν : Nat → Nat → Int32} {f : Nat} {X : Nat → Nat → Int32} (hf : sh_F τ.2 f) (h : RL ν f X) {Q : Option Value → mm_T → Prop} {n : Nat} (h0 : X 0 2 = nI (n + 1)) (h5 : n < 6) (hN : ∀ ν' : Nat → Nat → Int32, RF ν f (va_up (up_2 X 0 2 (nI n)) 1 (fun i => X 2 (80 * n + i))) ν' → Q (some (.int (nI n))) (τ, ν')) : mt_P Γ mk_F_undo [.ref f] (τ, ν) (Q) := by
  refine mt_of (L := [some (.ref f)]) (by decide +kernel) (by simp [Value.category]) (Nat.le_of_ble_eq_true rfl) (lc_1_1 ()) ?_
  obtain ⟨f0, hx, hy, ⟨g, hg, hgi⟩, him, hv, ht⟩ := id hf
  have hX := h.1
  obtain ⟨k, n9, hk, g1, g2, g3, g4⟩ := h.2.2.2.1
  have hn : n9 = n + 1 := (nI_eq (by omega) (by omega)).mp (g3.symm.trans h0)
  subst hn
  have hA : AX ν (f + 50 + 2 + 12 * ((k + 5) % 6)) (fun i => X 2 (80 * n + i)) := by
    have z := g4 n (by omega)
    rw [show f + 52 + 12 * ((k + 6 - (n + 1) + n) % 6) = f + 50 + 2 + 12 * ((k + 5) % 6) by omega] at z
    exact z
  refine gg_aldn dc_F_undo_0 rfl rfl ?_
  refine gg_getr dc_F_undo_1 lf_F_30 f0 rfl ?_
  refine gg_aldn dc_F_undo_4 rfl rfl ?_
  refine gg_getr dc_F_undo_5 lf_F_10 f0 rfl ?_
  refine gg_callV (sp_S_pop hv g1 hk.1 g2 h5 hf.2.1 (by omega) hA) dc_F_undo_8 ml_F_149 ce_S_popInto ⟨Nat.le_of_ble_eq_true rfl, Nat.le_of_ble_eq_true rfl⟩ hv.1 rfl rfl (Nat.le_of_ble_eq_true rfl) ⟨Nat.le_of_ble_eq_true rfl, Nat.le_of_ble_eq_true rfl⟩ ?_
  rintro v μ9 ⟨ν2, rfl, rfl, hX2, e1, e2, hF2⟩
  dsimp only [Option.toList, List.cons_append, List.nil_append]
  have h2 := (RF.id h).un hk.1 h5 g4 hX2 e1 e2 (fun c z1 z2 => hF2 c z1 (by omega))
  refine gg_ifne dc_F_undo_11 (fun c_11 => ?_) (fun c_11 => ?_)
  · refine gg_aldn dc_F_undo_17 rfl rfl ?_
    refine gg_getr dc_F_undo_18 lf_F_30 f0 rfl ?_
    refine gx_geti dc_F_undo_21 lf_F_153 hv.1 rfl ?_
    refine gx_top (show ν2 (f + 50) 2 = nI n from e2) ?_
    exact gg_iret dc_F_undo_24 rfl ⟨Nat.le_of_ble_eq_true rfl, Nat.le_of_ble_eq_true rfl⟩ ((hN ν2 h2))
  · exact absurd c_11 (by decide)
set_option maxRecDepth 100000 in
set_option maxHeartbeats 4000000 in
theorem sp_F_losses {Γ : cx_T} {τ : Nat × (Nat → sh_T)} {ν : Nat → Nat → Int32} {f : Nat} {X : Nat → Nat → Int32} (hf : sh_F τ.2 f) (h : RL ν f X) {x y : Int32} {Q : Option Value → mm_T → Prop} (hs : st_P Γ τ ν) (hB : (in_I x (-20000) 20000 = 0 ∨ in_I y 1 1000 = 0) → Q (some (.int (-1000001))) (τ, ν)) (hI : ¬ in_I x (-20000) 20000 = 0 → ¬ in_I y 1 1000 = 0 → in_I (ai_S (X 1) x) (-20000) 20000 = 0 → Q (some (.int (-1000009))) (τ, ν)) (hN : ¬ in_I x (-20000) 20000 = 0 → ¬ in_I y 1 1000 = 0 → ¬ in_I (ai_S (X 1) x) (-20000) 20000 = 0 → ∀ ν' : Nat → Nat → Int32, RF ν f X ν' → Q (some (.int ((tv_S (upd (X 1) 2 y) x).1 10 - X 1 10))) (τ, ν')) : mt_P Γ mk_F_losses [.ref f, .int x, .int y] (τ, ν) (Q) := by
  refine mt_of (L := [some (.ref f), some (.int x), some (.int y)]) (by decide +kernel) (by simp [Value.category]) (Nat.le_of_ble_eq_true rfl) (lc_3_3 ()) ?_
  obtain ⟨f0, hx, hy, ⟨g, hg, hgi⟩, him, hv, ht⟩ := id hf
  have hX := h.1
  have e2 : nv_I 2 y = in_I y 1 1000 := by rw [nv_nm]; exact nm_k (k := 2) (by omega)
  refine gg_ildn dc_F_losses_0 rfl rfl ?_
  refine gg_okS (sp_F_isPlace) dc_F_losses_1 ml_F_58 ce_F_isPlace ⟨Nat.le_of_ble_eq_true rfl, Nat.le_of_ble_eq_true rfl⟩ rfl (Nat.le_of_ble_eq_true rfl) ⟨rfl, rfl⟩ ⟨Nat.le_of_ble_eq_true rfl, Nat.le_of_ble_eq_true rfl⟩ ?_
  refine gg_ifeq dc_F_losses_4 (fun c_4 => ?_) (fun c_4 => ?_)
  · refine gg_ldc dc_F_losses_15 lk_F_45 ?_
    exact gg_iret dc_F_losses_17 rfl ⟨Nat.le_of_ble_eq_true rfl, Nat.le_of_ble_eq_true rfl⟩ ((hB (Or.inl c_4)))
  · refine gg_iconst (v := 2) dc_F_losses_7 (by decide) ?_
    refine gg_ildn dc_F_losses_8 rfl rfl ?_
    refine gg_okS (sp_A_isNumberInRange hs) dc_F_losses_9 ml_F_41 ce_A_isNumberInRange ⟨Nat.le_of_ble_eq_true rfl, Nat.le_of_ble_eq_true rfl⟩ rfl (Nat.le_of_ble_eq_true rfl) ⟨rfl, rfl⟩ ⟨Nat.le_of_ble_eq_true rfl, Nat.le_of_ble_eq_true rfl⟩ ?_
    refine gx_top (e2) ?_
    refine gg_ifne dc_F_losses_12 (fun c_12 => ?_) (fun c_12 => ?_)
    · refine gg_aldn dc_F_losses_18 rfl rfl ?_
      refine gg_getr dc_F_losses_19 lf_F_10 f0 rfl ?_
      refine gg_ildn dc_F_losses_22 rfl rfl ?_
      refine gg_okV (sp_A_refuses hx hX) dc_F_losses_23 ml_F_97 ce_A_refuses ⟨Nat.le_of_ble_eq_true rfl, Nat.le_of_ble_eq_true rfl⟩ hx.1 rfl rfl (Nat.le_of_ble_eq_true rfl) ⟨rfl, rfl⟩ ⟨Nat.le_of_ble_eq_true rfl, Nat.le_of_ble_eq_true rfl⟩ ?_
      refine gg_ifeq dc_F_losses_26 (fun c_26 => ?_) (fun c_26 => ?_)
      · refine gg_aldn dc_F_losses_32 rfl rfl ?_
        refine gg_getr dc_F_losses_33 lf_F_16 f0 rfl ?_
        refine gg_aldn dc_F_losses_36 rfl rfl ?_
        refine gg_getr dc_F_losses_37 lf_F_10 f0 rfl ?_
        refine gg_callV (sp_A_copyFrom hy hx hX (by omega)) dc_F_losses_40 ml_F_87 ce_A_copyFrom ⟨Nat.le_of_ble_eq_true rfl, Nat.le_of_ble_eq_true rfl⟩ hy.1 rfl rfl (Nat.le_of_ble_eq_true rfl) ⟨Nat.le_of_ble_eq_true rfl, Nat.le_of_ble_eq_true rfl⟩ ?_
        rintro v μ9 ⟨ν2, rfl, rfl, hY2, hF2⟩
        dsimp only [Option.toList, List.cons_append, List.nil_append]
        have h2 := (RF.id h).tr hF2
        have hX : AX ν2 (f + 1) (X 1) := h2.ax
        refine gg_aldn dc_F_losses_43 rfl rfl ?_
        refine gg_getr dc_F_losses_44 lf_F_16 f0 rfl ?_
        refine gg_iconst (v := 2) dc_F_losses_47 (by decide) ?_
        refine gg_ildn dc_F_losses_48 rfl rfl ?_
        refine gg_callV (sp_A_changeNumber hy hY2 (k := 2) rfl (by omega)) dc_F_losses_49 ml_F_54 ce_A_changeNumber ⟨Nat.le_of_ble_eq_true rfl, Nat.le_of_ble_eq_true rfl⟩ hy.1 rfl rfl (Nat.le_of_ble_eq_true rfl) ⟨Nat.le_of_ble_eq_true rfl, Nat.le_of_ble_eq_true rfl⟩ ?_
        rintro v μ9 ⟨ν3, rfl, rfl, hY3, hF3⟩
        dsimp only [Option.toList, List.cons_append, List.nil_append]
        have h3 := h2.tr hF3
        refine gg_aldn dc_F_losses_52 rfl rfl ?_
        refine gg_getr dc_F_losses_53 lf_F_16 f0 rfl ?_
        refine gg_ildn dc_F_losses_56 rfl rfl ?_
        refine gg_callV (sp_A_travel hy hY3) dc_F_losses_57 ml_F_104 ce_A_travel ⟨Nat.le_of_ble_eq_true rfl, Nat.le_of_ble_eq_true rfl⟩ hy.1 rfl rfl (Nat.le_of_ble_eq_true rfl) ⟨Nat.le_of_ble_eq_true rfl, Nat.le_of_ble_eq_true rfl⟩ ?_
        rintro v μ9 ⟨ν4, rfl, rfl, hY4, hF4⟩
        dsimp only [Option.toList, List.cons_append, List.nil_append]
        have h4 := h3.tr hF4
        have hX : AX ν4 (f + 1) (X 1) := h4.ax
        have hY := hY4
        refine gg_pop dc_F_losses_60 rfl ?_
        refine gg_aldn dc_F_losses_61 rfl rfl ?_
        refine gg_getr dc_F_losses_62 lf_F_16 f0 rfl ?_
        refine gx_axi (k := 12) (s := 10) dc_F_losses_65 lf_F_101 hy.1 hY rfl ⟨Nat.le_of_ble_eq_true rfl, Nat.le_of_ble_eq_true rfl⟩ rfl ?_
        refine gg_aldn dc_F_losses_68 rfl rfl ?_
        refine gg_getr dc_F_losses_69 lf_F_10 f0 rfl ?_
        refine gx_axi (k := 12) (s := 10) dc_F_losses_72 lf_F_101 hx.1 hX rfl ⟨Nat.le_of_ble_eq_true rfl, Nat.le_of_ble_eq_true rfl⟩ rfl ?_
        refine gg_isub dc_F_losses_75 ?_
        exact gg_iret dc_F_losses_76 rfl ⟨Nat.le_of_ble_eq_true rfl, Nat.le_of_ble_eq_true rfl⟩ ((hN c_4 c_12 (it_0 c_26) ν4 h4))
      · refine gg_ldc dc_F_losses_29 lk_F_132 ?_
        exact gg_iret dc_F_losses_31 rfl ⟨Nat.le_of_ble_eq_true rfl, Nat.le_of_ble_eq_true rfl⟩ ((hI c_4 c_12 (it_1 c_26)))
    · refine gg_ldc dc_F_losses_15 lk_F_45 ?_
      exact gg_iret dc_F_losses_17 rfl ⟨Nat.le_of_ble_eq_true rfl, Nat.le_of_ble_eq_true rfl⟩ ((hB (Or.inr c_12)))
set_option maxRecDepth 100000 in
set_option maxHeartbeats 4000000 in
theorem sp_F_fastest {Γ : cx_T} {τ : Nat × (Nat → sh_T)} {ν : Nat → Nat → Int32} {f : Nat} {X : Nat → Nat → Int32} (hf : sh_F τ.2 f) (h : RL ν f X) {x : Int32} {Q : Option Value → mm_T → Prop} (hB : in_I x (-20000) 20000 = 0 → Q (some (.int (-1000001))) (τ, ν)) (hE : ¬ in_I x (-20000) 20000 = 0 → in_I (ai_S (X 1) x) (-20000) 20000 = 0 → Q (some (.int (-1000009))) (τ, ν)) (hN : ¬ in_I x (-20000) 20000 = 0 → ¬ in_I (ai_S (X 1) x) (-20000) 20000 = 0 → ∀ ν' : Nat → Nat → Int32, RF ν f X ν' → Q (some (.int (if cf_N (X 1) (tv_S (upd (upd (X 1) 1 200) 3 0) x).2 20 = 0 then -1000009 else nI (50 * cf_N (X 1) (tv_S (upd (upd (X 1) 1 200) 3 0) x).2 20)))) (τ, ν')) : mt_P Γ mk_F_fastest [.ref f, .int x] (τ, ν) (Q) := by
  refine mt_of (L := [some (.ref f), some (.int x), none, none]) (by decide +kernel) (by simp [Value.category]) (Nat.le_of_ble_eq_true rfl) (lc_2_4 ()) ?_
  obtain ⟨f0, hx, hy, ⟨g, hg, hgi⟩, him, hv, ht⟩ := id hf
  have hX := h.1
  have loop : ∀ ν9 : Nat → Nat → Int32, AX ν9 (f + 1) (X 1) → Q (some (.int (if cf_N (X 1) (tv_S (upd (upd (X 1) 1 200) 3 0) x).2 20 = 0 then -1000009 else nI (50 * cf_N (X 1) (tv_S (upd (upd (X 1) 1 200) 3 0) x).2 20)))) (τ, ν9) → ∀ k : Nat, k = 20 → gg_P Γ mk_F_fastest Q 0 0 48 [some (.ref f), some (.int x), some (.int (tv_S (upd (upd (X 1) 1 200) 3 0) x).2), some (.int (nI (50 * k)))] [] (τ, ν9) := by
    intro ν9 hX hq k hk
    have key : ∀ k : Nat, k ≤ 20 → cf_N (X 1) (tv_S (upd (upd (X 1) 1 200) 3 0) x).2 k = cf_N (X 1) (tv_S (upd (upd (X 1) 1 200) 3 0) x).2 20 → gg_P Γ mk_F_fastest Q 0 0 48 [some (.ref f), some (.int x), some (.int (tv_S (upd (upd (X 1) 1 200) 3 0) x).2), some (.int (nI (50 * k)))] [] (τ, ν9) := by
      intro k
      induction k with
      | zero =>
        intro hk e9
        have e9 : 0 = cf_N (X 1) (tv_S (upd (upd (X 1) 1 200) 3 0) x).2 20 := e9
        refine gg_ildn dc_F_fastest_48 rfl rfl ?_
        refine gg_ifle dc_F_fastest_49 (fun c_49 => ?_) (fun c_49 => ?_)
        · refine gg_ldc dc_F_fastest_72 lk_F_132 ?_
          exact gg_iret dc_F_fastest_74 rfl ⟨Nat.le_of_ble_eq_true rfl, Nat.le_of_ble_eq_true rfl⟩ ((by rw [← e9] at hq; exact hq))
        · exact absurd (by decide) c_49
      | succ k ih =>
        intro hk e9
        refine gg_ildn dc_F_fastest_48 rfl rfl ?_
        refine gg_ifle dc_F_fastest_49 (fun c_49 => ?_) (fun c_49 => ?_)
        · exact absurd c_49 (nI_nle (by omega) (by omega))
        · refine gg_aldn dc_F_fastest_52 rfl rfl ?_
          refine gg_getr dc_F_fastest_53 lf_F_10 f0 rfl ?_
          refine gg_ildn dc_F_fastest_56 rfl rfl ?_
          refine gg_okV (sp_A_torqueAt hx hX) dc_F_fastest_57 ml_F_199 ce_A_torqueAt ⟨Nat.le_of_ble_eq_true rfl, Nat.le_of_ble_eq_true rfl⟩ hx.1 rfl rfl (Nat.le_of_ble_eq_true rfl) ⟨rfl, rfl⟩ ⟨Nat.le_of_ble_eq_true rfl, Nat.le_of_ble_eq_true rfl⟩ ?_
          refine gg_ildn dc_F_fastest_60 rfl rfl ?_
          refine gg_iclt dc_F_fastest_61 (fun c_61 => ?_) (fun c_61 => ?_)
          · refine gg_iinc (i := 3) dc_F_fastest_66 rfl (Nat.le_of_ble_eq_true rfl) rfl ?_
            dsimp only [List.set]
            rw [show Int32.ofInt (-50) = (-50) from by decide]
            refine gg_goto dc_F_fastest_69 ?_
            rw [show nI (50 * (k + 1)) + -50 = nI (50 * k) by rw [show 50 * (k + 1) = 50 * k + 50 by omega, ← nI_add, show (-50 : Int32) = -(nI 50) by decide, ← Int32.sub_eq_add_neg, Int32.add_sub_cancel]]
            exact ih (by omega) (by rw [← e9]; exact (if_pos c_61).symm)
          · refine gg_ildn dc_F_fastest_64 rfl rfl ?_
            refine gg_iret dc_F_fastest_65 rfl ⟨Nat.le_of_ble_eq_true rfl, Nat.le_of_ble_eq_true rfl⟩ ?_
            have e : cf_N (X 1) (tv_S (upd (upd (X 1) 1 200) 3 0) x).2 20 = k + 1 := by rw [← e9]; exact if_neg c_61
            rw [e, if_neg (by omega)] at hq
            exact hq
    exact key k (by omega) (by rw [hk])
  refine gg_ildn dc_F_fastest_0 rfl rfl ?_
  refine gg_okS (sp_F_isPlace) dc_F_fastest_1 ml_F_58 ce_F_isPlace ⟨Nat.le_of_ble_eq_true rfl, Nat.le_of_ble_eq_true rfl⟩ rfl (Nat.le_of_ble_eq_true rfl) ⟨rfl, rfl⟩ ⟨Nat.le_of_ble_eq_true rfl, Nat.le_of_ble_eq_true rfl⟩ ?_
  refine gg_ifne dc_F_fastest_4 (fun c_4 => ?_) (fun c_4 => ?_)
  · refine gg_aldn dc_F_fastest_10 rfl rfl ?_
    refine gg_getr dc_F_fastest_11 lf_F_10 f0 rfl ?_
    refine gg_ildn dc_F_fastest_14 rfl rfl ?_
    refine gg_okV (sp_A_refuses hx hX) dc_F_fastest_15 ml_F_97 ce_A_refuses ⟨Nat.le_of_ble_eq_true rfl, Nat.le_of_ble_eq_true rfl⟩ hx.1 rfl rfl (Nat.le_of_ble_eq_true rfl) ⟨rfl, rfl⟩ ⟨Nat.le_of_ble_eq_true rfl, Nat.le_of_ble_eq_true rfl⟩ ?_
    refine gg_ifeq dc_F_fastest_18 (fun c_18 => ?_) (fun c_18 => ?_)
    · refine gg_aldn dc_F_fastest_24 rfl rfl ?_
      refine gg_getr dc_F_fastest_25 lf_F_16 f0 rfl ?_
      refine gg_aldn dc_F_fastest_28 rfl rfl ?_
      refine gg_getr dc_F_fastest_29 lf_F_10 f0 rfl ?_
      refine gg_callV (sp_A_copyFrom hy hx hX (by omega)) dc_F_fastest_32 ml_F_87 ce_A_copyFrom ⟨Nat.le_of_ble_eq_true rfl, Nat.le_of_ble_eq_true rfl⟩ hy.1 rfl rfl (Nat.le_of_ble_eq_true rfl) ⟨Nat.le_of_ble_eq_true rfl, Nat.le_of_ble_eq_true rfl⟩ ?_
      rintro v μ9 ⟨ν2, rfl, rfl, hY2, hF2⟩
      dsimp only [Option.toList, List.cons_append, List.nil_append]
      have h2 := (RF.id h).tr hF2
      have hX : AX ν2 (f + 1) (X 1) := h2.ax
      refine gg_aldn dc_F_fastest_35 rfl rfl ?_
      refine gg_getr dc_F_fastest_36 lf_F_16 f0 rfl ?_
      refine gg_ildn dc_F_fastest_39 rfl rfl ?_
      refine gg_callV (sp_A_travelUnstalled hy hY2) dc_F_fastest_40 ml_F_196 ce_A_travelUnstalled ⟨Nat.le_of_ble_eq_true rfl, Nat.le_of_ble_eq_true rfl⟩ hy.1 rfl rfl (Nat.le_of_ble_eq_true rfl) ⟨Nat.le_of_ble_eq_true rfl, Nat.le_of_ble_eq_true rfl⟩ ?_
      rintro v μ9 ⟨ν3, rfl, rfl, hY3, hF3⟩
      dsimp only [Option.toList, List.cons_append, List.nil_append]
      have h3 := h2.tr hF3
      have hX : AX ν3 (f + 1) (X 1) := h3.ax
      have hq := hN c_4 (it_0 c_18) ν3 h3
      refine gg_istn (i := 2) dc_F_fastest_43 rfl (Nat.le_of_ble_eq_true rfl) rfl ?_
      dsimp only [List.set]
      refine gg_sipush (v := 1000) dc_F_fastest_44 (by decide) ?_
      refine gg_istn (i := 3) dc_F_fastest_47 rfl (Nat.le_of_ble_eq_true rfl) rfl ?_
      dsimp only [List.set]
      exact gg_c (loop ν3 hX hq 20 rfl) rfl rfl
    · refine gg_ldc dc_F_fastest_21 lk_F_132 ?_
      exact gg_iret dc_F_fastest_23 rfl ⟨Nat.le_of_ble_eq_true rfl, Nat.le_of_ble_eq_true rfl⟩ ((hE c_4 (it_1 c_18)))
  · refine gg_ldc dc_F_fastest_7 lk_F_45 ?_
    exact gg_iret dc_F_fastest_9 rfl ⟨Nat.le_of_ble_eq_true rfl, Nat.le_of_ble_eq_true rfl⟩ ((hB (by first | exact c_4 | exact Classical.not_not.mp c_4)))
