/-! from the law's entry to its loop -/
theorem sh_Tx.cg {sh sh' : Nat → sh_T} {q : Nat} (h : sh_Tx sh q) (e : ∀ c : Nat, q ≤ c → c < q + 2 → sh' c = sh c) : sh_Tx sh' q := ⟨by rw [e q (by omega) (by omega)]; exact h.1, by rw [e _ (by omega) (by omega)]; exact h.2⟩
theorem sh_F.cg {sh sh' : Nat → sh_T} {f : Nat} (h : sh_F sh f) (e : ∀ c : Nat, f ≤ c → c < f + 126 → sh' c = sh c) : sh_F sh' f := by
  obtain ⟨h0, h1, h2, ⟨g, hg, hgi⟩, h3, h4, h5⟩ := h
  exact ⟨by rw [e f (by omega) (by omega)]; exact h0, h1.cg fun c a b => e c (by omega) (by omega), h2.cg fun c a b => e c (by omega) (by omega), ⟨g, by rw [e _ (by omega) (by omega)]; exact hg, hgi⟩, fun i hi => (h3 i hi).cg fun c a b => e c (by omega) (by omega), h4.cg fun c a b => e c (by omega) (by omega), h5.cg fun c a b => e c (by omega) (by omega)⟩
theorem VL.z {S : Nat → Int32} {b : Nat} {lo hi : Int} (h : S b = 0) : VL S b lo hi := by
  have hn : ls_n S b = 0 := by unfold ls_n; rw [h]; rfl
  refine ⟨⟨by omega, by rw [hn, h]; rfl⟩, fun i j _ hj => absurd hj (by omega), fun i hi => absurd hi (by omega)⟩
theorem VC.z {S : Nat → Int32} (h : S 63 = 0) : VC S := by
  have hn : ls_n S 63 = 0 := by unfold ls_n; rw [h]; rfl
  refine ⟨⟨by omega, by rw [hn, h]; rfl⟩, fun i j _ hj => absurd hj (by omega), fun i hi => absurd hi (by omega)⟩
theorem IV.z : IV I0_S 0 := by
  refine ⟨⟨by decide, by decide, by decide⟩, ⟨by decide, by decide⟩, ⟨0, ⟨by decide, by decide⟩, ⟨by decide, by decide⟩, by decide, by decide⟩, ⟨Or.inl (I0_z (by omega)), fun q => ?_⟩, VL.z (I0_z (by omega)), VL.z (I0_z (by omega)), VC.z (I0_z (by omega))⟩
  rw [I0_z (by omega)] at q
  exact absurd q (by decide)
set_option maxRecDepth 100000 in
set_option maxHeartbeats 4000000 in
theorem law_entry {Γ : cx_T} {n0 : Nat} {sh0 : Nat → sh_T} {ν0 : Nat → Nat → Int32} {b L : Nat} {xs : Nat → Int32} (hb : sh0 b = .inl (2, L)) (hL : L ≤ 1536) (hbf : b < n0) (ha : cx_aL Γ < n0 ∧ cx_aG Γ < n0) (hs : st_P Γ (n0, sh0) ν0) (hx : ∀ j : Nat, j < L → ν0 b j = xs j) : gg_P Γ mk_L_law (fun v _ => v = some (.int 1)) 0 0 0 [some (.ref b), none, none, none] [] ((n0, sh0), ν0) := by
  refine gg_new dc_L_law_0 nw_L_7 ⟨Nat.le_of_ble_eq_true rfl, Nat.le_of_ble_eq_true rfl⟩ ?_
  dsimp only
  refine gg_dup dc_L_law_3 rfl ?_
  refine gg_callI (As := []) (sp_F_init (by simp [va_up])) dc_L_law_4 ml_L_9 ce_F_init ⟨Nat.le_of_ble_eq_true rfl, Nat.le_of_ble_eq_true rfl⟩ rfl (Nat.le_of_ble_eq_true rfl) ⟨Nat.le_of_ble_eq_true rfl, Nat.le_of_ble_eq_true rfl⟩ ?_
  rintro v9 μ9 ⟨sh1, ν1, rfl, rfl, hF1, hA1, e3, e501, e502, e1241, hk1⟩
  dsimp only [Option.toList, List.nil_append] at hk1 ⊢
  refine gg_astn (i := 1) dc_L_law_7 rfl (Nat.le_of_ble_eq_true rfl) rfl ?_
  dsimp only [List.set]
  refine gg_new dc_L_law_8 nw_L_10 ⟨Nat.le_of_ble_eq_true rfl, Nat.le_of_ble_eq_true rfl⟩ ?_
  dsimp only
  refine gg_dup dc_L_law_11 rfl ?_
  refine gg_callI (As := []) (sp_M_init (by simp [va_up])) dc_L_law_12 ml_L_12 ce_M_init ⟨Nat.le_of_ble_eq_true rfl, Nat.le_of_ble_eq_true rfl⟩ rfl (Nat.le_of_ble_eq_true rfl) ⟨Nat.le_of_ble_eq_true rfl, Nat.le_of_ble_eq_true rfl⟩ ?_
  rintro v9 μ9 ⟨sh2, ν2, rfl, rfl, hM2, m0, m1, m2, hk2⟩
  dsimp only [Option.toList, List.nil_append] at hk2 ⊢
  refine gg_astn (i := 2) dc_L_law_15 rfl (Nat.le_of_ble_eq_true rfl) rfl ?_
  dsimp only [List.set]
  refine gg_iconst (v := 0) dc_L_law_16 (by decide) ?_
  refine gg_istn (i := 3) dc_L_law_17 rfl (Nat.le_of_ble_eq_true rfl) rfl ?_
  dsimp only [List.set]
  have s2 : ∀ c : Nat, c < n0 + 126 → sh2 c = sh1 c ∧ ν2 c = ν1 c := fun c hc => ⟨by rw [(hk2 c hc).1, va_up_ne _ _ (by omega)], by rw [(hk2 c hc).2, va_up_ne _ _ (by omega)]⟩
  have s1 : ∀ c : Nat, c < n0 → sh2 c = sh0 c ∧ ν2 c = ν0 c := fun c hc => ⟨by rw [(s2 c (by omega)).1, (hk1 c hc).1, va_up_ne _ _ (by omega)], by rw [(s2 c (by omega)).2, (hk1 c hc).2, va_up_ne _ _ (by omega)]⟩
  have hF2 : sh_F sh2 n0 := hF1.cg fun c _ h => (s2 c h).1
  have m0' : ν2 (n0 + 126) = fun _ => 0 := by rw [m0, va_up_self]
  have X1 : ν2 (n0 + 126 + 1) = I0_S := m1
  have hRL : RL ν2 n0 (fun o => ν2 (n0 + 126 + o)) := by
    refine ⟨?_, ⟨?_, 0, by omega, ?_⟩, fun i hi hb9 => ?_, ⟨0, 0, ⟨by omega, by omega⟩, ?_, ?_, ?_, fun j hj => absurd hj (Nat.not_lt_zero _)⟩, 0, ?_, ?_, by omega, fun k hk => absurd hk (Nat.not_lt_zero _)⟩
    · show AX ν2 (n0 + 1) (ν2 (n0 + 126 + 1))
      rw [X1]
      exact hA1.fr (a := 0) fun c _ h => (s2 c (by omega)).2
    · show ν2 n0 3 = ν2 (n0 + 126) 4
      rw [(s2 n0 (by omega)).2, e3, m0']
    · show ν2 (n0 + 126) 4 = nI 0
      rw [m0']; rfl
    · have hb9 : ¬ ν2 (n0 + 126) 4 >>> (nI i &&& 31) &&& 1 = 0 := hb9
      rw [m0'] at hb9
      rcases (show i = 0 ∨ i = 1 by omega) with rfl | rfl
      · exact absurd (by decide) hb9
      · exact absurd (by decide) hb9
    · rw [(s2 _ (by omega)).2, e501]; rfl
    · rw [(s2 _ (by omega)).2, e502]; rfl
    · show ν2 (n0 + 126) 2 = nI 0
      rw [m0']; rfl
    · rw [(s2 _ (by omega)).2, e1241]; rfl
    · show ν2 (n0 + 126) 7 = nI 0
      rw [m0']; rfl
  have hGI : GI (fun o => ν2 (n0 + 126 + o)) (700000 * ((0 : Nat) : Int)) := by
    refine ⟨?_, fun i hi hb9 => ?_, fun n hn en j hj => ?_⟩
    · show IV (ν2 (n0 + 126 + 1)) _
      rw [X1]
      exact IV.z
    · have hb9 : ¬ ν2 (n0 + 126) 4 >>> (nI i &&& 31) &&& 1 = 0 := hb9
      rw [m0'] at hb9
      rcases (show i = 0 ∨ i = 1 by omega) with rfl | rfl
      · exact absurd (by decide) hb9
      · exact absurd (by decide) hb9
    · have en : ν2 (n0 + 126) 2 = nI n := en
      rw [m0'] at en
      have : n = 0 := (nI_eq (b := 0) (by omega) (by omega)).mp en.symm
      omega
  have hst2 : st_P Γ (n0 + 126 + 6, sh2) ν2 := ⟨by show sh2 _ = _; rw [(s1 _ ha.1).1]; exact hs.1, by show sh2 _ = _; rw [(s1 _ ha.2).1]; exact hs.2.1, fun j hj => by rw [(s1 _ ha.1).2]; exact hs.2.2.1 j hj, fun j hj => by rw [(s1 _ ha.2).2]; exact hs.2.2.2 j hj⟩
  exact gg_c (law_loop (τ := (n0 + 126 + 6, sh2)) (f := n0) (b := b) (L := L) (xs := xs) hF2 hM2 ((s1 b hbf).1.trans hb) hL hbf ha 513 0 ν2 (fun o => ν2 (n0 + 126 + o)) (by omega) (by omega) ⟨fun _ _ => rfl, hRL, hGI, fun j hj => by rw [(s1 b hbf).2]; exact hx j hj, hst2⟩) rfl rfl
