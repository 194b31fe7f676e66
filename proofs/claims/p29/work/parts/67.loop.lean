/-! p29: the loop put together, the law from its entry -/
set_option maxRecDepth 100000 in
set_option maxHeartbeats 4000000 in
theorem law_loop {Γ : cx_T} {τ : Nat × (Nat → sh_T)} {b f L : Nat} (hf : sh_F τ.2 f) (ha : cx_aL Γ < f ∧ cx_aG Γ < f) (hb : τ.2 b = .inl (2, L)) (hLb : L < 2 ^ 31) : ∀ (d e : Nat), e + d = 32 → ∀ (ν X : Nat → Nat → Int32) (s : Nat), WI Γ τ f ν X e s → gg_P Γ mk_L_law (fun v μ' => v = some (.int 1)) 126 1071 12 [some (.ref b), some (.ref f), some (.int (nI s)), some (.int (nI e)), none, none, none, none, none, none, none] [] (τ, ν) := by
  have fin : ∀ (ν X : Nat → Nat → Int32) (s : Nat), WI Γ τ f ν X 32 s → gg_P Γ mk_L_law (fun v μ' => v = some (.int 1)) 126 1071 413 [some (.ref b), some (.ref f), some (.int (nI s)), some (.int (nI 32)), none, none, none, none, none, none, none] [] (τ, ν) := by
    intro ν X s hw
    match s, hw with
    | 0, hw =>
          refine gg_aldn dc_L_law_413 rfl rfl ?_
          refine gg_callV (sp_F_undo0 (Q := fun v μ' => v = some (.int (-1000002)) ∧ μ' = (τ, ν)) hf hw.1 hw.2.2.1.1 ⟨rfl, rfl⟩) dc_L_law_414 ml_L_96 ce_F_undo ⟨Nat.le_of_ble_eq_true rfl, Nat.le_of_ble_eq_true rfl⟩ hf.1 rfl rfl (Nat.le_of_ble_eq_true rfl) ⟨Nat.le_of_ble_eq_true rfl, Nat.le_of_ble_eq_true rfl⟩ ?_
          rintro v9 μ9 ⟨rfl, rfl⟩
          dsimp only [Option.toList, List.cons_append, List.nil_append]
          refine gg_ildn dc_L_law_417 rfl rfl ?_
          refine gg_ifne dc_L_law_418 (fun c_418 => ?_) (fun c_418 => ?_)
          · exact absurd (by decide) c_418
          · refine gg_ldc dc_L_law_421 lk_L_112 ?_
            refine gg_goto dc_L_law_423 ?_
            refine gg_icne dc_L_law_429 (fun c_429 => ?_) (fun c_429 => ?_)
            · exact absurd rfl c_429
            · refine gg_iconst (v := 1) dc_L_law_432 (by decide) ?_
              refine gg_goto dc_L_law_433 ?_
              exact gg_zret dc_L_law_437 rfl (by first | exact Or.inl rfl | exact Or.inr rfl | assumption) ⟨Nat.le_of_ble_eq_true rfl, Nat.le_of_ble_eq_true rfl⟩ (rfl)
    | s + 1, hw =>
        refine gg_aldn dc_L_law_413 rfl rfl ?_
        refine gg_callV (sp_F_undo (n := s) (Q := fun v μ' => v = some (.int (nI s)) ∧ ∃ ν' : Nat → Nat → Int32, μ' = (τ, ν')) hf hw.1 hw.2.2.1.1 (by have := hw.2.2.1.2; omega) (fun ν' _ => ⟨rfl, ν', rfl⟩)) dc_L_law_414 ml_L_96 ce_F_undo ⟨Nat.le_of_ble_eq_true rfl, Nat.le_of_ble_eq_true rfl⟩ hf.1 rfl rfl (Nat.le_of_ble_eq_true rfl) ⟨Nat.le_of_ble_eq_true rfl, Nat.le_of_ble_eq_true rfl⟩ ?_
        rintro v9 μ9 ⟨rfl, ν9, rfl⟩
        dsimp only [Option.toList, List.cons_append, List.nil_append]
        refine gg_ildn dc_L_law_417 rfl rfl ?_
        refine gg_ifne dc_L_law_418 (fun c_418 => ?_) (fun c_418 => ?_)
        · refine gg_ildn dc_L_law_426 rfl rfl ?_
          refine gg_iconst (v := 1) dc_L_law_427 (by decide) ?_
          refine gg_isub dc_L_law_428 ?_
          refine gx_top (nI_pred s) ?_
          refine gg_icne dc_L_law_429 (fun c_429 => ?_) (fun c_429 => ?_)
          · exact absurd rfl c_429
          · refine gg_iconst (v := 1) dc_L_law_432 (by decide) ?_
            refine gg_goto dc_L_law_433 ?_
            exact gg_zret dc_L_law_437 rfl (by first | exact Or.inl rfl | exact Or.inr rfl | assumption) ⟨Nat.le_of_ble_eq_true rfl, Nat.le_of_ble_eq_true rfl⟩ (rfl)
        · exact absurd c_418 (fun q => by have z := (nI_eq (a := s + 1) (b := 0) (by have := hw.2.2.1.2; omega) (by omega)).mp q; omega)
  intro d
  induction d with
  | zero =>
    intro e he ν X s hw
    have he : 32 = e := by omega
    subst he
    refine gg_ildn dc_L_law_12 rfl rfl ?_
    refine gg_bipush (v := 32) dc_L_law_13 (by decide) ?_
    refine gg_icge dc_L_law_15 (fun c_15 => ?_) (fun c_15 => ?_)
    · exact fin _ _ _ hw
    · exact absurd (by decide) c_15
  | succ d ih =>
    intro e he ν X s hw
    refine gg_ildn dc_L_law_12 rfl rfl ?_
    refine gg_bipush (v := 32) dc_L_law_13 (by decide) ?_
    refine gg_icge dc_L_law_15 (fun c_15 => ?_) (fun c_15 => ?_)
    · exact absurd c_15 (nI_ge (a := e) (b := 32) (by omega) (by omega))
    · refine lw_1 hf ha hb hLb (by omega) hw (fun ν2 Y2 s2 y2 hw2 => ?_)
      refine lw_2 hf ha hw2 (fun ν3 Y3 hw3 => ?_)
      refine lw_3 hf ha (by omega) hw3 (lw_4 hf ha hw3 (lw_5 hf ha (by omega) hw3 (fun ν4 hw4 => ?_)))
      refine gg_iinc (i := 3) dc_L_law_407 rfl (Nat.le_of_ble_eq_true rfl) rfl ?_
      dsimp only [List.set]
      rw [show Int32.ofInt 1 = 1 from by decide]
      refine gg_goto dc_L_law_410 ?_
      exact gg_e (ih (e + 1) (by omega) _ _ _ hw4) (by rw [nI_1]) rfl rfl
theorem sh_Tx.cg {sh sh' : Nat → sh_T} {q : Nat} (h : sh_Tx sh q) (e : ∀ c : Nat, q ≤ c → c < q + 2 → sh' c = sh c) : sh_Tx sh' q := ⟨by rw [e q (by omega) (by omega)]; exact h.1, by rw [e _ (by omega) (by omega)]; exact h.2⟩
theorem sh_F.cg {sh sh' : Nat → sh_T} {f : Nat} (h : sh_F sh f) (e : ∀ c : Nat, f ≤ c → c < f + 126 → sh' c = sh c) : sh_F sh' f := by
  obtain ⟨h0, h1, h2, ⟨g, hg, hgi⟩, h3, h4, h5⟩ := h
  exact ⟨by rw [e f (by omega) (by omega)]; exact h0, h1.cg fun c a b => e c (by omega) (by omega), h2.cg fun c a b => e c (by omega) (by omega), ⟨g, by rw [e _ (by omega) (by omega)]; exact hg, hgi⟩, fun i hi => (h3 i hi).cg fun c a b => e c (by omega) (by omega), h4.cg fun c a b => e c (by omega) (by omega), h5.cg fun c a b => e c (by omega) (by omega)⟩
theorem VL.z {S : Nat → Int32} {b : Nat} {lo hi : Int} (h : S b = 0) : VL S b lo hi := by
  have hn : ls_n S b = 0 := by unfold ls_n; rw [h]; rfl
  refine ⟨⟨by omega, by rw [hn, h]; rfl⟩, fun i j _ hj => absurd hj (by omega), fun i hi => absurd hi (by omega)⟩
theorem VC.z {S : Nat → Int32} (h : S 63 = 0) : VC S := by
  have hn : ls_n S 63 = 0 := by unfold ls_n; rw [h]; rfl
  refine ⟨⟨by omega, by rw [hn, h]; rfl⟩, fun i j _ hj => absurd hj (by omega), fun i hi => absurd hi (by omega)⟩
theorem IV.z : IV I0_S 0 := by
  refine ⟨⟨by decide, by decide, by decide⟩, ⟨by decide, by decide⟩, ⟨0, ⟨by decide, by decide⟩, ⟨by decide, by decide⟩, by decide, by decide⟩, ⟨Or.inl (I0_z (by omega)), fun q => ?_⟩, VL.z (I0_z (by omega)), VL.z (I0_z (by omega)), VC.z (I0_z (by omega))⟩
  rw [I0_z (by omega)] at q
  exact absurd q (by decide)
def X0_N : Nat → Nat → Int32 := fun o => if o = 1 then I0_S else fun _ => 0
theorem WV.z : WV I0_S 0 := by
  have z : ∀ j : Nat, 4 ≤ j → I0_S j = 0 := fun j h => I0_z h
  have n63 : ls_n I0_S 63 = 0 := by unfold ls_n; rw [z 63 (by omega)]; rfl
  refine ⟨⟨IV.z, ⟨?_, ⟨0, ?_⟩, ?_, ?_, ?_, ?_, ?_⟩, ⟨?_, ?_⟩, ?_, ?_, ?_⟩, ?_⟩
  · rw [z 6 (by omega), z 7 (by omega), z 9 (by omega), z 10 (by omega), z 11 (by omega)]; decide
  · rw [z 10 (by omega)]; decide
  · rw [z 14 (by omega)]; decide
  · rw [z 15 (by omega)]; decide
  · rw [z 14 (by omega), z 15 (by omega), z 13 (by omega)]; decide
  · rw [z 13 (by omega), z 12 (by omega)]; decide
  · rw [z 12 (by omega)]; decide
  · rw [z 7 (by omega)]; decide
  · rw [z 10 (by omega), z 11 (by omega)]; decide
  · intro q
    rw [z 18 (by omega)] at q
    exact absurd q (by decide)
  · intro i hi
    omega
  · exact ⟨by decide, by decide, by decide⟩
  · exact ⟨by decide, by decide, by decide⟩
set_option maxRecDepth 100000 in
set_option maxHeartbeats 4000000 in
theorem law_entry {Γ : cx_T} {n0 : Nat} {sh0 : Nat → sh_T} {ν0 : Nat → Nat → Int32} {b L : Nat} (hb : sh0 b = .inl (2, L)) (hL : L ≤ 260) (hbf : b < n0) (ha : cx_aL Γ < n0 ∧ cx_aG Γ < n0) (hs : st_P Γ (n0, sh0) ν0) : gg_P Γ mk_L_law (fun v μ' => v = some (.int 1)) 0 0 0 [some (.ref b), none, none, none, none, none, none, none, none, none, none] [] ((n0, sh0), ν0) := by
  refine gg_new dc_L_law_0 nw_L_13 ⟨Nat.le_of_ble_eq_true rfl, Nat.le_of_ble_eq_true rfl⟩ ?_
  dsimp only
  refine gg_dup dc_L_law_3 rfl ?_
  refine gg_callI (As := []) (sp_F_init (by simp [va_up])) dc_L_law_4 ml_L_82 ce_F_init ⟨Nat.le_of_ble_eq_true rfl, Nat.le_of_ble_eq_true rfl⟩ rfl (Nat.le_of_ble_eq_true rfl) ⟨Nat.le_of_ble_eq_true rfl, Nat.le_of_ble_eq_true rfl⟩ ?_
  rintro v9 μ9 ⟨sh1, ν1, rfl, rfl, hF1, hA1, e3, e501, e502, e1241, hk1⟩
  dsimp only [Option.toList, List.nil_append] at hk1 ⊢
  refine gg_astn (i := 1) dc_L_law_7 rfl (Nat.le_of_ble_eq_true rfl) rfl ?_
  dsimp only [List.set]
  refine gg_iconst (v := 0) dc_L_law_8 (by decide) ?_
  refine gg_istn (i := 2) dc_L_law_9 rfl (Nat.le_of_ble_eq_true rfl) rfl ?_
  dsimp only [List.set]
  refine gg_iconst (v := 0) dc_L_law_10 (by decide) ?_
  refine gg_istn (i := 3) dc_L_law_11 rfl (Nat.le_of_ble_eq_true rfl) rfl ?_
  dsimp only [List.set]
  have s1 : ∀ c : Nat, c < n0 → sh1 c = sh0 c ∧ ν1 c = ν0 c := fun c hc => ⟨by rw [(hk1 c hc).1, va_up_ne _ _ (by omega)], by rw [(hk1 c hc).2, va_up_ne _ _ (by omega)]⟩
  have hRL : RL ν1 n0 X0_N := by
    refine ⟨hA1, ⟨e3, 0, by omega, rfl⟩, fun i hi hb9 => ?_, ⟨0, 0, ⟨by omega, by omega⟩, e501, e502, rfl, fun j hj => absurd hj (Nat.not_lt_zero _)⟩, 0, e1241, rfl, by omega, fun k hk => absurd hk (Nat.not_lt_zero _)⟩
    have hb9 : ¬ (0 : Int32) >>> (nI i &&& 31) &&& 1 = 0 := hb9
    rcases (show i = 0 ∨ i = 1 by omega) with rfl | rfl
    · exact absurd (by decide) hb9
    · exact absurd (by decide) hb9
  have hG : GP X0_N 0 := by
    refine ⟨WV.z, fun i hi hb9 => ?_, fun m hm em j hj => ?_⟩
    · have hb9 : ¬ (0 : Int32) >>> (nI i &&& 31) &&& 1 = 0 := hb9
      rcases (show i = 0 ∨ i = 1 by omega) with rfl | rfl
      · exact absurd (by decide) hb9
      · exact absurd (by decide) hb9
    · have em : nI 0 = nI m := em
      have : 0 = m := (nI_eq (by omega) (by omega)).mp em
      omega
  have hst : st_P Γ (n0 + 126, sh1) ν1 := ⟨by show sh1 _ = _; rw [(s1 _ ha.1).1]; exact hs.1, by show sh1 _ = _; rw [(s1 _ ha.2).1]; exact hs.2.1, fun j hj => by rw [(s1 _ ha.1).2]; exact hs.2.2.1 j hj, fun j hj => by rw [(s1 _ ha.2).2]; exact hs.2.2.2 j hj⟩
  exact gg_c (law_loop (τ := (n0 + 126, sh1)) (f := n0) (b := b) (L := L) hF1 ha ((s1 b hbf).1.trans hb) (by omega) 32 0 (by omega) ν1 X0_N 0 ⟨hRL, hG, ⟨rfl, by omega⟩, hst⟩) rfl rfl
