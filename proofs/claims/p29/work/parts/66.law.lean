/-! p29: the law's loop, stage by stage -/
theorem lc_cut (l1 l2 l2' : List (Option Value)) (h : ∀ x ∈ l2', x = none) : ∀ (i : Nat) (v : Value), (l1 ++ l2')[i]? = some (some v) → (l1 ++ l2)[i]? = some (some v) := by
  intro i v hi
  by_cases c : i < l1.length
  · rw [List.getElem?_append_left c] at hi ⊢; exact hi
  · rw [List.getElem?_append_right (by omega)] at hi
    cases h _ (List.mem_of_getElem? hi)
def WI (Γ : cx_T) (τ : Nat × (Nat → sh_T)) (f : Nat) (ν X : Nat → Nat → Int32) (n s : Nat) : Prop := RL ν f X ∧ GP X n ∧ (X 0 2 = nI s ∧ s ≤ 6) ∧ st_P Γ τ ν
theorem WI.mv {Γ : cx_T} {τ : Nat × (Nat → sh_T)} {f n s n' s' : Nat} {ν ν' X Y : Nat → Nat → Int32} (h : WI Γ τ f ν X n s) (ha : cx_aL Γ < f ∧ cx_aG Γ < f) (hR : RF ν f Y ν') (hG : GP Y n') (e : Y 0 2 = nI s') (hs : s' ≤ 6) : WI Γ τ f ν' Y n' s' := by
  obtain ⟨h1, h2, h3, h4, h5, h6, h7⟩ := h
  exact ⟨hR.1, hG, ⟨e, hs⟩, h4, h5, fun j hj => by rw [hR.2 _ (Or.inl ha.1)]; exact h6 j hj, fun j hj => by rw [hR.2 _ (Or.inl ha.2)]; exact h7 j hj⟩
theorem pl3_rg {w : Int32} : -400 ≤ (lw_I w 600 - 300).toInt ∧ (lw_I w 600 - 300).toInt ≤ 400 := by
  have h := lw_rg (w := w) (n := 600) (by decide)
  rw [show (600 : Int32).toInt = 600 by decide] at h
  have e : (300 : Int32).toInt = 300 := by decide
  rw [ti_sub (by omega), e]
  omega
theorem an_1 {w : Int32} : ∃ q : Nat, q < 2 ∧ w &&& 1 = nI q := by
  have h : (w &&& 1).toBitVec = 0#32 ∨ (w &&& 1).toBitVec = 1#32 := by
    show w.toBitVec &&& 1#32 = 0#32 ∨ w.toBitVec &&& 1#32 = 1#32
    rw [BitVec.and_one_eq_setWidth_ofBool_getLsbD]
    cases w.toBitVec.getLsbD 0
    · exact Or.inl (by decide)
    · exact Or.inr (by decide)
  rcases h with h | h
  · exact ⟨0, by omega, Int32.toBitVec_inj.mp (by rw [h]; decide)⟩
  · exact ⟨1, by omega, Int32.toBitVec_inj.mp (by rw [h]; decide)⟩
theorem lg_self {t : Int64} : lg_cmp t t = 0 := by simp [lg_cmp]
theorem JV.r64 {S : Nat → Int32} {N : Int} (h : JV S N) : S 10 - S 10 / 64 * 64 = 0 := by
  obtain ⟨z, hz⟩ := h.2.1
  rw [ti_eq, rem_toInt, hz, Int32.toInt_mul, show (64 : Int32).toInt = 64 by decide, show (0 : Int32).toInt = 0 by decide]
  have e : ∃ q : Int, (z.toInt * 64).bmod (2 ^ 32) = 64 * q := by
    refine ⟨(z.toInt * 64).bmod (2 ^ 32) / 64, ?_⟩
    rw [show (2 ^ 32 : Nat) = 4294967296 from rfl]
    dsimp only [Int.bmod]
    split <;> omega
  obtain ⟨q, hq⟩ := e
  rw [hq]
  exact Int.mul_tmod_right 64 q
set_option maxRecDepth 100000 in
set_option maxHeartbeats 4000000 in
theorem lw_5 {Γ : cx_T} {τ : Nat × (Nat → sh_T)} {ν : Nat → Nat → Int32} {b f e s n : Nat} {X : Nat → Nat → Int32} {y : Int32} (hf : sh_F τ.2 f) (ha : cx_aL Γ < f ∧ cx_aG Γ < f) (hn : n ≤ 40) (hw : WI Γ τ f ν X n s) (kk : ∀ ν' : Nat → Nat → Int32, WI Γ τ f ν' X n s → gg_P Γ mk_L_law (fun v μ' => v = some (.int 1)) 126 1071 407 [some (.ref b), some (.ref f), some (.int (nI s)), some (.int (nI e)), none, none, none, none, none, none, none] [] (τ, ν')) : gg_P Γ mk_L_law (fun v μ' => v = some (.int 1)) 126 1071 356 [some (.ref b), some (.ref f), some (.int (nI s)), some (.int (nI e)), some (.int y), none, none, none, none, none, none] [] (τ, ν) := by
  refine gg_ild dc_L_law_356 rfl ?_
  refine gg_bipush (v := 8) dc_L_law_358 (by decide) ?_
  refine gg_ishr dc_L_law_360 ?_
  refine gg_sipush (v := 600) dc_L_law_361 (by decide) ?_
  refine gg_okS (sp_L_low (by decide)) dc_L_law_364 ml_L_42 ce_L_low ⟨Nat.le_of_ble_eq_true rfl, Nat.le_of_ble_eq_true rfl⟩ rfl (Nat.le_of_ble_eq_true rfl) ⟨rfl, rfl⟩ ⟨Nat.le_of_ble_eq_true rfl, Nat.le_of_ble_eq_true rfl⟩ ?_
  refine gg_sipush (v := 300) dc_L_law_367 (by decide) ?_
  refine gg_isub dc_L_law_370 ?_
  refine gg_ist (i := 9) dc_L_law_371 (Nat.le_of_ble_eq_true rfl) rfl ?_
  dsimp only [List.set]
  have hp := pl3_rg (w := y >>> (8 &&& 31))
  generalize lw_I (y >>> (8 &&& 31)) 600 - 300 = p at hp ⊢
  refine gg_aldn dc_L_law_373 rfl rfl ?_
  refine gg_ild dc_L_law_374 rfl ?_
  refine gg_callV (da_fastest hf hw.1 hw.2.1.1 hn hp) dc_L_law_376 ml_L_106 ce_F_fastest ⟨Nat.le_of_ble_eq_true rfl, Nat.le_of_ble_eq_true rfl⟩ hf.1 rfl rfl (Nat.le_of_ble_eq_true rfl) ⟨Nat.le_of_ble_eq_true rfl, Nat.le_of_ble_eq_true rfl⟩ ?_
  rintro v9 μ9 ⟨r, ν1, rfl, rfl, hR1, hr⟩
  have hw1 := hw.mv ha hR1 hw.2.1 hw.2.2.1.1 hw.2.2.1.2
  dsimp only [Option.toList, List.cons_append, List.nil_append]
  refine gg_ist (i := 10) dc_L_law_379 (Nat.le_of_ble_eq_true rfl) rfl ?_
  dsimp only [List.set]
  refine gg_ild dc_L_law_381 rfl ?_
  refine gg_ifle dc_L_law_383 (fun c_383 => ?_) (fun c_383 => ?_)
  · exact gg_c (gg_L (kk _ (by first | exact hw2 | exact hw1)) (lc_cut [_, _, _, _] _ _ (by simp))) rfl rfl
  · obtain ⟨h50, hFS⟩ := hr.resolve_left c_383
    refine gg_ild dc_L_law_386 rfl ?_
    refine gg_bipush (v := 50) dc_L_law_388 (by decide) ?_
    refine gg_irem dc_L_law_390 (by decide) ?_
    refine gx_top (h50) ?_
    refine gg_ifne dc_L_law_391 (fun c_391 => ?_) (fun c_391 => ?_)
    · exact absurd rfl c_391
    · refine gg_aldn dc_L_law_394 rfl rfl ?_
      refine gg_ild dc_L_law_395 rfl ?_
      refine gg_ild dc_L_law_397 rfl ?_
      refine gg_callV (da_losses hf hw1.1 hw1.2.1.1 hn hw1.2.2.2 hp hFS) dc_L_law_399 ml_L_109 ce_F_losses ⟨Nat.le_of_ble_eq_true rfl, Nat.le_of_ble_eq_true rfl⟩ hf.1 rfl rfl (Nat.le_of_ble_eq_true rfl) ⟨Nat.le_of_ble_eq_true rfl, Nat.le_of_ble_eq_true rfl⟩ ?_
      rintro v9 μ9 ⟨ν2, rfl, rfl, hR2⟩
      have hw2 := hw1.mv ha hR2 hw.2.1 hw.2.2.1.1 hw.2.2.1.2
      dsimp only [Option.toList, List.cons_append, List.nil_append]
      refine gg_ifeq dc_L_law_402 (fun c_402 => ?_) (fun c_402 => ?_)
      · exact gg_c (gg_L (kk _ (by first | exact hw2 | exact hw1)) (lc_cut [_, _, _, _] _ _ (by simp))) rfl rfl
      · exact absurd rfl c_402
set_option maxRecDepth 100000 in
set_option maxHeartbeats 4000000 in
theorem lw_4 {Γ : cx_T} {τ : Nat × (Nat → sh_T)} {ν : Nat → Nat → Int32} {b f e s n : Nat} {X : Nat → Nat → Int32} {y : Int32} (hf : sh_F τ.2 f) (ha : cx_aL Γ < f ∧ cx_aG Γ < f) (hw : WI Γ τ f ν X n s) (kk : gg_P Γ mk_L_law (fun v μ' => v = some (.int 1)) 126 1071 356 [some (.ref b), some (.ref f), some (.int (nI s)), some (.int (nI e)), some (.int y), none, none, none, none, none, none] [] (τ, ν)) : gg_P Γ mk_L_law (fun v μ' => v = some (.int 1)) 126 1071 315 [some (.ref b), some (.ref f), some (.int (nI s)), some (.int (nI e)), some (.int y), none, none, none, none, none, none] [] (τ, ν) := by
  have hC := hw.2.1.1.1.1.2.2.2.2.2.2
  have hL : LK (X 1) 63 8 := hC.1
  have h8 := hL.1
  have hV := hC.2.1
  have loop : ∀ d k : Nat, 1 ≤ k → k + d = 9 → gg_P Γ mk_L_law (fun v μ' => v = some (.int 1)) 126 1071 318 [some (.ref b), some (.ref f), some (.int (nI s)), some (.int (nI e)), some (.int y), none, none, none, none, some (.int (nI k)), none] [] (τ, ν) := by
    intro d
    induction d with
    | zero =>
      intro k hk1 hk
      refine gg_ild dc_L_law_318 rfl ?_
      refine gg_aldn dc_L_law_320 rfl rfl ?_
      refine gg_bipush (v := 17) dc_L_law_321 (by decide) ?_
      refine gg_okV (rc_count hf hw.1 (k := 17) rfl (by omega)) dc_L_law_323 ml_L_12 ce_F_count ⟨Nat.le_of_ble_eq_true rfl, Nat.le_of_ble_eq_true rfl⟩ hf.1 rfl rfl (Nat.le_of_ble_eq_true rfl) ⟨rfl, rfl⟩ ⟨Nat.le_of_ble_eq_true rfl, Nat.le_of_ble_eq_true rfl⟩ ?_
      refine gx_top (show cc_N X 17 = nI (ls_n (X 1) 63) from hL.2) ?_
      refine gg_icge dc_L_law_326 (fun c_326 => ?_) (fun c_326 => ?_)
      · exact gg_c (gg_L kk (lc_cut [_, _, _, _, _] _ _ (by simp))) rfl rfl
      · exact absurd (nI_le (by omega) (by omega)) c_326
    | succ d ih =>
      intro k hk1 hk
      refine gg_ild dc_L_law_318 rfl ?_
      refine gg_aldn dc_L_law_320 rfl rfl ?_
      refine gg_bipush (v := 17) dc_L_law_321 (by decide) ?_
      refine gg_okV (rc_count hf hw.1 (k := 17) rfl (by omega)) dc_L_law_323 ml_L_12 ce_F_count ⟨Nat.le_of_ble_eq_true rfl, Nat.le_of_ble_eq_true rfl⟩ hf.1 rfl rfl (Nat.le_of_ble_eq_true rfl) ⟨rfl, rfl⟩ ⟨Nat.le_of_ble_eq_true rfl, Nat.le_of_ble_eq_true rfl⟩ ?_
      refine gx_top (show cc_N X 17 = nI (ls_n (X 1) 63) from hL.2) ?_
      refine gg_icge dc_L_law_326 (fun c_326 => ?_) (fun c_326 => ?_)
      · exact gg_c (gg_L kk (lc_cut [_, _, _, _, _] _ _ (by simp))) rfl rfl
      · have hkm : k < ls_n (X 1) 63 := Classical.not_not.mp fun q => c_326 (nI_le (by omega) (by omega))
        have hle : cd_V (X 1) k 1 ≤ cd_V (X 1) (k - 1) 1 := by
          unfold cd_V
          rw [if_pos hkm, if_pos (by omega), ti_le, show 64 + 2 * k + 1 = 63 + 2 + 2 * k by omega, show 64 + 2 * (k - 1) + 1 = 63 + 2 + 2 * (k - 1) by omega]
          exact hV (k - 1) k (by omega) hkm
        refine gg_aldn dc_L_law_329 rfl rfl ?_
        refine gg_ild dc_L_law_330 rfl ?_
        refine gg_iconst (v := 1) dc_L_law_332 (by decide) ?_
        refine gg_okV (rc_command (k := k) (z := 1) hf hw.1 hL rfl rfl (by omega) (by omega)) dc_L_law_333 ml_L_33 ce_F_command ⟨Nat.le_of_ble_eq_true rfl, Nat.le_of_ble_eq_true rfl⟩ hf.1 rfl rfl (Nat.le_of_ble_eq_true rfl) ⟨rfl, rfl⟩ ⟨Nat.le_of_ble_eq_true rfl, Nat.le_of_ble_eq_true rfl⟩ ?_
        refine gg_aldn dc_L_law_336 rfl rfl ?_
        refine gg_ild dc_L_law_337 rfl ?_
        refine gg_iconst (v := 1) dc_L_law_339 (by decide) ?_
        refine gg_isub dc_L_law_340 ?_
        refine gx_top (show nI k - 1 = nI (k - 1) from by obtain ⟨j, rfl⟩ : ∃ j, k = j + 1 := ⟨k - 1, by omega⟩; exact nI_pred j) ?_
        refine gg_iconst (v := 1) dc_L_law_341 (by decide) ?_
        refine gg_okV (rc_command (k := k - 1) (z := 1) hf hw.1 hL rfl rfl (by omega) (by omega)) dc_L_law_342 ml_L_33 ce_F_command ⟨Nat.le_of_ble_eq_true rfl, Nat.le_of_ble_eq_true rfl⟩ hf.1 rfl rfl (Nat.le_of_ble_eq_true rfl) ⟨rfl, rfl⟩ ⟨Nat.le_of_ble_eq_true rfl, Nat.le_of_ble_eq_true rfl⟩ ?_
        refine gg_icle dc_L_law_345 (fun c_345 => ?_) (fun c_345 => ?_)
        · refine gg_iinc (i := 9) dc_L_law_350 rfl (Nat.le_of_ble_eq_true rfl) rfl ?_
          dsimp only [List.set]
          rw [show Int32.ofInt 1 = 1 from by decide]
          refine gg_goto dc_L_law_353 ?_
          exact gg_e (ih (k + 1) (by omega) (by omega)) (by rw [nI_1]) rfl rfl
        · exact absurd hle c_345
  refine gg_iconst (v := 1) dc_L_law_315 (by decide) ?_
  refine gg_ist (i := 9) dc_L_law_316 (Nat.le_of_ble_eq_true rfl) rfl ?_
  dsimp only [List.set]
  exact loop 8 1 (by omega) (by omega)
set_option maxRecDepth 100000 in
set_option maxHeartbeats 4000000 in
theorem lw_3 {Γ : cx_T} {τ : Nat × (Nat → sh_T)} {ν : Nat → Nat → Int32} {b f e s n : Nat} {X : Nat → Nat → Int32} {y : Int32} (hf : sh_F τ.2 f) (ha : cx_aL Γ < f ∧ cx_aG Γ < f) (hn : n ≤ 40) (hw : WI Γ τ f ν X n s) (kk : gg_P Γ mk_L_law (fun v μ' => v = some (.int 1)) 126 1071 315 [some (.ref b), some (.ref f), some (.int (nI s)), some (.int (nI e)), some (.int y), none, none, none, none, none, none] [] (τ, ν)) : gg_P Γ mk_L_law (fun v μ' => v = some (.int 1)) 126 1071 186 [some (.ref b), some (.ref f), some (.int (nI s)), some (.int (nI e)), some (.int y), none, none, none, none, none, none] [] (τ, ν) := by
  have hJ := hw.2.1.1.1.2.1
  have h9 := hw.2.1.1.1.1.2.1.1
  obtain ⟨j1, j2, j3, j4, j5, j6, j7⟩ := id hJ
  refine gg_aldn dc_L_law_186 rfl rfl ?_
  refine gg_bipush (v := 19) dc_L_law_187 (by decide) ?_
  refine gg_okV (rc_count hf hw.1 (k := 19) rfl (by omega)) dc_L_law_189 ml_L_12 ce_F_count ⟨Nat.le_of_ble_eq_true rfl, Nat.le_of_ble_eq_true rfl⟩ hf.1 rfl rfl (Nat.le_of_ble_eq_true rfl) ⟨rfl, rfl⟩ ⟨Nat.le_of_ble_eq_true rfl, Nat.le_of_ble_eq_true rfl⟩ ?_
  refine gx_top (show cc_N X 19 = X 0 2 from rfl) ?_
  refine gg_ildn dc_L_law_192 rfl rfl ?_
  refine gg_icne dc_L_law_193 (fun c_193 => ?_) (fun c_193 => ?_)
  · exact absurd hw.2.2.1.1 c_193
  · refine gg_aldn dc_L_law_196 rfl rfl ?_
    refine gg_iconst (v := 0) dc_L_law_197 (by decide) ?_
    refine gg_okV (rc_counter0 hf hw.1) dc_L_law_198 ml_L_103 ce_F_counter ⟨Nat.le_of_ble_eq_true rfl, Nat.le_of_ble_eq_true rfl⟩ hf.1 rfl rfl (Nat.le_of_ble_eq_true rfl) ⟨rfl, rfl⟩ ⟨Nat.le_of_ble_eq_true rfl, Nat.le_of_ble_eq_true rfl⟩ ?_
    refine gg_aldn dc_L_law_201 rfl rfl ?_
    refine gg_iconst (v := 1) dc_L_law_202 (by decide) ?_
    refine gg_okV (rc_counter1 hf hw.1) dc_L_law_203 ml_L_103 ce_F_counter ⟨Nat.le_of_ble_eq_true rfl, Nat.le_of_ble_eq_true rfl⟩ hf.1 rfl rfl (Nat.le_of_ble_eq_true rfl) ⟨rfl, rfl⟩ ⟨Nat.le_of_ble_eq_true rfl, Nat.le_of_ble_eq_true rfl⟩ ?_
    refine gg_icne dc_L_law_206 (fun c_206 => ?_) (fun c_206 => ?_)
    · exact absurd hJ.1 c_206
    · refine gg_aldn dc_L_law_209 rfl rfl ?_
      refine gg_bipush (v := 6) dc_L_law_210 (by decide) ?_
      refine gg_okV (rc_count hf hw.1 (k := 6) rfl (by omega)) dc_L_law_212 ml_L_12 ce_F_count ⟨Nat.le_of_ble_eq_true rfl, Nat.le_of_ble_eq_true rfl⟩ hf.1 rfl rfl (Nat.le_of_ble_eq_true rfl) ⟨rfl, rfl⟩ ⟨Nat.le_of_ble_eq_true rfl, Nat.le_of_ble_eq_true rfl⟩ ?_
      refine gx_top (show cc_N X 6 = X 1 6 from rfl) ?_
      refine gg_aldn dc_L_law_215 rfl rfl ?_
      refine gg_bipush (v := 7) dc_L_law_216 (by decide) ?_
      refine gg_okV (rc_count hf hw.1 (k := 7) rfl (by omega)) dc_L_law_218 ml_L_12 ce_F_count ⟨Nat.le_of_ble_eq_true rfl, Nat.le_of_ble_eq_true rfl⟩ hf.1 rfl rfl (Nat.le_of_ble_eq_true rfl) ⟨rfl, rfl⟩ ⟨Nat.le_of_ble_eq_true rfl, Nat.le_of_ble_eq_true rfl⟩ ?_
      refine gx_top (show cc_N X 7 = X 1 7 from rfl) ?_
      refine gg_aldn dc_L_law_221 rfl rfl ?_
      refine gg_bipush (v := 9) dc_L_law_222 (by decide) ?_
      refine gg_okV (rc_count hf hw.1 (k := 9) rfl (by omega)) dc_L_law_224 ml_L_12 ce_F_count ⟨Nat.le_of_ble_eq_true rfl, Nat.le_of_ble_eq_true rfl⟩ hf.1 rfl rfl (Nat.le_of_ble_eq_true rfl) ⟨rfl, rfl⟩ ⟨Nat.le_of_ble_eq_true rfl, Nat.le_of_ble_eq_true rfl⟩ ?_
      refine gx_top (show cc_N X 9 = X 1 9 from rfl) ?_
      refine gg_iadd dc_L_law_227 ?_
      refine gg_aldn dc_L_law_228 rfl rfl ?_
      refine gg_bipush (v := 10) dc_L_law_229 (by decide) ?_
      refine gg_okV (rc_count hf hw.1 (k := 10) rfl (by omega)) dc_L_law_231 ml_L_12 ce_F_count ⟨Nat.le_of_ble_eq_true rfl, Nat.le_of_ble_eq_true rfl⟩ hf.1 rfl rfl (Nat.le_of_ble_eq_true rfl) ⟨rfl, rfl⟩ ⟨Nat.le_of_ble_eq_true rfl, Nat.le_of_ble_eq_true rfl⟩ ?_
      refine gx_top (show cc_N X 10 = X 1 10 from rfl) ?_
      refine gg_iadd dc_L_law_234 ?_
      refine gg_aldn dc_L_law_235 rfl rfl ?_
      refine gg_bipush (v := 11) dc_L_law_236 (by decide) ?_
      refine gg_okV (rc_count hf hw.1 (k := 11) rfl (by omega)) dc_L_law_238 ml_L_12 ce_F_count ⟨Nat.le_of_ble_eq_true rfl, Nat.le_of_ble_eq_true rfl⟩ hf.1 rfl rfl (Nat.le_of_ble_eq_true rfl) ⟨rfl, rfl⟩ ⟨Nat.le_of_ble_eq_true rfl, Nat.le_of_ble_eq_true rfl⟩ ?_
      refine gx_top (show cc_N X 11 = X 1 11 from rfl) ?_
      refine gg_iadd dc_L_law_241 ?_
      refine gg_iceq dc_L_law_242 (fun c_242 => ?_) (fun c_242 => ?_)
      · refine gg_aldn dc_L_law_247 rfl rfl ?_
        refine gg_bipush (v := 9) dc_L_law_248 (by decide) ?_
        refine gg_okV (rc_count hf hw.1 (k := 9) rfl (by omega)) dc_L_law_250 ml_L_12 ce_F_count ⟨Nat.le_of_ble_eq_true rfl, Nat.le_of_ble_eq_true rfl⟩ hf.1 rfl rfl (Nat.le_of_ble_eq_true rfl) ⟨rfl, rfl⟩ ⟨Nat.le_of_ble_eq_true rfl, Nat.le_of_ble_eq_true rfl⟩ ?_
        refine gx_top (show cc_N X 9 = X 1 9 from rfl) ?_
        refine gg_bipush (v := 32) dc_L_law_253 (by decide) ?_
        refine gg_icgt dc_L_law_255 (fun c_255 => ?_) (fun c_255 => ?_)
        · exact absurd c_255 (by rw [ti_lt]; show ¬ (32 : Int) < _; omega)
        · refine gg_aldn dc_L_law_258 rfl rfl ?_
          refine gg_bipush (v := 9) dc_L_law_259 (by decide) ?_
          refine gg_okV (rc_count hf hw.1 (k := 9) rfl (by omega)) dc_L_law_261 ml_L_12 ce_F_count ⟨Nat.le_of_ble_eq_true rfl, Nat.le_of_ble_eq_true rfl⟩ hf.1 rfl rfl (Nat.le_of_ble_eq_true rfl) ⟨rfl, rfl⟩ ⟨Nat.le_of_ble_eq_true rfl, Nat.le_of_ble_eq_true rfl⟩ ?_
          refine gx_top (show cc_N X 9 = X 1 9 from rfl) ?_
          refine gg_bipush (v := (-32)) dc_L_law_264 (by decide) ?_
          refine gg_iclt dc_L_law_266 (fun c_266 => ?_) (fun c_266 => ?_)
          · exact absurd c_266 (by rw [ti_lt]; show ¬ _ < (-32 : Int); omega)
          · refine gg_aldn dc_L_law_269 rfl rfl ?_
            refine gg_bipush (v := 10) dc_L_law_270 (by decide) ?_
            refine gg_okV (rc_count hf hw.1 (k := 10) rfl (by omega)) dc_L_law_272 ml_L_12 ce_F_count ⟨Nat.le_of_ble_eq_true rfl, Nat.le_of_ble_eq_true rfl⟩ hf.1 rfl rfl (Nat.le_of_ble_eq_true rfl) ⟨rfl, rfl⟩ ⟨Nat.le_of_ble_eq_true rfl, Nat.le_of_ble_eq_true rfl⟩ ?_
            refine gx_top (show cc_N X 10 = X 1 10 from rfl) ?_
            refine gg_bipush (v := 64) dc_L_law_275 (by decide) ?_
            refine gg_irem dc_L_law_277 (by decide) ?_
            refine gx_top (hJ.r64) ?_
            refine gg_ifne dc_L_law_278 (fun c_278 => ?_) (fun c_278 => ?_)
            · exact absurd rfl c_278
            · refine gg_aldn dc_L_law_281 rfl rfl ?_
              refine gg_iconst (v := 1) dc_L_law_282 (by decide) ?_
              refine gg_okV (rc_account hf hw.1 (k := 1) rfl (by omega)) dc_L_law_283 ml_L_20 ce_F_account ⟨Nat.le_of_ble_eq_true rfl, Nat.le_of_ble_eq_true rfl⟩ hf.1 rfl rfl (Nat.le_of_ble_eq_true rfl) ⟨rfl, rfl⟩ ⟨Nat.le_of_ble_eq_true rfl, Nat.le_of_ble_eq_true rfl⟩ ?_
              refine gx_top (show X 1 (12 + 1) = X 1 13 from rfl) ?_
              refine gg_aldn dc_L_law_286 rfl rfl ?_
              refine gg_iconst (v := 0) dc_L_law_287 (by decide) ?_
              refine gg_okV (rc_account hf hw.1 (k := 0) rfl (by omega)) dc_L_law_288 ml_L_20 ce_F_account ⟨Nat.le_of_ble_eq_true rfl, Nat.le_of_ble_eq_true rfl⟩ hf.1 rfl rfl (Nat.le_of_ble_eq_true rfl) ⟨rfl, rfl⟩ ⟨Nat.le_of_ble_eq_true rfl, Nat.le_of_ble_eq_true rfl⟩ ?_
              refine gx_top (show X 1 (12 + 0) = X 1 12 from rfl) ?_
              refine gg_icgt dc_L_law_291 (fun c_291 => ?_) (fun c_291 => ?_)
              · exact absurd c_291 (by rw [ti_lt]; omega)
              · refine gg_aldn dc_L_law_294 rfl rfl ?_
                refine gg_iconst (v := 2) dc_L_law_295 (by decide) ?_
                refine gg_okV (rc_account hf hw.1 (k := 2) rfl (by omega)) dc_L_law_296 ml_L_20 ce_F_account ⟨Nat.le_of_ble_eq_true rfl, Nat.le_of_ble_eq_true rfl⟩ hf.1 rfl rfl (Nat.le_of_ble_eq_true rfl) ⟨rfl, rfl⟩ ⟨Nat.le_of_ble_eq_true rfl, Nat.le_of_ble_eq_true rfl⟩ ?_
                refine gx_top (show X 1 (12 + 2) = X 1 14 from rfl) ?_
                refine gg_aldn dc_L_law_299 rfl rfl ?_
                refine gg_iconst (v := 3) dc_L_law_300 (by decide) ?_
                refine gg_okV (rc_account hf hw.1 (k := 3) rfl (by omega)) dc_L_law_301 ml_L_20 ce_F_account ⟨Nat.le_of_ble_eq_true rfl, Nat.le_of_ble_eq_true rfl⟩ hf.1 rfl rfl (Nat.le_of_ble_eq_true rfl) ⟨rfl, rfl⟩ ⟨Nat.le_of_ble_eq_true rfl, Nat.le_of_ble_eq_true rfl⟩ ?_
                refine gx_top (show X 1 (12 + 3) = X 1 15 from rfl) ?_
                refine gg_iadd dc_L_law_304 ?_
                refine gg_aldn dc_L_law_305 rfl rfl ?_
                refine gg_iconst (v := 1) dc_L_law_306 (by decide) ?_
                refine gg_okV (rc_account hf hw.1 (k := 1) rfl (by omega)) dc_L_law_307 ml_L_20 ce_F_account ⟨Nat.le_of_ble_eq_true rfl, Nat.le_of_ble_eq_true rfl⟩ hf.1 rfl rfl (Nat.le_of_ble_eq_true rfl) ⟨rfl, rfl⟩ ⟨Nat.le_of_ble_eq_true rfl, Nat.le_of_ble_eq_true rfl⟩ ?_
                refine gx_top (show X 1 (12 + 1) = X 1 13 from rfl) ?_
                refine gg_icle dc_L_law_310 (fun c_310 => ?_) (fun c_310 => ?_)
                · exact gg_c kk rfl rfl
                · exact absurd (by rw [ti_le, ti_add (by omega)]; omega) c_310
      · exact absurd hJ.1 c_242
set_option maxRecDepth 100000 in
set_option maxHeartbeats 4000000 in
theorem lw_2 {Γ : cx_T} {τ : Nat × (Nat → sh_T)} {ν : Nat → Nat → Int32} {b f e s n : Nat} {X : Nat → Nat → Int32} {y : Int32} (hf : sh_F τ.2 f) (ha : cx_aL Γ < f ∧ cx_aG Γ < f) (hw : WI Γ τ f ν X n s) (kk : ∀ ν' Y : Nat → Nat → Int32, WI Γ τ f ν' Y n s → gg_P Γ mk_L_law (fun v μ' => v = some (.int 1)) 126 1071 186 [some (.ref b), some (.ref f), some (.int (nI s)), some (.int (nI e)), some (.int y), none, none, none, none, none, none] [] (τ, ν')) : gg_P Γ mk_L_law (fun v μ' => v = some (.int 1)) 126 1071 134 [some (.ref b), some (.ref f), some (.int (nI s)), some (.int (nI e)), some (.int y), none, none, none, none, none, none] [] (τ, ν) := by
  refine gg_ild dc_L_law_134 rfl ?_
  refine gg_bipush (v := 25) dc_L_law_136 (by decide) ?_
  refine gg_ishr dc_L_law_138 ?_
  refine gg_iconst (v := 3) dc_L_law_139 (by decide) ?_
  refine gg_iand dc_L_law_140 ?_
  refine gg_iconst (v := 1) dc_L_law_141 (by decide) ?_
  refine gg_icne dc_L_law_142 (fun c_142 => ?_) (fun c_142 => ?_)
  · exact gg_c (kk _ _ (by first | exact hw1 | exact hw)) rfl rfl
  · obtain ⟨q, hq, ek⟩ := an_1 (w := y >>> (24 &&& 31))
    refine gg_aldn dc_L_law_145 rfl rfl ?_
    refine gg_ild dc_L_law_146 rfl ?_
    refine gg_bipush (v := 24) dc_L_law_148 (by decide) ?_
    refine gg_ishr dc_L_law_150 ?_
    refine gg_iconst (v := 1) dc_L_law_151 (by decide) ?_
    refine gg_iand dc_L_law_152 ?_
    refine gg_callV (da_keep hf hw.1 hw.2.1 ek hq) dc_L_law_153 ml_L_100 ce_F_keep ⟨Nat.le_of_ble_eq_true rfl, Nat.le_of_ble_eq_true rfl⟩ hf.1 rfl rfl (Nat.le_of_ble_eq_true rfl) ⟨Nat.le_of_ble_eq_true rfl, Nat.le_of_ble_eq_true rfl⟩ ?_
    rintro v9 μ9 ⟨ν1, X1, rfl, rfl, hR1, e1, e2, hG1, hb1⟩
    have hw1 := hw.mv ha hR1 hG1 (e2.trans hw.2.2.1.1) hw.2.2.1.2
    rw [← ek] at hb1
    dsimp only [Option.toList, List.cons_append, List.nil_append]
    refine gg_aldn dc_L_law_156 rfl rfl ?_
    refine gg_bipush (v := 6) dc_L_law_157 (by decide) ?_
    refine gg_okV (rc_count hf hw1.1 (k := 6) rfl (by omega)) dc_L_law_159 ml_L_12 ce_F_count ⟨Nat.le_of_ble_eq_true rfl, Nat.le_of_ble_eq_true rfl⟩ hf.1 rfl rfl (Nat.le_of_ble_eq_true rfl) ⟨rfl, rfl⟩ ⟨Nat.le_of_ble_eq_true rfl, Nat.le_of_ble_eq_true rfl⟩ ?_
    refine gx_top (show cc_N X1 6 = X 1 6 from (by show X1 1 6 = _; rw [e1])) ?_
    refine gg_icne dc_L_law_162 (fun c_162 => ?_) (fun c_162 => ?_)
    · exact absurd rfl c_162
    · refine gg_aldn dc_L_law_165 rfl rfl ?_
      refine gg_bipush (v := 20) dc_L_law_166 (by decide) ?_
      refine gg_okV (rc_count hf hw1.1 (k := 20) rfl (by omega)) dc_L_law_168 ml_L_12 ce_F_count ⟨Nat.le_of_ble_eq_true rfl, Nat.le_of_ble_eq_true rfl⟩ hf.1 rfl rfl (Nat.le_of_ble_eq_true rfl) ⟨rfl, rfl⟩ ⟨Nat.le_of_ble_eq_true rfl, Nat.le_of_ble_eq_true rfl⟩ ?_
      refine gx_top (show cc_N X1 20 = X1 0 4 from rfl) ?_
      refine gg_ild dc_L_law_171 rfl ?_
      refine gg_bipush (v := 24) dc_L_law_173 (by decide) ?_
      refine gg_ishr dc_L_law_175 ?_
      refine gg_iconst (v := 1) dc_L_law_176 (by decide) ?_
      refine gg_iand dc_L_law_177 ?_
      refine gg_ishr dc_L_law_178 ?_
      refine gg_iconst (v := 1) dc_L_law_179 (by decide) ?_
      refine gg_iand dc_L_law_180 ?_
      refine gg_ifne dc_L_law_181 (fun c_181 => ?_) (fun c_181 => ?_)
      · exact gg_c (kk _ _ (by first | exact hw1 | exact hw)) rfl rfl
      · exact absurd c_181 hb1
set_option maxRecDepth 100000 in
set_option maxHeartbeats 4000000 in
theorem lw_1 {Γ : cx_T} {τ : Nat × (Nat → sh_T)} {ν : Nat → Nat → Int32} {b f e s L : Nat} {X : Nat → Nat → Int32} (hf : sh_F τ.2 f) (ha : cx_aL Γ < f ∧ cx_aG Γ < f) (hb : τ.2 b = .inl (2, L)) (hLb : L < 2 ^ 31) (he : e < 32) (hw : WI Γ τ f ν X e s) (kk : ∀ (ν' Y : Nat → Nat → Int32) (s : Nat) (y : Int32), WI Γ τ f ν' Y (e + 1) s → gg_P Γ mk_L_law (fun v μ' => v = some (.int 1)) 126 1071 134 [some (.ref b), some (.ref f), some (.int (nI s)), some (.int (nI e)), some (.int y), none, none, none, none, none, none] [] (τ, ν')) : gg_P Γ mk_L_law (fun v μ' => v = some (.int 1)) 126 1071 18 [some (.ref b), some (.ref f), some (.int (nI s)), some (.int (nI e)), none, none, none, none, none, none, none] [] (τ, ν) := by
  have hL : LK (X 1) 63 8 := hw.2.1.1.1.1.lk.2.2
  refine gg_aldn dc_L_law_18 rfl rfl ?_
  refine gg_ildn dc_L_law_19 rfl rfl ?_
  refine gg_callS (sp_L_cell hb hLb (k := e) (by omega)) dc_L_law_20 ml_L_83 ce_L_cell ⟨Nat.le_of_ble_eq_true rfl, Nat.le_of_ble_eq_true rfl⟩ rfl (Nat.le_of_ble_eq_true rfl) ⟨Nat.le_of_ble_eq_true rfl, Nat.le_of_ble_eq_true rfl⟩ ?_
  rintro v9 μ9 ⟨y, rfl, rfl⟩
  dsimp only [Option.toList, List.cons_append, List.nil_append]
  refine gg_ist (i := 4) dc_L_law_23 (Nat.le_of_ble_eq_true rfl) rfl ?_
  dsimp only [List.set]
  refine gg_aldn dc_L_law_25 rfl rfl ?_
  refine gg_okS (sp_L_tale hf hw.1 hL) dc_L_law_26 ml_L_87 ce_L_tale ⟨Nat.le_of_ble_eq_true rfl, Nat.le_of_ble_eq_true rfl⟩ rfl (Nat.le_of_ble_eq_true rfl) ⟨rfl, rfl⟩ ⟨Nat.le_of_ble_eq_true rfl, Nat.le_of_ble_eq_true rfl⟩ ?_
  refine gg_lst (i := 5) dc_L_law_29 (Nat.le_of_ble_eq_true rfl) rfl ?_
  dsimp only [List.set]
  refine gg_aldn dc_L_law_31 rfl rfl ?_
  refine gg_ild dc_L_law_32 rfl ?_
  refine gg_callS (sp_L_does hf hw.1 hw.2.1 (by omega) hw.2.2.2) dc_L_law_34 ml_L_91 ce_L_does ⟨Nat.le_of_ble_eq_true rfl, Nat.le_of_ble_eq_true rfl⟩ rfl (Nat.le_of_ble_eq_true rfl) ⟨Nat.le_of_ble_eq_true rfl, Nat.le_of_ble_eq_true rfl⟩ ?_
  rintro v9 μ9 ⟨r, X1, ν1, rfl, rfl, hR1, hD⟩
  dsimp only [Option.toList, List.cons_append, List.nil_append]
  refine gg_ist (i := 7) dc_L_law_37 (Nat.le_of_ble_eq_true rfl) rfl ?_
  dsimp only [List.set]
  refine gg_ild dc_L_law_39 rfl ?_
  refine gg_ldc dc_L_law_41 lk_L_95 ?_
  refine gg_icle dc_L_law_43 (fun c_43 => ?_) (fun c_43 => ?_)
  · have hX : X1 = X := by
      rcases hD with ⟨_, q⟩ | ⟨q, _⟩
      · exact q
      · rw [ti_le] at c_43; have c_43 : r.toInt ≤ (-500000 : Int) := c_43; omega
    subst hX
    have hw1 := hw.mv ha hR1 hw.2.1.w hw.2.2.1.1 hw.2.2.1.2
    refine gg_iconst (v := 0) dc_L_law_50 (by decide) ?_
    refine gg_ist (i := 8) dc_L_law_51 (Nat.le_of_ble_eq_true rfl) rfl ?_
    dsimp only [List.set]
    refine gg_ild dc_L_law_53 rfl ?_
    refine gg_ifne dc_L_law_55 (fun c_55 => ?_) (fun c_55 => ?_)
    · exact absurd rfl c_55
    · refine gg_aldn dc_L_law_58 rfl rfl ?_
      refine gg_okS (sp_L_tale hf hw1.1 hL) dc_L_law_59 ml_L_87 ce_L_tale ⟨Nat.le_of_ble_eq_true rfl, Nat.le_of_ble_eq_true rfl⟩ rfl (Nat.le_of_ble_eq_true rfl) ⟨rfl, rfl⟩ ⟨Nat.le_of_ble_eq_true rfl, Nat.le_of_ble_eq_true rfl⟩ ?_
      refine gg_lld dc_L_law_62 rfl ?_
      refine gg_lcmp dc_L_law_64 ?_
      refine gx_top (lg_self) ?_
      refine gg_ifeq dc_L_law_65 (fun c_65 => ?_) (fun c_65 => ?_)
      · refine gg_ild dc_L_law_70 rfl ?_
        refine gg_ifne dc_L_law_72 (fun c_72 => ?_) (fun c_72 => ?_)
        · exact absurd rfl c_72
        · refine gg_ildn dc_L_law_75 rfl rfl ?_
          refine gg_goto dc_L_law_76 ?_
          refine gg_istn (i := 2) dc_L_law_93 rfl (Nat.le_of_ble_eq_true rfl) rfl ?_
          dsimp only [List.set]
          refine gg_ild dc_L_law_94 rfl ?_
          refine gg_ifeq dc_L_law_96 (fun c_96 => ?_) (fun c_96 => ?_)
          · exact gg_c (gg_L (kk _ _ _ _ hw1) (lc_cut [_, _, _, _, _] _ _ (by simp))) rfl rfl
          · exact absurd rfl c_96
      · exact absurd rfl c_65
  · obtain ⟨T, hX, hT⟩ : ∃ T : Nat → Int32, X1 = va_up (nt_X X) 1 T ∧ WV T (e + 1) := by
      rcases hD with ⟨q, _⟩ | ⟨_, q⟩
      · rw [ti_le] at c_43; have c_43 : ¬ r.toInt ≤ (-500000 : Int) := c_43; omega
      · exact q
    subst hX
    refine gg_iconst (v := 1) dc_L_law_46 (by decide) ?_
    refine gg_goto dc_L_law_47 ?_
    refine gg_ist (i := 8) dc_L_law_51 (Nat.le_of_ble_eq_true rfl) rfl ?_
    dsimp only [List.set]
    refine gg_ild dc_L_law_53 rfl ?_
    refine gg_ifne dc_L_law_55 (fun c_55 => ?_) (fun c_55 => ?_)
    · refine gg_ild dc_L_law_70 rfl ?_
      refine gg_ifne dc_L_law_72 (fun c_72 => ?_) (fun c_72 => ?_)
      · refine gg_ildn dc_L_law_79 rfl rfl ?_
        refine gg_bipush (v := 6) dc_L_law_80 (by decide) ?_
        refine gg_icge dc_L_law_82 (fun c_82 => ?_) (fun c_82 => ?_)
        · have hs6 : s = 6 := by
            have z := (nI_leI (a := 6) (by omega) (by have := hw.2.2.1.2; omega)).mp c_82
            have := hw.2.2.1.2
            omega
          subst hs6
          obtain ⟨m, hm, em, _⟩ := nt_last hw.2.2.1.2 hw.2.2.1.1
          rw [if_neg (by omega)] at hm
          obtain rfl : m = 5 := by omega
          have hw1 := hw.mv ha hR1 (hw.2.1.w.nx ⟨6, hw.2.2.1.2, hw.2.2.1.1⟩ hT) (show va_up (nt_X X) 1 T 0 2 = nI 6 from em) (by omega)
          refine gg_bipush (v := 6) dc_L_law_91 (by decide) ?_
          refine gx_top (show (6 : Int32) = nI 6 from rfl) ?_
          refine gg_istn (i := 2) dc_L_law_93 rfl (Nat.le_of_ble_eq_true rfl) rfl ?_
          dsimp only [List.set]
          refine gg_ild dc_L_law_94 rfl ?_
          refine gg_ifeq dc_L_law_96 (fun c_96 => ?_) (fun c_96 => ?_)
          · exact absurd c_96 (by decide)
          · refine gg_ild dc_L_law_99 rfl ?_
            refine gg_bipush (v := 27) dc_L_law_101 (by decide) ?_
            refine gg_ishr dc_L_law_103 ?_
            refine gg_iconst (v := 3) dc_L_law_104 (by decide) ?_
            refine gg_iand dc_L_law_105 ?_
            refine gg_ifne dc_L_law_106 (fun c_106 => ?_) (fun c_106 => ?_)
            · exact gg_c (gg_L (kk _ _ _ _ (by first | exact hw2 | exact hw1)) (lc_cut [_, _, _, _, _] _ _ (by simp))) rfl rfl
            · refine gg_aldn dc_L_law_109 rfl rfl ?_
              refine gg_callV (da_undo hf hw.2.1 hw.2.2.1.2 hw.2.2.1.1 hT hR1.1) dc_L_law_110 ml_L_96 ce_F_undo ⟨Nat.le_of_ble_eq_true rfl, Nat.le_of_ble_eq_true rfl⟩ hf.1 rfl rfl (Nat.le_of_ble_eq_true rfl) ⟨Nat.le_of_ble_eq_true rfl, Nat.le_of_ble_eq_true rfl⟩ ?_
              rintro v9 μ9 ⟨m2, ν2, X2, hm2, rfl, rfl, hR2, e1, e2, hG2⟩
              dsimp only [Option.toList, List.cons_append, List.nil_append]
              rw [if_neg (by omega)] at hm2
              have hw2 := hw1.mv ha hR2 hG2 e2 (by omega)
              have hL2 : LK (X2 1) 63 8 := by rw [e1]; exact hL
              refine gg_ildn dc_L_law_113 rfl rfl ?_
              refine gg_iconst (v := 1) dc_L_law_114 (by decide) ?_
              refine gg_isub dc_L_law_115 ?_
              refine gx_top (show _ = nI m2 from (by rw [show m2 = 5 by omega]; decide)) ?_
              refine gg_icne dc_L_law_116 (fun c_116 => ?_) (fun c_116 => ?_)
              · exact absurd rfl c_116
              · refine gg_aldn dc_L_law_119 rfl rfl ?_
                refine gg_okS (sp_L_tale hf hw2.1 hL2) dc_L_law_120 ml_L_87 ce_L_tale ⟨Nat.le_of_ble_eq_true rfl, Nat.le_of_ble_eq_true rfl⟩ rfl (Nat.le_of_ble_eq_true rfl) ⟨rfl, rfl⟩ ⟨Nat.le_of_ble_eq_true rfl, Nat.le_of_ble_eq_true rfl⟩ ?_
                refine gg_lld dc_L_law_123 rfl ?_
                refine gg_lcmp dc_L_law_125 ?_
                refine gx_top (show lg_cmp (tl_N (X2 1)) (tl_N (X 1)) = 0 from (by rw [e1]; exact lg_self)) ?_
                refine gg_ifeq dc_L_law_126 (fun c_126 => ?_) (fun c_126 => ?_)
                · have e131 : nI 6 + (-1) = nI m2 := (by rw [show m2 = 5 by omega]; decide)
                  refine gg_iinc (i := 2) dc_L_law_131 rfl (Nat.le_of_ble_eq_true rfl) rfl ?_
                  dsimp only [List.set]
                  rw [show Int32.ofInt (-1) = (-1) from by decide]
                  rw [e131]
                  exact gg_c (gg_L (kk _ _ _ _ (by first | exact hw2 | exact hw1)) (lc_cut [_, _, _, _, _] _ _ (by simp))) rfl rfl
                · exact absurd rfl c_126
        · have hs5 : s < 6 := Classical.not_not.mp fun q => c_82 (nI_le (a := 6) (by omega) (by have := hw.2.2.1.2; omega))
          obtain ⟨m, hm, em, _⟩ := nt_last hw.2.2.1.2 hw.2.2.1.1
          rw [if_pos hs5] at hm
          obtain rfl : m = s := by omega
          have hw1 := hw.mv ha hR1 (hw.2.1.w.nx ⟨m, hw.2.2.1.2, hw.2.2.1.1⟩ hT) (show va_up (nt_X X) 1 T 0 2 = nI (m + 1) from em) (by omega)
          refine gg_ildn dc_L_law_85 rfl rfl ?_
          refine gg_iconst (v := 1) dc_L_law_86 (by decide) ?_
          refine gg_iadd dc_L_law_87 ?_
          refine gx_top (nI_1 _) ?_
          refine gg_goto dc_L_law_88 ?_
          refine gg_istn (i := 2) dc_L_law_93 rfl (Nat.le_of_ble_eq_true rfl) rfl ?_
          dsimp only [List.set]
          refine gg_ild dc_L_law_94 rfl ?_
          refine gg_ifeq dc_L_law_96 (fun c_96 => ?_) (fun c_96 => ?_)
          · exact absurd c_96 (by decide)
          · refine gg_ild dc_L_law_99 rfl ?_
            refine gg_bipush (v := 27) dc_L_law_101 (by decide) ?_
            refine gg_ishr dc_L_law_103 ?_
            refine gg_iconst (v := 3) dc_L_law_104 (by decide) ?_
            refine gg_iand dc_L_law_105 ?_
            refine gg_ifne dc_L_law_106 (fun c_106 => ?_) (fun c_106 => ?_)
            · exact gg_c (gg_L (kk _ _ _ _ (by first | exact hw2 | exact hw1)) (lc_cut [_, _, _, _, _] _ _ (by simp))) rfl rfl
            · refine gg_aldn dc_L_law_109 rfl rfl ?_
              refine gg_callV (da_undo hf hw.2.1 hw.2.2.1.2 hw.2.2.1.1 hT hR1.1) dc_L_law_110 ml_L_96 ce_F_undo ⟨Nat.le_of_ble_eq_true rfl, Nat.le_of_ble_eq_true rfl⟩ hf.1 rfl rfl (Nat.le_of_ble_eq_true rfl) ⟨Nat.le_of_ble_eq_true rfl, Nat.le_of_ble_eq_true rfl⟩ ?_
              rintro v9 μ9 ⟨m2, ν2, X2, hm2, rfl, rfl, hR2, e1, e2, hG2⟩
              dsimp only [Option.toList, List.cons_append, List.nil_append]
              rw [if_pos hs5] at hm2
              have hw2 := hw1.mv ha hR2 hG2 e2 (by omega)
              have hL2 : LK (X2 1) 63 8 := by rw [e1]; exact hL
              refine gg_ildn dc_L_law_113 rfl rfl ?_
              refine gg_iconst (v := 1) dc_L_law_114 (by decide) ?_
              refine gg_isub dc_L_law_115 ?_
              refine gx_top (show _ = nI m2 from (by rw [nI_pred]; rw [show m2 = m by omega])) ?_
              refine gg_icne dc_L_law_116 (fun c_116 => ?_) (fun c_116 => ?_)
              · exact absurd rfl c_116
              · refine gg_aldn dc_L_law_119 rfl rfl ?_
                refine gg_okS (sp_L_tale hf hw2.1 hL2) dc_L_law_120 ml_L_87 ce_L_tale ⟨Nat.le_of_ble_eq_true rfl, Nat.le_of_ble_eq_true rfl⟩ rfl (Nat.le_of_ble_eq_true rfl) ⟨rfl, rfl⟩ ⟨Nat.le_of_ble_eq_true rfl, Nat.le_of_ble_eq_true rfl⟩ ?_
                refine gg_lld dc_L_law_123 rfl ?_
                refine gg_lcmp dc_L_law_125 ?_
                refine gx_top (show lg_cmp (tl_N (X2 1)) (tl_N (X 1)) = 0 from (by rw [e1]; exact lg_self)) ?_
                refine gg_ifeq dc_L_law_126 (fun c_126 => ?_) (fun c_126 => ?_)
                · have e131 : nI (m + 1) + (-1) = nI m2 := (by rw [show m2 = m by omega]; exact pk_m1 m)
                  refine gg_iinc (i := 2) dc_L_law_131 rfl (Nat.le_of_ble_eq_true rfl) rfl ?_
                  dsimp only [List.set]
                  rw [show Int32.ofInt (-1) = (-1) from by decide]
                  rw [e131]
                  exact gg_c (gg_L (kk _ _ _ _ (by first | exact hw2 | exact hw1)) (lc_cut [_, _, _, _, _] _ _ (by simp))) rfl rfl
                · exact absurd rfl c_126
      · exact absurd c_72 (by decide)
    · exact absurd c_55 (by decide)
