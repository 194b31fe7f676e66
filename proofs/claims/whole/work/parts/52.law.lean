/-! the law: its loop, its entry -/
theorem RL.mv {ν ν' X : Nat → Nat → Int32} {f : Nat} (h : RL ν f X) (hF : ∀ c : Nat, c < f + 126 → ν' c = ν c) : RL ν' f X := by
  obtain ⟨h1, h2, h3, ⟨k, n, hk, g1, g2, g3, g4⟩, L, hL, hT⟩ := h
  exact ⟨h1.fr (a := 0) fun c p q => hF c (by omega), by rw [hF f (by omega)]; exact h2, fun i hi hb => (h3 i hi hb).fr (a := 0) fun c p q => hF c (by omega), ⟨k, n, hk, by rw [hF _ (by omega)]; exact g1, by rw [hF _ (by omega)]; exact g2, g3, fun j hj => (g4 j hj).fr (a := 0) fun c p q => hF c (by omega)⟩, L, by rw [hF _ (by omega)]; exact hL, by rw [hF _ (by omega)]; exact hT⟩
theorem em_of {ν ν2 X X1 : Nat → Nat → Int32} {f : Nat} (h : RF ν f X1 ν2) (hm : ∀ o : Nat, o < 6 → ν (f + 126 + o) = X o) : ν2 = mv_N ν2 (f + 126) X := by
  funext c
  unfold mv_N
  by_cases z : f + 126 ≤ c ∧ c < f + 126 + 6
  · rw [if_pos z, h.2 c (by omega)]
    have e := hm (c - (f + 126)) (by omega)
    rw [show f + 126 + (c - (f + 126)) = c by omega] at e
    exact e
  · rw [if_neg z]
theorem mv_lo {ν X : Nat → Nat → Int32} {m c : Nat} (h : c < m) : mv_N ν m X c = ν c := if_neg (by omega)
theorem st_P.of {Γ : cx_T} {τ : Nat × (Nat → sh_T)} {ν ν' : Nat → Nat → Int32} {f : Nat} (h : st_P Γ τ ν) (ha : cx_aL Γ < f ∧ cx_aG Γ < f) (e : ∀ c : Nat, c < f → ν' c = ν c) : st_P Γ τ ν' := ⟨h.1, h.2.1, fun j hj => by rw [e _ ha.1]; exact h.2.2.1 j hj, fun j hj => by rw [e _ ha.2]; exact h.2.2.2 j hj⟩
/-- what holds at the loop's head -/
def LI (Γ : cx_T) (τ : Nat × (Nat → sh_T)) (b L : Nat) (xs : Nat → Int32) (f t : Nat) (ν X : Nat → Nat → Int32) : Prop := (∀ o : Nat, o < 6 → ν (f + 126 + o) = X o) ∧ RL ν f X ∧ GI X (700000 * (t : Int)) ∧ (∀ j : Nat, j < L → ν b j = xs j) ∧ st_P Γ τ ν
set_option maxRecDepth 100000 in
set_option maxHeartbeats 8000000 in
theorem law_loop {Γ : cx_T} {τ : Nat × (Nat → sh_T)} {b L f : Nat} {xs : Nat → Int32} (hf : sh_F τ.2 f) (hm : sh_M τ.2 (f + 126)) (hb : τ.2 b = .inl (2, L)) (hL : L ≤ 1536) (hbf : b < f) (ha : cx_aL Γ < f ∧ cx_aG Γ < f) : ∀ (d t : Nat) (ν X : Nat → Nat → Int32), t + d = 513 → 3 * t ≤ L → LI Γ τ b L xs f t ν X → gg_P Γ mk_L_law (fun v _ => v = some (.int 1)) 132 1981 18 [some (.ref b), some (.ref f), some (.ref (f + 126)), some (.int (nI (3 * t)))] [] (τ, ν) := by
  intro d
  induction d with
  | zero =>
    intro t ν X hd ht _
    omega
  | succ d ih =>
    intro t ν X hd ht hLI
    obtain ⟨hc, hR, hG, hbx, hs⟩ := hLI
    refine gg_ildn dc_L_law_18 rfl rfl ?_
    refine gg_aldn dc_L_law_19 rfl rfl ?_
    refine gg_alen dc_L_law_20 (Or.inr (Or.inl hb)) rfl ?_
    refine gg_iconst (v := 3) dc_L_law_21 (by decide) ?_
    refine gg_isub dc_L_law_22 ?_
    refine gg_icgt dc_L_law_23 (fun c_23 => ?_) (fun c_23 => ?_)
    · refine gg_iconst (v := 1) dc_L_law_796 (by decide) ?_
      exact gg_zret dc_L_law_797 rfl (by first | exact Or.inl rfl | exact Or.inr rfl | assumption) ⟨Nat.le_of_ble_eq_true rfl, Nat.le_of_ble_eq_true rfl⟩ (rfl)
    · have k9 : (nI L - 3).toInt = (L : Int) - 3 := by
        rw [ti_sub (by rw [nI_toInt (by omega)]; show _ ≤ (L : Int) - 3 ∧ (L : Int) - 3 ≤ _; omega), nI_toInt (by omega)]; rfl
      have hlt : 3 * t + 2 < L := by
        have z : ¬ nI L - 3 < nI (3 * t) := c_23
        rw [ti_lt, k9, nI_toInt (by omega)] at z
        omega
      have k1' : nI (3 * t) + 1 = nI (3 * t + 1) := nI_1 _
      have k2' : nI (3 * t) + 2 = nI (3 * t + 2) := nI_add _ 2
      have k0 : (nI (3 * t)).toNatClampNeg = 3 * t := nI_clamp (by omega)
      have k1 : (nI (3 * t) + 1).toNatClampNeg = 3 * t + 1 := by rw [k1', nI_clamp (by omega)]
      have k2 : (nI (3 * t) + 2).toNatClampNeg = 3 * t + 2 := by rw [k2', nI_clamp (by omega)]
      have g0 : vp_in (nI (3 * t)) L := vp_in_nI (by omega) (by omega)
      have g1 : vp_in (nI (3 * t) + 1) L := by rw [k1']; exact vp_in_nI (by omega) (by omega)
      have g2 : vp_in (nI (3 * t) + 2) L := by rw [k2']; exact vp_in_nI (by omega) (by omega)
      have nxt : ∀ (ν2 X1 Y : Nat → Nat → Int32), RF ν f X1 ν2 → sm_M Y X1 → GI X1 (700000 * (t : Int) + 700000) → gg_P Γ mk_L_law (fun v _ => v = some (.int 1)) 132 1981 790 [some (.ref b), some (.ref f), some (.ref (f + 126)), some (.int (nI (3 * t)))] [] (τ, mv_N ν2 (f + 126) Y) := by
        intro ν2 X1 Y h2 hY hG1
        refine gg_iinc (i := 3) dc_L_law_790 rfl (Nat.le_of_ble_eq_true rfl) rfl ?_
        dsimp only [List.set]
        rw [show Int32.ofInt 3 = 3 from by decide]
        refine gg_goto dc_L_law_793 ?_
        rw [show nI (3 * t) + 3 = nI (3 * (t + 1)) from nI_add _ 3]
        have hlo : ∀ c : Nat, c < f → mv_N ν2 (f + 126) Y c = ν c := fun c hc => by rw [mv_lo (by omega), h2.2 c (by omega)]
        exact ih (t + 1) (mv_N ν2 (f + 126) Y) Y (by omega) (by omega) ⟨fun o ho => mv_at ho, (h2.1.sm hY).mv fun c hc => mv_lo (by omega), by rw [show 700000 * ((t + 1 : Nat) : Int) = 700000 * (t : Int) + 700000 by omega]; exact hG1.sm hY, fun j hj => by rw [hlo b hbf]; exact hbx j hj, hs.of ha hlo⟩
      refine gg_aldn dc_L_law_26 rfl rfl ?_
      refine gg_ildn dc_L_law_27 rfl rfl ?_
      refine gx_iald2 dc_L_law_28 hb (g0) ?_
      refine gx_top (show ν b (nI (3 * t)).toNatClampNeg = xs (3 * t) by rw [k0]; exact hbx _ (by omega)) ?_
      refine gg_bipush (v := 31) dc_L_law_29 (by decide) ?_
      refine gg_iand dc_L_law_31 ?_
      refine gg_tab [152, 185, 218, 251, 284, 307, 320, 333, 356, 389, 412, 435, 458, 481, 504, 527, 540, 563, 586, 609, 632, 665, 688, 711, 744, 767] dc_L_law_32 (fun i9 t9 hi9 ht9 => ?_) (fun hout => ?_)
      · match i9, ht9 with
        | 0, ht9 =>
          cases ht9
          obtain ⟨r, X1, hG1, hF, hM⟩ := bo_setNumber (i := xs (3 * t + 1)) (x := xs (3 * t + 2)) hf hm hR hG (by omega) hs
          refine gg_aldn dc_L_law_152 rfl rfl ?_
          refine gg_aldn dc_L_law_153 rfl rfl ?_
          refine gg_ildn dc_L_law_154 rfl rfl ?_
          refine gg_iconst (v := 1) dc_L_law_155 (by decide) ?_
          refine gg_iadd dc_L_law_156 ?_
          refine gx_iald2 dc_L_law_157 hb (g1) ?_
          refine gx_top (show ν b (nI (3 * t) + 1).toNatClampNeg = xs (3 * t + 1) by rw [k1]; exact hbx _ (by omega)) ?_
          refine gg_aldn dc_L_law_158 rfl rfl ?_
          refine gg_ildn dc_L_law_159 rfl rfl ?_
          refine gg_iconst (v := 2) dc_L_law_160 (by decide) ?_
          refine gg_iadd dc_L_law_161 ?_
          refine gx_iald2 dc_L_law_162 hb (g2) ?_
          refine gx_top (show ν b (nI (3 * t) + 2).toNatClampNeg = xs (3 * t + 2) by rw [k2]; exact hbx _ (by omega)) ?_
          refine gg_callV (hF) dc_L_law_163 ml_L_13 ce_F_setNumber ⟨Nat.le_of_ble_eq_true rfl, Nat.le_of_ble_eq_true rfl⟩ hf.1 rfl rfl (Nat.le_of_ble_eq_true rfl) ⟨Nat.le_of_ble_eq_true rfl, Nat.le_of_ble_eq_true rfl⟩ ?_
          rintro v μ9 ⟨ν2, rfl, rfl, h2⟩
          dsimp only [Option.toList, List.cons_append, List.nil_append]
          have hbx2 : ∀ j : Nat, j < L → mv_N ν2 (f + 126) X b j = xs j := fun j hj => by rw [mv_lo (by omega), h2.2 b (by omega)]; exact hbx j hj
          rw [em_of h2 hc]
          refine gg_aldn dc_L_law_166 rfl rfl ?_
          refine gg_aldn dc_L_law_167 rfl rfl ?_
          refine gg_ildn dc_L_law_168 rfl rfl ?_
          refine gg_iconst (v := 1) dc_L_law_169 (by decide) ?_
          refine gg_iadd dc_L_law_170 ?_
          refine gx_iald2 dc_L_law_171 hb (g1) ?_
          refine gx_top (show mv_N ν2 (f + 126) X b (nI (3 * t) + 1).toNatClampNeg = xs (3 * t + 1) by rw [k1]; exact hbx2 _ (by omega)) ?_
          refine gg_aldn dc_L_law_172 rfl rfl ?_
          refine gg_ildn dc_L_law_173 rfl rfl ?_
          refine gg_iconst (v := 2) dc_L_law_174 (by decide) ?_
          refine gg_iadd dc_L_law_175 ?_
          refine gx_iald2 dc_L_law_176 hb (g2) ?_
          refine gx_top (show mv_N ν2 (f + 126) X b (nI (3 * t) + 2).toNatClampNeg = xs (3 * t + 2) by rw [k2]; exact hbx2 _ (by omega)) ?_
          refine gg_callV (hM ν2) dc_L_law_177 ml_L_17 ce_M_setNumber ⟨Nat.le_of_ble_eq_true rfl, Nat.le_of_ble_eq_true rfl⟩ hm.1 rfl rfl (Nat.le_of_ble_eq_true rfl) ⟨Nat.le_of_ble_eq_true rfl, Nat.le_of_ble_eq_true rfl⟩ ?_
          rintro v μ9 ⟨Y, rfl, rfl, hY⟩
          dsimp only [Option.toList, List.cons_append, List.nil_append]
          refine gg_iceq dc_L_law_180 (fun c_180 => ?_) (fun c_180 => ?_)
          · exact gg_c (nxt _ _ _ h2 hY hG1) rfl rfl
          · exact absurd rfl c_180
        | 1, ht9 =>
          cases ht9
          obtain ⟨r, X1, hG1, hF, hM⟩ := bo_setLoad (x := xs (3 * t + 1)) (y := xs (3 * t + 2)) hf hm hR hG (by omega) hs
          refine gg_aldn dc_L_law_185 rfl rfl ?_
          refine gg_aldn dc_L_law_186 rfl rfl ?_
          refine gg_ildn dc_L_law_187 rfl rfl ?_
          refine gg_iconst (v := 1) dc_L_law_188 (by decide) ?_
          refine gg_iadd dc_L_law_189 ?_
          refine gx_iald2 dc_L_law_190 hb (g1) ?_
          refine gx_top (show ν b (nI (3 * t) + 1).toNatClampNeg = xs (3 * t + 1) by rw [k1]; exact hbx _ (by omega)) ?_
          refine gg_aldn dc_L_law_191 rfl rfl ?_
          refine gg_ildn dc_L_law_192 rfl rfl ?_
          refine gg_iconst (v := 2) dc_L_law_193 (by decide) ?_
          refine gg_iadd dc_L_law_194 ?_
          refine gx_iald2 dc_L_law_195 hb (g2) ?_
          refine gx_top (show ν b (nI (3 * t) + 2).toNatClampNeg = xs (3 * t + 2) by rw [k2]; exact hbx _ (by omega)) ?_
          refine gg_callV (hF) dc_L_law_196 ml_L_18 ce_F_setLoad ⟨Nat.le_of_ble_eq_true rfl, Nat.le_of_ble_eq_true rfl⟩ hf.1 rfl rfl (Nat.le_of_ble_eq_true rfl) ⟨Nat.le_of_ble_eq_true rfl, Nat.le_of_ble_eq_true rfl⟩ ?_
          rintro v μ9 ⟨ν2, rfl, rfl, h2⟩
          dsimp only [Option.toList, List.cons_append, List.nil_append]
          have hbx2 : ∀ j : Nat, j < L → mv_N ν2 (f + 126) X b j = xs j := fun j hj => by rw [mv_lo (by omega), h2.2 b (by omega)]; exact hbx j hj
          rw [em_of h2 hc]
          refine gg_aldn dc_L_law_199 rfl rfl ?_
          refine gg_aldn dc_L_law_200 rfl rfl ?_
          refine gg_ildn dc_L_law_201 rfl rfl ?_
          refine gg_iconst (v := 1) dc_L_law_202 (by decide) ?_
          refine gg_iadd dc_L_law_203 ?_
          refine gx_iald2 dc_L_law_204 hb (g1) ?_
          refine gx_top (show mv_N ν2 (f + 126) X b (nI (3 * t) + 1).toNatClampNeg = xs (3 * t + 1) by rw [k1]; exact hbx2 _ (by omega)) ?_
          refine gg_aldn dc_L_law_205 rfl rfl ?_
          refine gg_ildn dc_L_law_206 rfl rfl ?_
          refine gg_iconst (v := 2) dc_L_law_207 (by decide) ?_
          refine gg_iadd dc_L_law_208 ?_
          refine gx_iald2 dc_L_law_209 hb (g2) ?_
          refine gx_top (show mv_N ν2 (f + 126) X b (nI (3 * t) + 2).toNatClampNeg = xs (3 * t + 2) by rw [k2]; exact hbx2 _ (by omega)) ?_
          refine gg_callV (hM ν2) dc_L_law_210 ml_L_21 ce_M_setLoad ⟨Nat.le_of_ble_eq_true rfl, Nat.le_of_ble_eq_true rfl⟩ hm.1 rfl rfl (Nat.le_of_ble_eq_true rfl) ⟨Nat.le_of_ble_eq_true rfl, Nat.le_of_ble_eq_true rfl⟩ ?_
          rintro v μ9 ⟨Y, rfl, rfl, hY⟩
          dsimp only [Option.toList, List.cons_append, List.nil_append]
          refine gg_iceq dc_L_law_213 (fun c_213 => ?_) (fun c_213 => ?_)
          · exact gg_c (nxt _ _ _ h2 hY hG1) rfl rfl
          · exact absurd rfl c_213
        | 2, ht9 =>
          cases ht9
          obtain ⟨r, X1, hG1, hF, hM⟩ := bo_setComb (x := xs (3 * t + 1)) (y := xs (3 * t + 2)) hf hm hR hG (by omega) hs
          refine gg_aldn dc_L_law_218 rfl rfl ?_
          refine gg_aldn dc_L_law_219 rfl rfl ?_
          refine gg_ildn dc_L_law_220 rfl rfl ?_
          refine gg_iconst (v := 1) dc_L_law_221 (by decide) ?_
          refine gg_iadd dc_L_law_222 ?_
          refine gx_iald2 dc_L_law_223 hb (g1) ?_
          refine gx_top (show ν b (nI (3 * t) + 1).toNatClampNeg = xs (3 * t + 1) by rw [k1]; exact hbx _ (by omega)) ?_
          refine gg_aldn dc_L_law_224 rfl rfl ?_
          refine gg_ildn dc_L_law_225 rfl rfl ?_
          refine gg_iconst (v := 2) dc_L_law_226 (by decide) ?_
          refine gg_iadd dc_L_law_227 ?_
          refine gx_iald2 dc_L_law_228 hb (g2) ?_
          refine gx_top (show ν b (nI (3 * t) + 2).toNatClampNeg = xs (3 * t + 2) by rw [k2]; exact hbx _ (by omega)) ?_
          refine gg_callV (hF) dc_L_law_229 ml_L_22 ce_F_setComb ⟨Nat.le_of_ble_eq_true rfl, Nat.le_of_ble_eq_true rfl⟩ hf.1 rfl rfl (Nat.le_of_ble_eq_true rfl) ⟨Nat.le_of_ble_eq_true rfl, Nat.le_of_ble_eq_true rfl⟩ ?_
          rintro v μ9 ⟨ν2, rfl, rfl, h2⟩
          dsimp only [Option.toList, List.cons_append, List.nil_append]
          have hbx2 : ∀ j : Nat, j < L → mv_N ν2 (f + 126) X b j = xs j := fun j hj => by rw [mv_lo (by omega), h2.2 b (by omega)]; exact hbx j hj
          rw [em_of h2 hc]
          refine gg_aldn dc_L_law_232 rfl rfl ?_
          refine gg_aldn dc_L_law_233 rfl rfl ?_
          refine gg_ildn dc_L_law_234 rfl rfl ?_
          refine gg_iconst (v := 1) dc_L_law_235 (by decide) ?_
          refine gg_iadd dc_L_law_236 ?_
          refine gx_iald2 dc_L_law_237 hb (g1) ?_
          refine gx_top (show mv_N ν2 (f + 126) X b (nI (3 * t) + 1).toNatClampNeg = xs (3 * t + 1) by rw [k1]; exact hbx2 _ (by omega)) ?_
          refine gg_aldn dc_L_law_238 rfl rfl ?_
          refine gg_ildn dc_L_law_239 rfl rfl ?_
          refine gg_iconst (v := 2) dc_L_law_240 (by decide) ?_
          refine gg_iadd dc_L_law_241 ?_
          refine gx_iald2 dc_L_law_242 hb (g2) ?_
          refine gx_top (show mv_N ν2 (f + 126) X b (nI (3 * t) + 2).toNatClampNeg = xs (3 * t + 2) by rw [k2]; exact hbx2 _ (by omega)) ?_
          refine gg_callV (hM ν2) dc_L_law_243 ml_L_25 ce_M_setComb ⟨Nat.le_of_ble_eq_true rfl, Nat.le_of_ble_eq_true rfl⟩ hm.1 rfl rfl (Nat.le_of_ble_eq_true rfl) ⟨Nat.le_of_ble_eq_true rfl, Nat.le_of_ble_eq_true rfl⟩ ?_
          rintro v μ9 ⟨Y, rfl, rfl, hY⟩
          dsimp only [Option.toList, List.cons_append, List.nil_append]
          refine gg_iceq dc_L_law_246 (fun c_246 => ?_) (fun c_246 => ?_)
          · exact gg_c (nxt _ _ _ h2 hY hG1) rfl rfl
          · exact absurd rfl c_246
        | 3, ht9 =>
          cases ht9
          obtain ⟨r, X1, hG1, hF, hM⟩ := bo_setFlag (x := xs (3 * t + 1)) (y := xs (3 * t + 2)) hf hm hR hG (by omega) hs
          refine gg_aldn dc_L_law_251 rfl rfl ?_
          refine gg_aldn dc_L_law_252 rfl rfl ?_
          refine gg_ildn dc_L_law_253 rfl rfl ?_
          refine gg_iconst (v := 1) dc_L_law_254 (by decide) ?_
          refine gg_iadd dc_L_law_255 ?_
          refine gx_iald2 dc_L_law_256 hb (g1) ?_
          refine gx_top (show ν b (nI (3 * t) + 1).toNatClampNeg = xs (3 * t + 1) by rw [k1]; exact hbx _ (by omega)) ?_
          refine gg_aldn dc_L_law_257 rfl rfl ?_
          refine gg_ildn dc_L_law_258 rfl rfl ?_
          refine gg_iconst (v := 2) dc_L_law_259 (by decide) ?_
          refine gg_iadd dc_L_law_260 ?_
          refine gx_iald2 dc_L_law_261 hb (g2) ?_
          refine gx_top (show ν b (nI (3 * t) + 2).toNatClampNeg = xs (3 * t + 2) by rw [k2]; exact hbx _ (by omega)) ?_
          refine gg_callV (hF) dc_L_law_262 ml_L_26 ce_F_setFlag ⟨Nat.le_of_ble_eq_true rfl, Nat.le_of_ble_eq_true rfl⟩ hf.1 rfl rfl (Nat.le_of_ble_eq_true rfl) ⟨Nat.le_of_ble_eq_true rfl, Nat.le_of_ble_eq_true rfl⟩ ?_
          rintro v μ9 ⟨ν2, rfl, rfl, h2⟩
          dsimp only [Option.toList, List.cons_append, List.nil_append]
          have hbx2 : ∀ j : Nat, j < L → mv_N ν2 (f + 126) X b j = xs j := fun j hj => by rw [mv_lo (by omega), h2.2 b (by omega)]; exact hbx j hj
          rw [em_of h2 hc]
          refine gg_aldn dc_L_law_265 rfl rfl ?_
          refine gg_aldn dc_L_law_266 rfl rfl ?_
          refine gg_ildn dc_L_law_267 rfl rfl ?_
          refine gg_iconst (v := 1) dc_L_law_268 (by decide) ?_
          refine gg_iadd dc_L_law_269 ?_
          refine gx_iald2 dc_L_law_270 hb (g1) ?_
          refine gx_top (show mv_N ν2 (f + 126) X b (nI (3 * t) + 1).toNatClampNeg = xs (3 * t + 1) by rw [k1]; exact hbx2 _ (by omega)) ?_
          refine gg_aldn dc_L_law_271 rfl rfl ?_
          refine gg_ildn dc_L_law_272 rfl rfl ?_
          refine gg_iconst (v := 2) dc_L_law_273 (by decide) ?_
          refine gg_iadd dc_L_law_274 ?_
          refine gx_iald2 dc_L_law_275 hb (g2) ?_
          refine gx_top (show mv_N ν2 (f + 126) X b (nI (3 * t) + 2).toNatClampNeg = xs (3 * t + 2) by rw [k2]; exact hbx2 _ (by omega)) ?_
          refine gg_callV (hM ν2) dc_L_law_276 ml_L_29 ce_M_setFlag ⟨Nat.le_of_ble_eq_true rfl, Nat.le_of_ble_eq_true rfl⟩ hm.1 rfl rfl (Nat.le_of_ble_eq_true rfl) ⟨Nat.le_of_ble_eq_true rfl, Nat.le_of_ble_eq_true rfl⟩ ?_
          rintro v μ9 ⟨Y, rfl, rfl, hY⟩
          dsimp only [Option.toList, List.cons_append, List.nil_append]
          refine gg_iceq dc_L_law_279 (fun c_279 => ?_) (fun c_279 => ?_)
          · exact gg_c (nxt _ _ _ h2 hY hG1) rfl rfl
          · exact absurd rfl c_279
        | 4, ht9 =>
          cases ht9
          obtain ⟨r, X1, hG1, hF, hM⟩ := bo_appendCharacter (x := xs (3 * t + 1)) hf hm hR hG (by omega) hs
          refine gg_aldn dc_L_law_284 rfl rfl ?_
          refine gg_aldn dc_L_law_285 rfl rfl ?_
          refine gg_ildn dc_L_law_286 rfl rfl ?_
          refine gg_iconst (v := 1) dc_L_law_287 (by decide) ?_
          refine gg_iadd dc_L_law_288 ?_
          refine gx_iald2 dc_L_law_289 hb (g1) ?_
          refine gx_top (show ν b (nI (3 * t) + 1).toNatClampNeg = xs (3 * t + 1) by rw [k1]; exact hbx _ (by omega)) ?_
          refine gg_callV (hF) dc_L_law_290 ml_L_30 ce_F_appendCharacter ⟨Nat.le_of_ble_eq_true rfl, Nat.le_of_ble_eq_true rfl⟩ hf.1 rfl rfl (Nat.le_of_ble_eq_true rfl) ⟨Nat.le_of_ble_eq_true rfl, Nat.le_of_ble_eq_true rfl⟩ ?_
          rintro v μ9 ⟨ν2, rfl, rfl, h2⟩
          dsimp only [Option.toList, List.cons_append, List.nil_append]
          have hbx2 : ∀ j : Nat, j < L → mv_N ν2 (f + 126) X b j = xs j := fun j hj => by rw [mv_lo (by omega), h2.2 b (by omega)]; exact hbx j hj
          rw [em_of h2 hc]
          refine gg_aldn dc_L_law_293 rfl rfl ?_
          refine gg_aldn dc_L_law_294 rfl rfl ?_
          refine gg_ildn dc_L_law_295 rfl rfl ?_
          refine gg_iconst (v := 1) dc_L_law_296 (by decide) ?_
          refine gg_iadd dc_L_law_297 ?_
          refine gx_iald2 dc_L_law_298 hb (g1) ?_
          refine gx_top (show mv_N ν2 (f + 126) X b (nI (3 * t) + 1).toNatClampNeg = xs (3 * t + 1) by rw [k1]; exact hbx2 _ (by omega)) ?_
          refine gg_callV (hM ν2) dc_L_law_299 ml_L_34 ce_M_appendCharacter ⟨Nat.le_of_ble_eq_true rfl, Nat.le_of_ble_eq_true rfl⟩ hm.1 rfl rfl (Nat.le_of_ble_eq_true rfl) ⟨Nat.le_of_ble_eq_true rfl, Nat.le_of_ble_eq_true rfl⟩ ?_
          rintro v μ9 ⟨Y, rfl, rfl, hY⟩
          dsimp only [Option.toList, List.cons_append, List.nil_append]
          refine gg_iceq dc_L_law_302 (fun c_302 => ?_) (fun c_302 => ?_)
          · exact gg_c (nxt _ _ _ h2 hY hG1) rfl rfl
          · exact absurd rfl c_302
        | 5, ht9 =>
          cases ht9
          obtain ⟨r, X1, hG1, hF, hM⟩ := bo_clearText hf hm hR hG (by omega) hs
          refine gg_aldn dc_L_law_307 rfl rfl ?_
          refine gg_callV (hF) dc_L_law_308 ml_L_35 ce_F_clearText ⟨Nat.le_of_ble_eq_true rfl, Nat.le_of_ble_eq_true rfl⟩ hf.1 rfl rfl (Nat.le_of_ble_eq_true rfl) ⟨Nat.le_of_ble_eq_true rfl, Nat.le_of_ble_eq_true rfl⟩ ?_
          rintro v μ9 ⟨ν2, rfl, rfl, h2⟩
          dsimp only [Option.toList, List.cons_append, List.nil_append]
          have hbx2 : ∀ j : Nat, j < L → mv_N ν2 (f + 126) X b j = xs j := fun j hj => by rw [mv_lo (by omega), h2.2 b (by omega)]; exact hbx j hj
          rw [em_of h2 hc]
          refine gg_aldn dc_L_law_311 rfl rfl ?_
          refine gg_callV (hM ν2) dc_L_law_312 ml_L_39 ce_M_clearText ⟨Nat.le_of_ble_eq_true rfl, Nat.le_of_ble_eq_true rfl⟩ hm.1 rfl rfl (Nat.le_of_ble_eq_true rfl) ⟨Nat.le_of_ble_eq_true rfl, Nat.le_of_ble_eq_true rfl⟩ ?_
          rintro v μ9 ⟨Y, rfl, rfl, hY⟩
          dsimp only [Option.toList, List.cons_append, List.nil_append]
          refine gg_iceq dc_L_law_315 (fun c_315 => ?_) (fun c_315 => ?_)
          · exact gg_c (nxt _ _ _ h2 hY hG1) rfl rfl
          · exact absurd rfl c_315
        | 6, ht9 =>
          cases ht9
          obtain ⟨r, X1, hG1, hF, hM⟩ := bo_load hf hm hR hG (by omega) hs
          refine gg_aldn dc_L_law_320 rfl rfl ?_
          refine gg_callV (hF) dc_L_law_321 ml_L_40 ce_F_load ⟨Nat.le_of_ble_eq_true rfl, Nat.le_of_ble_eq_true rfl⟩ hf.1 rfl rfl (Nat.le_of_ble_eq_true rfl) ⟨Nat.le_of_ble_eq_true rfl, Nat.le_of_ble_eq_true rfl⟩ ?_
          rintro v μ9 ⟨ν2, rfl, rfl, h2⟩
          dsimp only [Option.toList, List.cons_append, List.nil_append]
          have hbx2 : ∀ j : Nat, j < L → mv_N ν2 (f + 126) X b j = xs j := fun j hj => by rw [mv_lo (by omega), h2.2 b (by omega)]; exact hbx j hj
          rw [em_of h2 hc]
          refine gg_aldn dc_L_law_324 rfl rfl ?_
          refine gg_callV (hM ν2) dc_L_law_325 ml_L_43 ce_M_load ⟨Nat.le_of_ble_eq_true rfl, Nat.le_of_ble_eq_true rfl⟩ hm.1 rfl rfl (Nat.le_of_ble_eq_true rfl) ⟨Nat.le_of_ble_eq_true rfl, Nat.le_of_ble_eq_true rfl⟩ ?_
          rintro v μ9 ⟨Y, rfl, rfl, hY⟩
          dsimp only [Option.toList, List.cons_append, List.nil_append]
          refine gg_iceq dc_L_law_328 (fun c_328 => ?_) (fun c_328 => ?_)
          · exact gg_c (nxt _ _ _ h2 hY hG1) rfl rfl
          · exact absurd rfl c_328
        | 7, ht9 =>
          cases ht9
          obtain ⟨r, X1, hG1, hF, hM⟩ := bo_moveTo (x := xs (3 * t + 1)) hf hm hR hG (by omega) hs
          refine gg_aldn dc_L_law_333 rfl rfl ?_
          refine gg_aldn dc_L_law_334 rfl rfl ?_
          refine gg_ildn dc_L_law_335 rfl rfl ?_
          refine gg_iconst (v := 1) dc_L_law_336 (by decide) ?_
          refine gg_iadd dc_L_law_337 ?_
          refine gx_iald2 dc_L_law_338 hb (g1) ?_
          refine gx_top (show ν b (nI (3 * t) + 1).toNatClampNeg = xs (3 * t + 1) by rw [k1]; exact hbx _ (by omega)) ?_
          refine gg_callV (hF) dc_L_law_339 ml_L_44 ce_F_moveTo ⟨Nat.le_of_ble_eq_true rfl, Nat.le_of_ble_eq_true rfl⟩ hf.1 rfl rfl (Nat.le_of_ble_eq_true rfl) ⟨Nat.le_of_ble_eq_true rfl, Nat.le_of_ble_eq_true rfl⟩ ?_
          rintro v μ9 ⟨ν2, rfl, rfl, h2⟩
          dsimp only [Option.toList, List.cons_append, List.nil_append]
          have hbx2 : ∀ j : Nat, j < L → mv_N ν2 (f + 126) X b j = xs j := fun j hj => by rw [mv_lo (by omega), h2.2 b (by omega)]; exact hbx j hj
          rw [em_of h2 hc]
          refine gg_aldn dc_L_law_342 rfl rfl ?_
          refine gg_aldn dc_L_law_343 rfl rfl ?_
          refine gg_ildn dc_L_law_344 rfl rfl ?_
          refine gg_iconst (v := 1) dc_L_law_345 (by decide) ?_
          refine gg_iadd dc_L_law_346 ?_
          refine gx_iald2 dc_L_law_347 hb (g1) ?_
          refine gx_top (show mv_N ν2 (f + 126) X b (nI (3 * t) + 1).toNatClampNeg = xs (3 * t + 1) by rw [k1]; exact hbx2 _ (by omega)) ?_
          refine gg_callV (hM ν2) dc_L_law_348 ml_L_47 ce_M_moveTo ⟨Nat.le_of_ble_eq_true rfl, Nat.le_of_ble_eq_true rfl⟩ hm.1 rfl rfl (Nat.le_of_ble_eq_true rfl) ⟨Nat.le_of_ble_eq_true rfl, Nat.le_of_ble_eq_true rfl⟩ ?_
          rintro v μ9 ⟨Y, rfl, rfl, hY⟩
          dsimp only [Option.toList, List.cons_append, List.nil_append]
          refine gg_iceq dc_L_law_351 (fun c_351 => ?_) (fun c_351 => ?_)
          · exact gg_c (nxt _ _ _ h2 hY hG1) rfl rfl
          · exact absurd rfl c_351
        | 8, ht9 =>
          cases ht9
          obtain ⟨r, X1, hG1, hF, hM⟩ := bo_addCommand (x := xs (3 * t + 1)) (y := xs (3 * t + 2)) hf hm hR hG (by omega) hs
          refine gg_aldn dc_L_law_356 rfl rfl ?_
          refine gg_aldn dc_L_law_357 rfl rfl ?_
          refine gg_ildn dc_L_law_358 rfl rfl ?_
          refine gg_iconst (v := 1) dc_L_law_359 (by decide) ?_
          refine gg_iadd dc_L_law_360 ?_
          refine gx_iald2 dc_L_law_361 hb (g1) ?_
          refine gx_top (show ν b (nI (3 * t) + 1).toNatClampNeg = xs (3 * t + 1) by rw [k1]; exact hbx _ (by omega)) ?_
          refine gg_aldn dc_L_law_362 rfl rfl ?_
          refine gg_ildn dc_L_law_363 rfl rfl ?_
          refine gg_iconst (v := 2) dc_L_law_364 (by decide) ?_
          refine gg_iadd dc_L_law_365 ?_
          refine gx_iald2 dc_L_law_366 hb (g2) ?_
          refine gx_top (show ν b (nI (3 * t) + 2).toNatClampNeg = xs (3 * t + 2) by rw [k2]; exact hbx _ (by omega)) ?_
          refine gg_callV (hF) dc_L_law_367 ml_L_48 ce_F_addCommand ⟨Nat.le_of_ble_eq_true rfl, Nat.le_of_ble_eq_true rfl⟩ hf.1 rfl rfl (Nat.le_of_ble_eq_true rfl) ⟨Nat.le_of_ble_eq_true rfl, Nat.le_of_ble_eq_true rfl⟩ ?_
          rintro v μ9 ⟨ν2, rfl, rfl, h2⟩
          dsimp only [Option.toList, List.cons_append, List.nil_append]
          have hbx2 : ∀ j : Nat, j < L → mv_N ν2 (f + 126) X b j = xs j := fun j hj => by rw [mv_lo (by omega), h2.2 b (by omega)]; exact hbx j hj
          rw [em_of h2 hc]
          refine gg_aldn dc_L_law_370 rfl rfl ?_
          refine gg_aldn dc_L_law_371 rfl rfl ?_
          refine gg_ildn dc_L_law_372 rfl rfl ?_
          refine gg_iconst (v := 1) dc_L_law_373 (by decide) ?_
          refine gg_iadd dc_L_law_374 ?_
          refine gx_iald2 dc_L_law_375 hb (g1) ?_
          refine gx_top (show mv_N ν2 (f + 126) X b (nI (3 * t) + 1).toNatClampNeg = xs (3 * t + 1) by rw [k1]; exact hbx2 _ (by omega)) ?_
          refine gg_aldn dc_L_law_376 rfl rfl ?_
          refine gg_ildn dc_L_law_377 rfl rfl ?_
          refine gg_iconst (v := 2) dc_L_law_378 (by decide) ?_
          refine gg_iadd dc_L_law_379 ?_
          refine gx_iald2 dc_L_law_380 hb (g2) ?_
          refine gx_top (show mv_N ν2 (f + 126) X b (nI (3 * t) + 2).toNatClampNeg = xs (3 * t + 2) by rw [k2]; exact hbx2 _ (by omega)) ?_
          refine gg_callV (hM ν2) dc_L_law_381 ml_L_51 ce_M_addCommand ⟨Nat.le_of_ble_eq_true rfl, Nat.le_of_ble_eq_true rfl⟩ hm.1 rfl rfl (Nat.le_of_ble_eq_true rfl) ⟨Nat.le_of_ble_eq_true rfl, Nat.le_of_ble_eq_true rfl⟩ ?_
          rintro v μ9 ⟨Y, rfl, rfl, hY⟩
          dsimp only [Option.toList, List.cons_append, List.nil_append]
          refine gg_iceq dc_L_law_384 (fun c_384 => ?_) (fun c_384 => ?_)
          · exact gg_c (nxt _ _ _ h2 hY hG1) rfl rfl
          · exact absurd rfl c_384
        | 9, ht9 =>
          cases ht9
          obtain ⟨r, X1, hG1, hF, hM⟩ := bo_run (c := xs (3 * t + 1)) hf hm hR hG (by omega) hs
          refine gg_aldn dc_L_law_389 rfl rfl ?_
          refine gg_aldn dc_L_law_390 rfl rfl ?_
          refine gg_ildn dc_L_law_391 rfl rfl ?_
          refine gg_iconst (v := 1) dc_L_law_392 (by decide) ?_
          refine gg_iadd dc_L_law_393 ?_
          refine gx_iald2 dc_L_law_394 hb (g1) ?_
          refine gx_top (show ν b (nI (3 * t) + 1).toNatClampNeg = xs (3 * t + 1) by rw [k1]; exact hbx _ (by omega)) ?_
          refine gg_callV (hF) dc_L_law_395 ml_L_52 ce_F_run ⟨Nat.le_of_ble_eq_true rfl, Nat.le_of_ble_eq_true rfl⟩ hf.1 rfl rfl (Nat.le_of_ble_eq_true rfl) ⟨Nat.le_of_ble_eq_true rfl, Nat.le_of_ble_eq_true rfl⟩ ?_
          rintro v μ9 ⟨ν2, rfl, rfl, h2⟩
          dsimp only [Option.toList, List.cons_append, List.nil_append]
          have hbx2 : ∀ j : Nat, j < L → mv_N ν2 (f + 126) X b j = xs j := fun j hj => by rw [mv_lo (by omega), h2.2 b (by omega)]; exact hbx j hj
          rw [em_of h2 hc]
          refine gg_aldn dc_L_law_398 rfl rfl ?_
          refine gg_aldn dc_L_law_399 rfl rfl ?_
          refine gg_ildn dc_L_law_400 rfl rfl ?_
          refine gg_iconst (v := 1) dc_L_law_401 (by decide) ?_
          refine gg_iadd dc_L_law_402 ?_
          refine gx_iald2 dc_L_law_403 hb (g1) ?_
          refine gx_top (show mv_N ν2 (f + 126) X b (nI (3 * t) + 1).toNatClampNeg = xs (3 * t + 1) by rw [k1]; exact hbx2 _ (by omega)) ?_
          refine gg_callV (hM ν2) dc_L_law_404 ml_L_55 ce_M_run ⟨Nat.le_of_ble_eq_true rfl, Nat.le_of_ble_eq_true rfl⟩ hm.1 rfl rfl (Nat.le_of_ble_eq_true rfl) ⟨Nat.le_of_ble_eq_true rfl, Nat.le_of_ble_eq_true rfl⟩ ?_
          rintro v μ9 ⟨Y, rfl, rfl, hY⟩
          dsimp only [Option.toList, List.cons_append, List.nil_append]
          refine gg_iceq dc_L_law_407 (fun c_407 => ?_) (fun c_407 => ?_)
          · exact gg_c (nxt _ _ _ h2 hY hG1) rfl rfl
          · exact absurd rfl c_407
        | 10, ht9 =>
          cases ht9
          obtain ⟨r, X1, hG1, hF, hM⟩ := bo_home (w := xs (3 * t + 1)) hf hm hR hG (by omega) hs
          refine gg_aldn dc_L_law_412 rfl rfl ?_
          refine gg_aldn dc_L_law_413 rfl rfl ?_
          refine gg_ildn dc_L_law_414 rfl rfl ?_
          refine gg_iconst (v := 1) dc_L_law_415 (by decide) ?_
          refine gg_iadd dc_L_law_416 ?_
          refine gx_iald2 dc_L_law_417 hb (g1) ?_
          refine gx_top (show ν b (nI (3 * t) + 1).toNatClampNeg = xs (3 * t + 1) by rw [k1]; exact hbx _ (by omega)) ?_
          refine gg_callV (hF) dc_L_law_418 ml_L_56 ce_F_home ⟨Nat.le_of_ble_eq_true rfl, Nat.le_of_ble_eq_true rfl⟩ hf.1 rfl rfl (Nat.le_of_ble_eq_true rfl) ⟨Nat.le_of_ble_eq_true rfl, Nat.le_of_ble_eq_true rfl⟩ ?_
          rintro v μ9 ⟨ν2, rfl, rfl, h2⟩
          dsimp only [Option.toList, List.cons_append, List.nil_append]
          have hbx2 : ∀ j : Nat, j < L → mv_N ν2 (f + 126) X b j = xs j := fun j hj => by rw [mv_lo (by omega), h2.2 b (by omega)]; exact hbx j hj
          rw [em_of h2 hc]
          refine gg_aldn dc_L_law_421 rfl rfl ?_
          refine gg_aldn dc_L_law_422 rfl rfl ?_
          refine gg_ildn dc_L_law_423 rfl rfl ?_
          refine gg_iconst (v := 1) dc_L_law_424 (by decide) ?_
          refine gg_iadd dc_L_law_425 ?_
          refine gx_iald2 dc_L_law_426 hb (g1) ?_
          refine gx_top (show mv_N ν2 (f + 126) X b (nI (3 * t) + 1).toNatClampNeg = xs (3 * t + 1) by rw [k1]; exact hbx2 _ (by omega)) ?_
          refine gg_callV (hM ν2) dc_L_law_427 ml_L_59 ce_M_home ⟨Nat.le_of_ble_eq_true rfl, Nat.le_of_ble_eq_true rfl⟩ hm.1 rfl rfl (Nat.le_of_ble_eq_true rfl) ⟨Nat.le_of_ble_eq_true rfl, Nat.le_of_ble_eq_true rfl⟩ ?_
          rintro v μ9 ⟨Y, rfl, rfl, hY⟩
          dsimp only [Option.toList, List.cons_append, List.nil_append]
          refine gg_iceq dc_L_law_430 (fun c_430 => ?_) (fun c_430 => ?_)
          · exact gg_c (nxt _ _ _ h2 hY hG1) rfl rfl
          · exact absurd rfl c_430
        | 11, ht9 =>
          cases ht9
          obtain ⟨r, X1, hG1, hF, hM⟩ := bo_check (w := xs (3 * t + 1)) hf hm hR hG (by omega) hs
          refine gg_aldn dc_L_law_435 rfl rfl ?_
          refine gg_aldn dc_L_law_436 rfl rfl ?_
          refine gg_ildn dc_L_law_437 rfl rfl ?_
          refine gg_iconst (v := 1) dc_L_law_438 (by decide) ?_
          refine gg_iadd dc_L_law_439 ?_
          refine gx_iald2 dc_L_law_440 hb (g1) ?_
          refine gx_top (show ν b (nI (3 * t) + 1).toNatClampNeg = xs (3 * t + 1) by rw [k1]; exact hbx _ (by omega)) ?_
          refine gg_callV (hF) dc_L_law_441 ml_L_60 ce_F_check ⟨Nat.le_of_ble_eq_true rfl, Nat.le_of_ble_eq_true rfl⟩ hf.1 rfl rfl (Nat.le_of_ble_eq_true rfl) ⟨Nat.le_of_ble_eq_true rfl, Nat.le_of_ble_eq_true rfl⟩ ?_
          rintro v μ9 ⟨ν2, rfl, rfl, h2⟩
          dsimp only [Option.toList, List.cons_append, List.nil_append]
          have hbx2 : ∀ j : Nat, j < L → mv_N ν2 (f + 126) X b j = xs j := fun j hj => by rw [mv_lo (by omega), h2.2 b (by omega)]; exact hbx j hj
          rw [em_of h2 hc]
          refine gg_aldn dc_L_law_444 rfl rfl ?_
          refine gg_aldn dc_L_law_445 rfl rfl ?_
          refine gg_ildn dc_L_law_446 rfl rfl ?_
          refine gg_iconst (v := 1) dc_L_law_447 (by decide) ?_
          refine gg_iadd dc_L_law_448 ?_
          refine gx_iald2 dc_L_law_449 hb (g1) ?_
          refine gx_top (show mv_N ν2 (f + 126) X b (nI (3 * t) + 1).toNatClampNeg = xs (3 * t + 1) by rw [k1]; exact hbx2 _ (by omega)) ?_
          refine gg_callV (hM ν2) dc_L_law_450 ml_L_63 ce_M_check ⟨Nat.le_of_ble_eq_true rfl, Nat.le_of_ble_eq_true rfl⟩ hm.1 rfl rfl (Nat.le_of_ble_eq_true rfl) ⟨Nat.le_of_ble_eq_true rfl, Nat.le_of_ble_eq_true rfl⟩ ?_
          rintro v μ9 ⟨Y, rfl, rfl, hY⟩
          dsimp only [Option.toList, List.cons_append, List.nil_append]
          refine gg_iceq dc_L_law_453 (fun c_453 => ?_) (fun c_453 => ?_)
          · exact gg_c (nxt _ _ _ h2 hY hG1) rfl rfl
          · exact absurd rfl c_453
        | 12, ht9 =>
          cases ht9
          obtain ⟨r, X1, hG1, hF, hM⟩ := bo_correct (x := xs (3 * t + 1)) hf hm hR hG (by omega) hs
          refine gg_aldn dc_L_law_458 rfl rfl ?_
          refine gg_aldn dc_L_law_459 rfl rfl ?_
          refine gg_ildn dc_L_law_460 rfl rfl ?_
          refine gg_iconst (v := 1) dc_L_law_461 (by decide) ?_
          refine gg_iadd dc_L_law_462 ?_
          refine gx_iald2 dc_L_law_463 hb (g1) ?_
          refine gx_top (show ν b (nI (3 * t) + 1).toNatClampNeg = xs (3 * t + 1) by rw [k1]; exact hbx _ (by omega)) ?_
          refine gg_callV (hF) dc_L_law_464 ml_L_64 ce_F_correct ⟨Nat.le_of_ble_eq_true rfl, Nat.le_of_ble_eq_true rfl⟩ hf.1 rfl rfl (Nat.le_of_ble_eq_true rfl) ⟨Nat.le_of_ble_eq_true rfl, Nat.le_of_ble_eq_true rfl⟩ ?_
          rintro v μ9 ⟨ν2, rfl, rfl, h2⟩
          dsimp only [Option.toList, List.cons_append, List.nil_append]
          have hbx2 : ∀ j : Nat, j < L → mv_N ν2 (f + 126) X b j = xs j := fun j hj => by rw [mv_lo (by omega), h2.2 b (by omega)]; exact hbx j hj
          rw [em_of h2 hc]
          refine gg_aldn dc_L_law_467 rfl rfl ?_
          refine gg_aldn dc_L_law_468 rfl rfl ?_
          refine gg_ildn dc_L_law_469 rfl rfl ?_
          refine gg_iconst (v := 1) dc_L_law_470 (by decide) ?_
          refine gg_iadd dc_L_law_471 ?_
          refine gx_iald2 dc_L_law_472 hb (g1) ?_
          refine gx_top (show mv_N ν2 (f + 126) X b (nI (3 * t) + 1).toNatClampNeg = xs (3 * t + 1) by rw [k1]; exact hbx2 _ (by omega)) ?_
          refine gg_callV (hM ν2) dc_L_law_473 ml_L_67 ce_M_correct ⟨Nat.le_of_ble_eq_true rfl, Nat.le_of_ble_eq_true rfl⟩ hm.1 rfl rfl (Nat.le_of_ble_eq_true rfl) ⟨Nat.le_of_ble_eq_true rfl, Nat.le_of_ble_eq_true rfl⟩ ?_
          rintro v μ9 ⟨Y, rfl, rfl, hY⟩
          dsimp only [Option.toList, List.cons_append, List.nil_append]
          refine gg_iceq dc_L_law_476 (fun c_476 => ?_) (fun c_476 => ?_)
          · exact gg_c (nxt _ _ _ h2 hY hG1) rfl rfl
          · exact absurd rfl c_476
        | 13, ht9 =>
          cases ht9
          obtain ⟨r, X1, hG1, hF, hM⟩ := bo_keep (i := xs (3 * t + 1)) hf hm hR hG (by omega) hs
          refine gg_aldn dc_L_law_481 rfl rfl ?_
          refine gg_aldn dc_L_law_482 rfl rfl ?_
          refine gg_ildn dc_L_law_483 rfl rfl ?_
          refine gg_iconst (v := 1) dc_L_law_484 (by decide) ?_
          refine gg_iadd dc_L_law_485 ?_
          refine gx_iald2 dc_L_law_486 hb (g1) ?_
          refine gx_top (show ν b (nI (3 * t) + 1).toNatClampNeg = xs (3 * t + 1) by rw [k1]; exact hbx _ (by omega)) ?_
          refine gg_callV (hF) dc_L_law_487 ml_L_68 ce_F_keep ⟨Nat.le_of_ble_eq_true rfl, Nat.le_of_ble_eq_true rfl⟩ hf.1 rfl rfl (Nat.le_of_ble_eq_true rfl) ⟨Nat.le_of_ble_eq_true rfl, Nat.le_of_ble_eq_true rfl⟩ ?_
          rintro v μ9 ⟨ν2, rfl, rfl, h2⟩
          dsimp only [Option.toList, List.cons_append, List.nil_append]
          have hbx2 : ∀ j : Nat, j < L → mv_N ν2 (f + 126) X b j = xs j := fun j hj => by rw [mv_lo (by omega), h2.2 b (by omega)]; exact hbx j hj
          rw [em_of h2 hc]
          refine gg_aldn dc_L_law_490 rfl rfl ?_
          refine gg_aldn dc_L_law_491 rfl rfl ?_
          refine gg_ildn dc_L_law_492 rfl rfl ?_
          refine gg_iconst (v := 1) dc_L_law_493 (by decide) ?_
          refine gg_iadd dc_L_law_494 ?_
          refine gx_iald2 dc_L_law_495 hb (g1) ?_
          refine gx_top (show mv_N ν2 (f + 126) X b (nI (3 * t) + 1).toNatClampNeg = xs (3 * t + 1) by rw [k1]; exact hbx2 _ (by omega)) ?_
          refine gg_callV (hM ν2) dc_L_law_496 ml_L_71 ce_M_keep ⟨Nat.le_of_ble_eq_true rfl, Nat.le_of_ble_eq_true rfl⟩ hm.1 rfl rfl (Nat.le_of_ble_eq_true rfl) ⟨Nat.le_of_ble_eq_true rfl, Nat.le_of_ble_eq_true rfl⟩ ?_
          rintro v μ9 ⟨Y, rfl, rfl, hY⟩
          dsimp only [Option.toList, List.cons_append, List.nil_append]
          refine gg_iceq dc_L_law_499 (fun c_499 => ?_) (fun c_499 => ?_)
          · exact gg_c (nxt _ _ _ h2 hY hG1) rfl rfl
          · exact absurd rfl c_499
        | 14, ht9 =>
          cases ht9
          obtain ⟨r, X1, hG1, hF, hM⟩ := bo_back (i := xs (3 * t + 1)) hf hm hR hG (by omega) hs
          refine gg_aldn dc_L_law_504 rfl rfl ?_
          refine gg_aldn dc_L_law_505 rfl rfl ?_
          refine gg_ildn dc_L_law_506 rfl rfl ?_
          refine gg_iconst (v := 1) dc_L_law_507 (by decide) ?_
          refine gg_iadd dc_L_law_508 ?_
          refine gx_iald2 dc_L_law_509 hb (g1) ?_
          refine gx_top (show ν b (nI (3 * t) + 1).toNatClampNeg = xs (3 * t + 1) by rw [k1]; exact hbx _ (by omega)) ?_
          refine gg_callV (hF) dc_L_law_510 ml_L_72 ce_F_back ⟨Nat.le_of_ble_eq_true rfl, Nat.le_of_ble_eq_true rfl⟩ hf.1 rfl rfl (Nat.le_of_ble_eq_true rfl) ⟨Nat.le_of_ble_eq_true rfl, Nat.le_of_ble_eq_true rfl⟩ ?_
          rintro v μ9 ⟨ν2, rfl, rfl, h2⟩
          dsimp only [Option.toList, List.cons_append, List.nil_append]
          have hbx2 : ∀ j : Nat, j < L → mv_N ν2 (f + 126) X b j = xs j := fun j hj => by rw [mv_lo (by omega), h2.2 b (by omega)]; exact hbx j hj
          rw [em_of h2 hc]
          refine gg_aldn dc_L_law_513 rfl rfl ?_
          refine gg_aldn dc_L_law_514 rfl rfl ?_
          refine gg_ildn dc_L_law_515 rfl rfl ?_
          refine gg_iconst (v := 1) dc_L_law_516 (by decide) ?_
          refine gg_iadd dc_L_law_517 ?_
          refine gx_iald2 dc_L_law_518 hb (g1) ?_
          refine gx_top (show mv_N ν2 (f + 126) X b (nI (3 * t) + 1).toNatClampNeg = xs (3 * t + 1) by rw [k1]; exact hbx2 _ (by omega)) ?_
          refine gg_callV (hM ν2) dc_L_law_519 ml_L_75 ce_M_back ⟨Nat.le_of_ble_eq_true rfl, Nat.le_of_ble_eq_true rfl⟩ hm.1 rfl rfl (Nat.le_of_ble_eq_true rfl) ⟨Nat.le_of_ble_eq_true rfl, Nat.le_of_ble_eq_true rfl⟩ ?_
          rintro v μ9 ⟨Y, rfl, rfl, hY⟩
          dsimp only [Option.toList, List.cons_append, List.nil_append]
          refine gg_iceq dc_L_law_522 (fun c_522 => ?_) (fun c_522 => ?_)
          · exact gg_c (nxt _ _ _ h2 hY hG1) rfl rfl
          · exact absurd rfl c_522
        | 15, ht9 =>
          cases ht9
          obtain ⟨r, X1, hG1, hF, hM⟩ := bo_undo hf hm hR hG (by omega) hs
          refine gg_aldn dc_L_law_527 rfl rfl ?_
          refine gg_callV (hF) dc_L_law_528 ml_L_76 ce_F_undo ⟨Nat.le_of_ble_eq_true rfl, Nat.le_of_ble_eq_true rfl⟩ hf.1 rfl rfl (Nat.le_of_ble_eq_true rfl) ⟨Nat.le_of_ble_eq_true rfl, Nat.le_of_ble_eq_true rfl⟩ ?_
          rintro v μ9 ⟨ν2, rfl, rfl, h2⟩
          dsimp only [Option.toList, List.cons_append, List.nil_append]
          have hbx2 : ∀ j : Nat, j < L → mv_N ν2 (f + 126) X b j = xs j := fun j hj => by rw [mv_lo (by omega), h2.2 b (by omega)]; exact hbx j hj
          rw [em_of h2 hc]
          refine gg_aldn dc_L_law_531 rfl rfl ?_
          refine gg_callV (hM ν2) dc_L_law_532 ml_L_79 ce_M_undo ⟨Nat.le_of_ble_eq_true rfl, Nat.le_of_ble_eq_true rfl⟩ hm.1 rfl rfl (Nat.le_of_ble_eq_true rfl) ⟨Nat.le_of_ble_eq_true rfl, Nat.le_of_ble_eq_true rfl⟩ ?_
          rintro v μ9 ⟨Y, rfl, rfl, hY⟩
          dsimp only [Option.toList, List.cons_append, List.nil_append]
          refine gg_iceq dc_L_law_535 (fun c_535 => ?_) (fun c_535 => ?_)
          · exact gg_c (nxt _ _ _ h2 hY hG1) rfl rfl
          · exact absurd rfl c_535
        | 16, ht9 =>
          cases ht9
          obtain ⟨r, X1, hG1, hF, hM⟩ := bo_count (i := xs (3 * t + 1)) hf hm hR hG (by omega) hs
          refine gg_aldn dc_L_law_540 rfl rfl ?_
          refine gg_aldn dc_L_law_541 rfl rfl ?_
          refine gg_ildn dc_L_law_542 rfl rfl ?_
          refine gg_iconst (v := 1) dc_L_law_543 (by decide) ?_
          refine gg_iadd dc_L_law_544 ?_
          refine gx_iald2 dc_L_law_545 hb (g1) ?_
          refine gx_top (show ν b (nI (3 * t) + 1).toNatClampNeg = xs (3 * t + 1) by rw [k1]; exact hbx _ (by omega)) ?_
          refine gg_callV (hF) dc_L_law_546 ml_L_80 ce_F_count ⟨Nat.le_of_ble_eq_true rfl, Nat.le_of_ble_eq_true rfl⟩ hf.1 rfl rfl (Nat.le_of_ble_eq_true rfl) ⟨Nat.le_of_ble_eq_true rfl, Nat.le_of_ble_eq_true rfl⟩ ?_
          rintro v μ9 ⟨ν2, rfl, rfl, h2⟩
          dsimp only [Option.toList, List.cons_append, List.nil_append]
          have hbx2 : ∀ j : Nat, j < L → mv_N ν2 (f + 126) X b j = xs j := fun j hj => by rw [mv_lo (by omega), h2.2 b (by omega)]; exact hbx j hj
          rw [em_of h2 hc]
          refine gg_aldn dc_L_law_549 rfl rfl ?_
          refine gg_aldn dc_L_law_550 rfl rfl ?_
          refine gg_ildn dc_L_law_551 rfl rfl ?_
          refine gg_iconst (v := 1) dc_L_law_552 (by decide) ?_
          refine gg_iadd dc_L_law_553 ?_
          refine gx_iald2 dc_L_law_554 hb (g1) ?_
          refine gx_top (show mv_N ν2 (f + 126) X b (nI (3 * t) + 1).toNatClampNeg = xs (3 * t + 1) by rw [k1]; exact hbx2 _ (by omega)) ?_
          refine gg_callV (hM ν2) dc_L_law_555 ml_L_83 ce_M_count ⟨Nat.le_of_ble_eq_true rfl, Nat.le_of_ble_eq_true rfl⟩ hm.1 rfl rfl (Nat.le_of_ble_eq_true rfl) ⟨Nat.le_of_ble_eq_true rfl, Nat.le_of_ble_eq_true rfl⟩ ?_
          rintro v μ9 ⟨Y, rfl, rfl, hY⟩
          dsimp only [Option.toList, List.cons_append, List.nil_append]
          refine gg_iceq dc_L_law_558 (fun c_558 => ?_) (fun c_558 => ?_)
          · exact gg_c (nxt _ _ _ h2 hY hG1) rfl rfl
          · exact absurd rfl c_558
        | 17, ht9 =>
          cases ht9
          obtain ⟨r, X1, hG1, hF, hM⟩ := bo_account (i := xs (3 * t + 1)) hf hm hR hG (by omega) hs
          refine gg_aldn dc_L_law_563 rfl rfl ?_
          refine gg_aldn dc_L_law_564 rfl rfl ?_
          refine gg_ildn dc_L_law_565 rfl rfl ?_
          refine gg_iconst (v := 1) dc_L_law_566 (by decide) ?_
          refine gg_iadd dc_L_law_567 ?_
          refine gx_iald2 dc_L_law_568 hb (g1) ?_
          refine gx_top (show ν b (nI (3 * t) + 1).toNatClampNeg = xs (3 * t + 1) by rw [k1]; exact hbx _ (by omega)) ?_
          refine gg_callV (hF) dc_L_law_569 ml_L_84 ce_F_account ⟨Nat.le_of_ble_eq_true rfl, Nat.le_of_ble_eq_true rfl⟩ hf.1 rfl rfl (Nat.le_of_ble_eq_true rfl) ⟨Nat.le_of_ble_eq_true rfl, Nat.le_of_ble_eq_true rfl⟩ ?_
          rintro v μ9 ⟨ν2, rfl, rfl, h2⟩
          dsimp only [Option.toList, List.cons_append, List.nil_append]
          have hbx2 : ∀ j : Nat, j < L → mv_N ν2 (f + 126) X b j = xs j := fun j hj => by rw [mv_lo (by omega), h2.2 b (by omega)]; exact hbx j hj
          rw [em_of h2 hc]
          refine gg_aldn dc_L_law_572 rfl rfl ?_
          refine gg_aldn dc_L_law_573 rfl rfl ?_
          refine gg_ildn dc_L_law_574 rfl rfl ?_
          refine gg_iconst (v := 1) dc_L_law_575 (by decide) ?_
          refine gg_iadd dc_L_law_576 ?_
          refine gx_iald2 dc_L_law_577 hb (g1) ?_
          refine gx_top (show mv_N ν2 (f + 126) X b (nI (3 * t) + 1).toNatClampNeg = xs (3 * t + 1) by rw [k1]; exact hbx2 _ (by omega)) ?_
          refine gg_callV (hM ν2) dc_L_law_578 ml_L_87 ce_M_account ⟨Nat.le_of_ble_eq_true rfl, Nat.le_of_ble_eq_true rfl⟩ hm.1 rfl rfl (Nat.le_of_ble_eq_true rfl) ⟨Nat.le_of_ble_eq_true rfl, Nat.le_of_ble_eq_true rfl⟩ ?_
          rintro v μ9 ⟨Y, rfl, rfl, hY⟩
          dsimp only [Option.toList, List.cons_append, List.nil_append]
          refine gg_iceq dc_L_law_581 (fun c_581 => ?_) (fun c_581 => ?_)
          · exact gg_c (nxt _ _ _ h2 hY hG1) rfl rfl
          · exact absurd rfl c_581
        | 18, ht9 =>
          cases ht9
          obtain ⟨r, X1, hG1, hF, hM⟩ := bo_loadAt (x := xs (3 * t + 1)) hf hm hR hG (by omega) hs
          refine gg_aldn dc_L_law_586 rfl rfl ?_
          refine gg_aldn dc_L_law_587 rfl rfl ?_
          refine gg_ildn dc_L_law_588 rfl rfl ?_
          refine gg_iconst (v := 1) dc_L_law_589 (by decide) ?_
          refine gg_iadd dc_L_law_590 ?_
          refine gx_iald2 dc_L_law_591 hb (g1) ?_
          refine gx_top (show ν b (nI (3 * t) + 1).toNatClampNeg = xs (3 * t + 1) by rw [k1]; exact hbx _ (by omega)) ?_
          refine gg_callV (hF) dc_L_law_592 ml_L_88 ce_F_loadAt ⟨Nat.le_of_ble_eq_true rfl, Nat.le_of_ble_eq_true rfl⟩ hf.1 rfl rfl (Nat.le_of_ble_eq_true rfl) ⟨Nat.le_of_ble_eq_true rfl, Nat.le_of_ble_eq_true rfl⟩ ?_
          rintro v μ9 ⟨ν2, rfl, rfl, h2⟩
          dsimp only [Option.toList, List.cons_append, List.nil_append]
          have hbx2 : ∀ j : Nat, j < L → mv_N ν2 (f + 126) X b j = xs j := fun j hj => by rw [mv_lo (by omega), h2.2 b (by omega)]; exact hbx j hj
          rw [em_of h2 hc]
          refine gg_aldn dc_L_law_595 rfl rfl ?_
          refine gg_aldn dc_L_law_596 rfl rfl ?_
          refine gg_ildn dc_L_law_597 rfl rfl ?_
          refine gg_iconst (v := 1) dc_L_law_598 (by decide) ?_
          refine gg_iadd dc_L_law_599 ?_
          refine gx_iald2 dc_L_law_600 hb (g1) ?_
          refine gx_top (show mv_N ν2 (f + 126) X b (nI (3 * t) + 1).toNatClampNeg = xs (3 * t + 1) by rw [k1]; exact hbx2 _ (by omega)) ?_
          refine gg_callV (hM ν2) dc_L_law_601 ml_L_91 ce_M_loadAt ⟨Nat.le_of_ble_eq_true rfl, Nat.le_of_ble_eq_true rfl⟩ hm.1 rfl rfl (Nat.le_of_ble_eq_true rfl) ⟨Nat.le_of_ble_eq_true rfl, Nat.le_of_ble_eq_true rfl⟩ ?_
          rintro v μ9 ⟨Y, rfl, rfl, hY⟩
          dsimp only [Option.toList, List.cons_append, List.nil_append]
          refine gg_iceq dc_L_law_604 (fun c_604 => ?_) (fun c_604 => ?_)
          · exact gg_c (nxt _ _ _ h2 hY hG1) rfl rfl
          · exact absurd rfl c_604
        | 19, ht9 =>
          cases ht9
          obtain ⟨r, X1, hG1, hF, hM⟩ := bo_errorAt (x := xs (3 * t + 1)) hf hm hR hG (by omega) hs
          refine gg_aldn dc_L_law_609 rfl rfl ?_
          refine gg_aldn dc_L_law_610 rfl rfl ?_
          refine gg_ildn dc_L_law_611 rfl rfl ?_
          refine gg_iconst (v := 1) dc_L_law_612 (by decide) ?_
          refine gg_iadd dc_L_law_613 ?_
          refine gx_iald2 dc_L_law_614 hb (g1) ?_
          refine gx_top (show ν b (nI (3 * t) + 1).toNatClampNeg = xs (3 * t + 1) by rw [k1]; exact hbx _ (by omega)) ?_
          refine gg_callV (hF) dc_L_law_615 ml_L_92 ce_F_errorAt ⟨Nat.le_of_ble_eq_true rfl, Nat.le_of_ble_eq_true rfl⟩ hf.1 rfl rfl (Nat.le_of_ble_eq_true rfl) ⟨Nat.le_of_ble_eq_true rfl, Nat.le_of_ble_eq_true rfl⟩ ?_
          rintro v μ9 ⟨ν2, rfl, rfl, h2⟩
          dsimp only [Option.toList, List.cons_append, List.nil_append]
          have hbx2 : ∀ j : Nat, j < L → mv_N ν2 (f + 126) X b j = xs j := fun j hj => by rw [mv_lo (by omega), h2.2 b (by omega)]; exact hbx j hj
          rw [em_of h2 hc]
          refine gg_aldn dc_L_law_618 rfl rfl ?_
          refine gg_aldn dc_L_law_619 rfl rfl ?_
          refine gg_ildn dc_L_law_620 rfl rfl ?_
          refine gg_iconst (v := 1) dc_L_law_621 (by decide) ?_
          refine gg_iadd dc_L_law_622 ?_
          refine gx_iald2 dc_L_law_623 hb (g1) ?_
          refine gx_top (show mv_N ν2 (f + 126) X b (nI (3 * t) + 1).toNatClampNeg = xs (3 * t + 1) by rw [k1]; exact hbx2 _ (by omega)) ?_
          refine gg_callV (hM ν2) dc_L_law_624 ml_L_95 ce_M_errorAt ⟨Nat.le_of_ble_eq_true rfl, Nat.le_of_ble_eq_true rfl⟩ hm.1 rfl rfl (Nat.le_of_ble_eq_true rfl) ⟨Nat.le_of_ble_eq_true rfl, Nat.le_of_ble_eq_true rfl⟩ ?_
          rintro v μ9 ⟨Y, rfl, rfl, hY⟩
          dsimp only [Option.toList, List.cons_append, List.nil_append]
          refine gg_iceq dc_L_law_627 (fun c_627 => ?_) (fun c_627 => ?_)
          · exact gg_c (nxt _ _ _ h2 hY hG1) rfl rfl
          · exact absurd rfl c_627
        | 20, ht9 =>
          cases ht9
          obtain ⟨r, X1, hG1, hF, hM⟩ := bo_command (i := xs (3 * t + 1)) (w := xs (3 * t + 2)) hf hm hR hG (by omega) hs
          refine gg_aldn dc_L_law_632 rfl rfl ?_
          refine gg_aldn dc_L_law_633 rfl rfl ?_
          refine gg_ildn dc_L_law_634 rfl rfl ?_
          refine gg_iconst (v := 1) dc_L_law_635 (by decide) ?_
          refine gg_iadd dc_L_law_636 ?_
          refine gx_iald2 dc_L_law_637 hb (g1) ?_
          refine gx_top (show ν b (nI (3 * t) + 1).toNatClampNeg = xs (3 * t + 1) by rw [k1]; exact hbx _ (by omega)) ?_
          refine gg_aldn dc_L_law_638 rfl rfl ?_
          refine gg_ildn dc_L_law_639 rfl rfl ?_
          refine gg_iconst (v := 2) dc_L_law_640 (by decide) ?_
          refine gg_iadd dc_L_law_641 ?_
          refine gx_iald2 dc_L_law_642 hb (g2) ?_
          refine gx_top (show ν b (nI (3 * t) + 2).toNatClampNeg = xs (3 * t + 2) by rw [k2]; exact hbx _ (by omega)) ?_
          refine gg_callV (hF) dc_L_law_643 ml_L_96 ce_F_command ⟨Nat.le_of_ble_eq_true rfl, Nat.le_of_ble_eq_true rfl⟩ hf.1 rfl rfl (Nat.le_of_ble_eq_true rfl) ⟨Nat.le_of_ble_eq_true rfl, Nat.le_of_ble_eq_true rfl⟩ ?_
          rintro v μ9 ⟨ν2, rfl, rfl, h2⟩
          dsimp only [Option.toList, List.cons_append, List.nil_append]
          have hbx2 : ∀ j : Nat, j < L → mv_N ν2 (f + 126) X b j = xs j := fun j hj => by rw [mv_lo (by omega), h2.2 b (by omega)]; exact hbx j hj
          rw [em_of h2 hc]
          refine gg_aldn dc_L_law_646 rfl rfl ?_
          refine gg_aldn dc_L_law_647 rfl rfl ?_
          refine gg_ildn dc_L_law_648 rfl rfl ?_
          refine gg_iconst (v := 1) dc_L_law_649 (by decide) ?_
          refine gg_iadd dc_L_law_650 ?_
          refine gx_iald2 dc_L_law_651 hb (g1) ?_
          refine gx_top (show mv_N ν2 (f + 126) X b (nI (3 * t) + 1).toNatClampNeg = xs (3 * t + 1) by rw [k1]; exact hbx2 _ (by omega)) ?_
          refine gg_aldn dc_L_law_652 rfl rfl ?_
          refine gg_ildn dc_L_law_653 rfl rfl ?_
          refine gg_iconst (v := 2) dc_L_law_654 (by decide) ?_
          refine gg_iadd dc_L_law_655 ?_
          refine gx_iald2 dc_L_law_656 hb (g2) ?_
          refine gx_top (show mv_N ν2 (f + 126) X b (nI (3 * t) + 2).toNatClampNeg = xs (3 * t + 2) by rw [k2]; exact hbx2 _ (by omega)) ?_
          refine gg_callV (hM ν2) dc_L_law_657 ml_L_99 ce_M_command ⟨Nat.le_of_ble_eq_true rfl, Nat.le_of_ble_eq_true rfl⟩ hm.1 rfl rfl (Nat.le_of_ble_eq_true rfl) ⟨Nat.le_of_ble_eq_true rfl, Nat.le_of_ble_eq_true rfl⟩ ?_
          rintro v μ9 ⟨Y, rfl, rfl, hY⟩
          dsimp only [Option.toList, List.cons_append, List.nil_append]
          refine gg_iceq dc_L_law_660 (fun c_660 => ?_) (fun c_660 => ?_)
          · exact gg_c (nxt _ _ _ h2 hY hG1) rfl rfl
          · exact absurd rfl c_660
        | 21, ht9 =>
          cases ht9
          obtain ⟨r, X1, hG1, hF, hM⟩ := bo_flag (w := xs (3 * t + 1)) hf hm hR hG (by omega) hs
          refine gg_aldn dc_L_law_665 rfl rfl ?_
          refine gg_aldn dc_L_law_666 rfl rfl ?_
          refine gg_ildn dc_L_law_667 rfl rfl ?_
          refine gg_iconst (v := 1) dc_L_law_668 (by decide) ?_
          refine gg_iadd dc_L_law_669 ?_
          refine gx_iald2 dc_L_law_670 hb (g1) ?_
          refine gx_top (show ν b (nI (3 * t) + 1).toNatClampNeg = xs (3 * t + 1) by rw [k1]; exact hbx _ (by omega)) ?_
          refine gg_callV (hF) dc_L_law_671 ml_L_100 ce_F_flag ⟨Nat.le_of_ble_eq_true rfl, Nat.le_of_ble_eq_true rfl⟩ hf.1 rfl rfl (Nat.le_of_ble_eq_true rfl) ⟨Nat.le_of_ble_eq_true rfl, Nat.le_of_ble_eq_true rfl⟩ ?_
          rintro v μ9 ⟨ν2, rfl, rfl, h2⟩
          dsimp only [Option.toList, List.cons_append, List.nil_append]
          have hbx2 : ∀ j : Nat, j < L → mv_N ν2 (f + 126) X b j = xs j := fun j hj => by rw [mv_lo (by omega), h2.2 b (by omega)]; exact hbx j hj
          rw [em_of h2 hc]
          refine gg_aldn dc_L_law_674 rfl rfl ?_
          refine gg_aldn dc_L_law_675 rfl rfl ?_
          refine gg_ildn dc_L_law_676 rfl rfl ?_
          refine gg_iconst (v := 1) dc_L_law_677 (by decide) ?_
          refine gg_iadd dc_L_law_678 ?_
          refine gx_iald2 dc_L_law_679 hb (g1) ?_
          refine gx_top (show mv_N ν2 (f + 126) X b (nI (3 * t) + 1).toNatClampNeg = xs (3 * t + 1) by rw [k1]; exact hbx2 _ (by omega)) ?_
          refine gg_callV (hM ν2) dc_L_law_680 ml_L_103 ce_M_flag ⟨Nat.le_of_ble_eq_true rfl, Nat.le_of_ble_eq_true rfl⟩ hm.1 rfl rfl (Nat.le_of_ble_eq_true rfl) ⟨Nat.le_of_ble_eq_true rfl, Nat.le_of_ble_eq_true rfl⟩ ?_
          rintro v μ9 ⟨Y, rfl, rfl, hY⟩
          dsimp only [Option.toList, List.cons_append, List.nil_append]
          refine gg_iceq dc_L_law_683 (fun c_683 => ?_) (fun c_683 => ?_)
          · exact gg_c (nxt _ _ _ h2 hY hG1) rfl rfl
          · exact absurd rfl c_683
        | 22, ht9 =>
          cases ht9
          obtain ⟨r, X1, hG1, hF, hM⟩ := bo_why (x := xs (3 * t + 1)) hf hm hR hG (by omega) hs
          refine gg_aldn dc_L_law_688 rfl rfl ?_
          refine gg_aldn dc_L_law_689 rfl rfl ?_
          refine gg_ildn dc_L_law_690 rfl rfl ?_
          refine gg_iconst (v := 1) dc_L_law_691 (by decide) ?_
          refine gg_iadd dc_L_law_692 ?_
          refine gx_iald2 dc_L_law_693 hb (g1) ?_
          refine gx_top (show ν b (nI (3 * t) + 1).toNatClampNeg = xs (3 * t + 1) by rw [k1]; exact hbx _ (by omega)) ?_
          refine gg_callV (hF) dc_L_law_694 ml_L_104 ce_F_why ⟨Nat.le_of_ble_eq_true rfl, Nat.le_of_ble_eq_true rfl⟩ hf.1 rfl rfl (Nat.le_of_ble_eq_true rfl) ⟨Nat.le_of_ble_eq_true rfl, Nat.le_of_ble_eq_true rfl⟩ ?_
          rintro v μ9 ⟨ν2, rfl, rfl, h2⟩
          dsimp only [Option.toList, List.cons_append, List.nil_append]
          have hbx2 : ∀ j : Nat, j < L → mv_N ν2 (f + 126) X b j = xs j := fun j hj => by rw [mv_lo (by omega), h2.2 b (by omega)]; exact hbx j hj
          rw [em_of h2 hc]
          refine gg_aldn dc_L_law_697 rfl rfl ?_
          refine gg_aldn dc_L_law_698 rfl rfl ?_
          refine gg_ildn dc_L_law_699 rfl rfl ?_
          refine gg_iconst (v := 1) dc_L_law_700 (by decide) ?_
          refine gg_iadd dc_L_law_701 ?_
          refine gx_iald2 dc_L_law_702 hb (g1) ?_
          refine gx_top (show mv_N ν2 (f + 126) X b (nI (3 * t) + 1).toNatClampNeg = xs (3 * t + 1) by rw [k1]; exact hbx2 _ (by omega)) ?_
          refine gg_callV (hM ν2) dc_L_law_703 ml_L_107 ce_M_why ⟨Nat.le_of_ble_eq_true rfl, Nat.le_of_ble_eq_true rfl⟩ hm.1 rfl rfl (Nat.le_of_ble_eq_true rfl) ⟨Nat.le_of_ble_eq_true rfl, Nat.le_of_ble_eq_true rfl⟩ ?_
          rintro v μ9 ⟨Y, rfl, rfl, hY⟩
          dsimp only [Option.toList, List.cons_append, List.nil_append]
          refine gg_iceq dc_L_law_706 (fun c_706 => ?_) (fun c_706 => ?_)
          · exact gg_c (nxt _ _ _ h2 hY hG1) rfl rfl
          · exact absurd rfl c_706
        | 23, ht9 =>
          cases ht9
          obtain ⟨r, X1, hG1, hF, hM⟩ := bo_losses (x := xs (3 * t + 1)) (y := xs (3 * t + 2)) hf hm hR hG (by omega) hs
          refine gg_aldn dc_L_law_711 rfl rfl ?_
          refine gg_aldn dc_L_law_712 rfl rfl ?_
          refine gg_ildn dc_L_law_713 rfl rfl ?_
          refine gg_iconst (v := 1) dc_L_law_714 (by decide) ?_
          refine gg_iadd dc_L_law_715 ?_
          refine gx_iald2 dc_L_law_716 hb (g1) ?_
          refine gx_top (show ν b (nI (3 * t) + 1).toNatClampNeg = xs (3 * t + 1) by rw [k1]; exact hbx _ (by omega)) ?_
          refine gg_aldn dc_L_law_717 rfl rfl ?_
          refine gg_ildn dc_L_law_718 rfl rfl ?_
          refine gg_iconst (v := 2) dc_L_law_719 (by decide) ?_
          refine gg_iadd dc_L_law_720 ?_
          refine gx_iald2 dc_L_law_721 hb (g2) ?_
          refine gx_top (show ν b (nI (3 * t) + 2).toNatClampNeg = xs (3 * t + 2) by rw [k2]; exact hbx _ (by omega)) ?_
          refine gg_callV (hF) dc_L_law_722 ml_L_108 ce_F_losses ⟨Nat.le_of_ble_eq_true rfl, Nat.le_of_ble_eq_true rfl⟩ hf.1 rfl rfl (Nat.le_of_ble_eq_true rfl) ⟨Nat.le_of_ble_eq_true rfl, Nat.le_of_ble_eq_true rfl⟩ ?_
          rintro v μ9 ⟨ν2, rfl, rfl, h2⟩
          dsimp only [Option.toList, List.cons_append, List.nil_append]
          have hbx2 : ∀ j : Nat, j < L → mv_N ν2 (f + 126) X b j = xs j := fun j hj => by rw [mv_lo (by omega), h2.2 b (by omega)]; exact hbx j hj
          rw [em_of h2 hc]
          refine gg_aldn dc_L_law_725 rfl rfl ?_
          refine gg_aldn dc_L_law_726 rfl rfl ?_
          refine gg_ildn dc_L_law_727 rfl rfl ?_
          refine gg_iconst (v := 1) dc_L_law_728 (by decide) ?_
          refine gg_iadd dc_L_law_729 ?_
          refine gx_iald2 dc_L_law_730 hb (g1) ?_
          refine gx_top (show mv_N ν2 (f + 126) X b (nI (3 * t) + 1).toNatClampNeg = xs (3 * t + 1) by rw [k1]; exact hbx2 _ (by omega)) ?_
          refine gg_aldn dc_L_law_731 rfl rfl ?_
          refine gg_ildn dc_L_law_732 rfl rfl ?_
          refine gg_iconst (v := 2) dc_L_law_733 (by decide) ?_
          refine gg_iadd dc_L_law_734 ?_
          refine gx_iald2 dc_L_law_735 hb (g2) ?_
          refine gx_top (show mv_N ν2 (f + 126) X b (nI (3 * t) + 2).toNatClampNeg = xs (3 * t + 2) by rw [k2]; exact hbx2 _ (by omega)) ?_
          refine gg_callV (hM ν2) dc_L_law_736 ml_L_111 ce_M_losses ⟨Nat.le_of_ble_eq_true rfl, Nat.le_of_ble_eq_true rfl⟩ hm.1 rfl rfl (Nat.le_of_ble_eq_true rfl) ⟨Nat.le_of_ble_eq_true rfl, Nat.le_of_ble_eq_true rfl⟩ ?_
          rintro v μ9 ⟨Y, rfl, rfl, hY⟩
          dsimp only [Option.toList, List.cons_append, List.nil_append]
          refine gg_iceq dc_L_law_739 (fun c_739 => ?_) (fun c_739 => ?_)
          · exact gg_c (nxt _ _ _ h2 hY hG1) rfl rfl
          · exact absurd rfl c_739
        | 24, ht9 =>
          cases ht9
          obtain ⟨r, X1, hG1, hF, hM⟩ := bo_fastest (x := xs (3 * t + 1)) hf hm hR hG (by omega) hs
          refine gg_aldn dc_L_law_744 rfl rfl ?_
          refine gg_aldn dc_L_law_745 rfl rfl ?_
          refine gg_ildn dc_L_law_746 rfl rfl ?_
          refine gg_iconst (v := 1) dc_L_law_747 (by decide) ?_
          refine gg_iadd dc_L_law_748 ?_
          refine gx_iald2 dc_L_law_749 hb (g1) ?_
          refine gx_top (show ν b (nI (3 * t) + 1).toNatClampNeg = xs (3 * t + 1) by rw [k1]; exact hbx _ (by omega)) ?_
          refine gg_callV (hF) dc_L_law_750 ml_L_112 ce_F_fastest ⟨Nat.le_of_ble_eq_true rfl, Nat.le_of_ble_eq_true rfl⟩ hf.1 rfl rfl (Nat.le_of_ble_eq_true rfl) ⟨Nat.le_of_ble_eq_true rfl, Nat.le_of_ble_eq_true rfl⟩ ?_
          rintro v μ9 ⟨ν2, rfl, rfl, h2⟩
          dsimp only [Option.toList, List.cons_append, List.nil_append]
          have hbx2 : ∀ j : Nat, j < L → mv_N ν2 (f + 126) X b j = xs j := fun j hj => by rw [mv_lo (by omega), h2.2 b (by omega)]; exact hbx j hj
          rw [em_of h2 hc]
          refine gg_aldn dc_L_law_753 rfl rfl ?_
          refine gg_aldn dc_L_law_754 rfl rfl ?_
          refine gg_ildn dc_L_law_755 rfl rfl ?_
          refine gg_iconst (v := 1) dc_L_law_756 (by decide) ?_
          refine gg_iadd dc_L_law_757 ?_
          refine gx_iald2 dc_L_law_758 hb (g1) ?_
          refine gx_top (show mv_N ν2 (f + 126) X b (nI (3 * t) + 1).toNatClampNeg = xs (3 * t + 1) by rw [k1]; exact hbx2 _ (by omega)) ?_
          refine gg_callV (hM ν2) dc_L_law_759 ml_L_115 ce_M_fastest ⟨Nat.le_of_ble_eq_true rfl, Nat.le_of_ble_eq_true rfl⟩ hm.1 rfl rfl (Nat.le_of_ble_eq_true rfl) ⟨Nat.le_of_ble_eq_true rfl, Nat.le_of_ble_eq_true rfl⟩ ?_
          rintro v μ9 ⟨Y, rfl, rfl, hY⟩
          dsimp only [Option.toList, List.cons_append, List.nil_append]
          refine gg_iceq dc_L_law_762 (fun c_762 => ?_) (fun c_762 => ?_)
          · exact gg_c (nxt _ _ _ h2 hY hG1) rfl rfl
          · exact absurd rfl c_762
        | 25, ht9 =>
          cases ht9
          obtain ⟨r, X1, hG1, hF, hM⟩ := bo_counter (w := xs (3 * t + 1)) hf hm hR hG (by omega) hs
          refine gg_aldn dc_L_law_767 rfl rfl ?_
          refine gg_aldn dc_L_law_768 rfl rfl ?_
          refine gg_ildn dc_L_law_769 rfl rfl ?_
          refine gg_iconst (v := 1) dc_L_law_770 (by decide) ?_
          refine gg_iadd dc_L_law_771 ?_
          refine gx_iald2 dc_L_law_772 hb (g1) ?_
          refine gx_top (show ν b (nI (3 * t) + 1).toNatClampNeg = xs (3 * t + 1) by rw [k1]; exact hbx _ (by omega)) ?_
          refine gg_callV (hF) dc_L_law_773 ml_L_116 ce_F_counter ⟨Nat.le_of_ble_eq_true rfl, Nat.le_of_ble_eq_true rfl⟩ hf.1 rfl rfl (Nat.le_of_ble_eq_true rfl) ⟨Nat.le_of_ble_eq_true rfl, Nat.le_of_ble_eq_true rfl⟩ ?_
          rintro v μ9 ⟨ν2, rfl, rfl, h2⟩
          dsimp only [Option.toList, List.cons_append, List.nil_append]
          have hbx2 : ∀ j : Nat, j < L → mv_N ν2 (f + 126) X b j = xs j := fun j hj => by rw [mv_lo (by omega), h2.2 b (by omega)]; exact hbx j hj
          rw [em_of h2 hc]
          refine gg_aldn dc_L_law_776 rfl rfl ?_
          refine gg_aldn dc_L_law_777 rfl rfl ?_
          refine gg_ildn dc_L_law_778 rfl rfl ?_
          refine gg_iconst (v := 1) dc_L_law_779 (by decide) ?_
          refine gg_iadd dc_L_law_780 ?_
          refine gx_iald2 dc_L_law_781 hb (g1) ?_
          refine gx_top (show mv_N ν2 (f + 126) X b (nI (3 * t) + 1).toNatClampNeg = xs (3 * t + 1) by rw [k1]; exact hbx2 _ (by omega)) ?_
          refine gg_callV (hM ν2) dc_L_law_782 ml_L_119 ce_M_counter ⟨Nat.le_of_ble_eq_true rfl, Nat.le_of_ble_eq_true rfl⟩ hm.1 rfl rfl (Nat.le_of_ble_eq_true rfl) ⟨Nat.le_of_ble_eq_true rfl, Nat.le_of_ble_eq_true rfl⟩ ?_
          rintro v μ9 ⟨Y, rfl, rfl, hY⟩
          dsimp only [Option.toList, List.cons_append, List.nil_append]
          refine gg_iceq dc_L_law_785 (fun c_785 => ?_) (fun c_785 => ?_)
          · exact gg_c (nxt _ _ _ h2 hY hG1) rfl rfl
          · exact absurd rfl c_785
        | n9 + 26, ht9 => exact absurd ht9 (by simp)
      · have h2 : RF ν f X ν := RF.id hR
        have hY : sm_M X X := sm_a rfl
        have hG1 : GI X (700000 * (t : Int) + 700000) := hG.w (by omega)
        rw [em_of h2 hc]
        exact gg_c (nxt _ _ _ h2 hY hG1) rfl rfl
