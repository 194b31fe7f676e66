/-! p29: what the law does with an object: one of its calls, by the digits of an int -/
theorem an_0 {w : Int32} : 0 ≤ (w &&& 2147483647).toInt := by
  have h : (w &&& 2147483647).toBitVec.msb = false := by
    show (w.toBitVec &&& 2147483647#32).msb = false
    rw [BitVec.msb_and, show (2147483647#32).msb = false by decide, Bool.and_false]
  show 0 ≤ (w &&& 2147483647).toBitVec.toInt
  rw [BitVec.toInt_eq_msb_cond, h]
  simp
theorem lw_rg {w n : Int32} (hn : 0 < n.toInt) : 0 ≤ (lw_I w n).toInt ∧ (lw_I w n).toInt < n.toInt := by
  unfold lw_I
  have h := an_0 (w := w)
  rw [rem_toInt, Int.tmod_eq_emod_of_nonneg h]
  exact ⟨Int.emod_nonneg _ (by omega), Int.emod_lt_of_pos _ hn⟩
theorem pl_rg {w : Int32} : -400 ≤ (lw_I w 801 - 400).toInt ∧ (lw_I w 801 - 400).toInt ≤ 400 := by
  have h := lw_rg (w := w) (n := 801) (by decide)
  rw [show (801 : Int32).toInt = 801 by decide] at h
  have e : (400 : Int32).toInt = 400 := by decide
  rw [ti_sub (by omega), e]
  omega
theorem fl_rg {p w : Int32} (hp : -400 ≤ p.toInt ∧ p.toInt ≤ 400) : -500 ≤ (p + 1 + lw_I w 100).toInt ∧ (p + 1 + lw_I w 100).toInt ≤ 500 := by
  have h := lw_rg (w := w) (n := 100) (by decide)
  rw [show (100 : Int32).toInt = 100 by decide] at h
  have e : (1 : Int32).toInt = 1 := by decide
  have e1 : (p + 1).toInt = p.toInt + 1 := by rw [ti_add (by omega), e]
  rw [ti_add (by omega), e1]
  omega
theorem co_rg {w : Int32} : -1000 ≤ (lw_I w 100 - 50).toInt ∧ (lw_I w 100 - 50).toInt ≤ 1000 := by
  have h := lw_rg (w := w) (n := 100) (by decide)
  rw [show (100 : Int32).toInt = 100 by decide] at h
  have e : (50 : Int32).toInt = 50 := by decide
  rw [ti_sub (by omega), e]
  omega
theorem rn_3 {w : Int32} : ∃ k : Nat, k ≤ 3 ∧ 1 + lw_I w 3 = nI k := by
  have h := lw_rg (w := w) (n := 3) (by decide)
  rw [show (3 : Int32).toInt = 3 by decide] at h
  have e : (1 : Int32).toInt = 1 := by decide
  refine ⟨(1 + (lw_I w 3).toInt).toNat, by omega, ?_⟩
  rw [ti_eq, ti_add (by omega), nI_toInt (by omega), e]
  omega
def DE (X : Nat → Nat → Int32) (n : Nat) (r : Int32) (X1 : Nat → Nat → Int32) : Prop := (r.toInt ≤ -500000 ∧ X1 = X) ∨ (-500000 < r.toInt ∧ ∃ T : Nat → Int32, X1 = va_up (nt_X X) 1 T ∧ WV T (n + 1))
theorem DR.e {X X1 : Nat → Nat → Int32} {n : Nat} {r : Int32} (h : DR X n r X1) : DE X n r X1 := by
  rcases h with ⟨h1, h2, h3⟩ | ⟨h1, h2, h3⟩
  · exact Or.inl ⟨by omega, h3⟩
  · exact Or.inr ⟨by omega, h3⟩
theorem DR.of {X X1 : Nat → Nat → Int32} {n : Nat} {r o : Int32} (h : DR X n r X1) (ho : 0 ≤ o.toInt ∧ o.toInt ≤ 200000) : DE X n (r + o) X1 := by
  unfold DE
  rcases h with ⟨h1, h2, h3⟩ | ⟨h1, h2, h3⟩
  · rw [ti_add (by omega)]; exact Or.inl ⟨by omega, h3⟩
  · rw [ti_add (by omega)]; exact Or.inr ⟨by omega, h3⟩
set_option maxRecDepth 100000 in
set_option maxHeartbeats 4000000 in
theorem sp_L_does {Γ : cx_T} {τ : Nat × (Nat → sh_T)} {ν : Nat → Nat → Int32} {f : Nat} {X : Nat → Nat → Int32} {n : Nat} (hf : sh_F τ.2 f) (h : RL ν f X) (hG : GP X n) (hn : n ≤ 33) (hs : st_P Γ τ ν) {y : Int32} : mt_P Γ mk_L_does [.ref f, .int y] (τ, ν) (fun v μ' => ∃ (r : Int32) (X1 ν' : Nat → Nat → Int32), v = some (.int r) ∧ μ' = (τ, ν') ∧ RF ν f X1 ν' ∧ DE X n r X1) := by
  refine mt_of (L := [some (.ref f), some (.int y), none]) (by decide +kernel) (by simp [Value.category]) (Nat.le_of_ble_eq_true rfl) (lc_2_3 ()) ?_
  refine gg_ildn dc_L_does_0 rfl rfl ?_
  refine gg_iconst (v := 4) dc_L_does_1 (by decide) ?_
  refine gg_ishr dc_L_does_2 ?_
  refine gg_sipush (v := 801) dc_L_does_3 (by decide) ?_
  refine gg_okS (sp_L_low (by decide)) dc_L_does_6 ml_L_42 ce_L_low ⟨Nat.le_of_ble_eq_true rfl, Nat.le_of_ble_eq_true rfl⟩ rfl (Nat.le_of_ble_eq_true rfl) ⟨rfl, rfl⟩ ⟨Nat.le_of_ble_eq_true rfl, Nat.le_of_ble_eq_true rfl⟩ ?_
  refine gg_sipush (v := 400) dc_L_does_9 (by decide) ?_
  refine gg_isub dc_L_does_12 ?_
  refine gg_istn (i := 2) dc_L_does_13 rfl (Nat.le_of_ble_eq_true rfl) rfl ?_
  dsimp only [List.set]
  have hp := pl_rg (w := y >>> (4 &&& 31))
  generalize lw_I (y >>> (4 &&& 31)) 801 - 400 = p at hp ⊢
  refine gg_ildn dc_L_does_14 rfl rfl ?_
  refine gg_bipush (v := 15) dc_L_does_15 (by decide) ?_
  refine gg_iand dc_L_does_17 ?_
  refine gg_tab [80, 102, 117, 117, 135, 158, 177, 190, 203, 222, 237, 251] dc_L_does_18 (fun i9 t9 hi9 ht9 => ?_) (fun hout => ?_)
  · match i9, ht9 with
    | 0, ht9 =>
      cases ht9
      refine gg_aldn dc_L_does_80 rfl rfl ?_
      refine gg_ildn dc_L_does_81 rfl rfl ?_
      refine gg_iconst (v := 4) dc_L_does_82 (by decide) ?_
      refine gg_ishr dc_L_does_83 ?_
      refine gg_bipush (v := 6) dc_L_does_84 (by decide) ?_
      refine gg_okS (sp_L_low (by decide)) dc_L_does_86 ml_L_42 ce_L_low ⟨Nat.le_of_ble_eq_true rfl, Nat.le_of_ble_eq_true rfl⟩ rfl (Nat.le_of_ble_eq_true rfl) ⟨rfl, rfl⟩ ⟨Nat.le_of_ble_eq_true rfl, Nat.le_of_ble_eq_true rfl⟩ ?_
      refine gg_ildn dc_L_does_89 rfl rfl ?_
      refine gg_bipush (v := 7) dc_L_does_90 (by decide) ?_
      refine gg_ishr dc_L_does_92 ?_
      refine gg_bipush (v := 60) dc_L_does_93 (by decide) ?_
      refine gg_okS (sp_L_low (by decide)) dc_L_does_95 ml_L_42 ce_L_low ⟨Nat.le_of_ble_eq_true rfl, Nat.le_of_ble_eq_true rfl⟩ rfl (Nat.le_of_ble_eq_true rfl) ⟨rfl, rfl⟩ ⟨Nat.le_of_ble_eq_true rfl, Nat.le_of_ble_eq_true rfl⟩ ?_
      refine gg_callV (da_setNumber hf h hG.1 hs) dc_L_does_98 ml_L_47 ce_F_setNumber ⟨Nat.le_of_ble_eq_true rfl, Nat.le_of_ble_eq_true rfl⟩ hf.1 rfl rfl (Nat.le_of_ble_eq_true rfl) ⟨Nat.le_of_ble_eq_true rfl, Nat.le_of_ble_eq_true rfl⟩ ?_
      rintro v9 μ9 ⟨r, X1, ν1, rfl, rfl, hR, hD⟩
      dsimp only [Option.toList, List.cons_append, List.nil_append]
      exact gg_iret dc_L_does_101 rfl ⟨Nat.le_of_ble_eq_true rfl, Nat.le_of_ble_eq_true rfl⟩ (by first | exact ⟨_, X1, ν1, rfl, rfl, hR, hD.of (by decide)⟩ | exact ⟨_, X1, ν1, rfl, rfl, hR, hD.e⟩)
    | 1, ht9 =>
      cases ht9
      refine gg_aldn dc_L_does_102 rfl rfl ?_
      refine gg_iconst (v := 0) dc_L_does_103 (by decide) ?_
      refine gg_iconst (v := 1) dc_L_does_104 (by decide) ?_
      refine gg_ildn dc_L_does_105 rfl rfl ?_
      refine gg_iconst (v := 4) dc_L_does_106 (by decide) ?_
      refine gg_ishr dc_L_does_107 ?_
      refine gg_iconst (v := 5) dc_L_does_108 (by decide) ?_
      refine gg_okS (sp_L_low (by decide)) dc_L_does_109 ml_L_42 ce_L_low ⟨Nat.le_of_ble_eq_true rfl, Nat.le_of_ble_eq_true rfl⟩ rfl (Nat.le_of_ble_eq_true rfl) ⟨rfl, rfl⟩ ⟨Nat.le_of_ble_eq_true rfl, Nat.le_of_ble_eq_true rfl⟩ ?_
      refine gg_ishl dc_L_does_112 ?_
      refine gg_callV (da_setNumber hf h hG.1 hs) dc_L_does_113 ml_L_47 ce_F_setNumber ⟨Nat.le_of_ble_eq_true rfl, Nat.le_of_ble_eq_true rfl⟩ hf.1 rfl rfl (Nat.le_of_ble_eq_true rfl) ⟨Nat.le_of_ble_eq_true rfl, Nat.le_of_ble_eq_true rfl⟩ ?_
      rintro v9 μ9 ⟨r, X1, ν1, rfl, rfl, hR, hD⟩
      dsimp only [Option.toList, List.cons_append, List.nil_append]
      exact gg_iret dc_L_does_116 rfl ⟨Nat.le_of_ble_eq_true rfl, Nat.le_of_ble_eq_true rfl⟩ (by first | exact ⟨_, X1, ν1, rfl, rfl, hR, hD.of (by decide)⟩ | exact ⟨_, X1, ν1, rfl, rfl, hR, hD.e⟩)
    | 2, ht9 =>
      cases ht9
      refine gg_aldn dc_L_does_117 rfl rfl ?_
      refine gg_ildn dc_L_does_118 rfl rfl ?_
      refine gg_ildn dc_L_does_119 rfl rfl ?_
      refine gg_bipush (v := 14) dc_L_does_120 (by decide) ?_
      refine gg_ishr dc_L_does_122 ?_
      refine gg_sipush (v := 150) dc_L_does_123 (by decide) ?_
      refine gg_okS (sp_L_low (by decide)) dc_L_does_126 ml_L_42 ce_L_low ⟨Nat.le_of_ble_eq_true rfl, Nat.le_of_ble_eq_true rfl⟩ rfl (Nat.le_of_ble_eq_true rfl) ⟨rfl, rfl⟩ ⟨Nat.le_of_ble_eq_true rfl, Nat.le_of_ble_eq_true rfl⟩ ?_
      refine gg_iconst (v := 1) dc_L_does_129 (by decide) ?_
      refine gg_isub dc_L_does_130 ?_
      refine gg_callV (da_setLoad hf h hG.1) dc_L_does_131 ml_L_50 ce_F_setLoad ⟨Nat.le_of_ble_eq_true rfl, Nat.le_of_ble_eq_true rfl⟩ hf.1 rfl rfl (Nat.le_of_ble_eq_true rfl) ⟨Nat.le_of_ble_eq_true rfl, Nat.le_of_ble_eq_true rfl⟩ ?_
      rintro v9 μ9 ⟨r, X1, ν1, rfl, rfl, hR, hD⟩
      dsimp only [Option.toList, List.cons_append, List.nil_append]
      exact gg_iret dc_L_does_134 rfl ⟨Nat.le_of_ble_eq_true rfl, Nat.le_of_ble_eq_true rfl⟩ (by first | exact ⟨_, X1, ν1, rfl, rfl, hR, hD.of (by decide)⟩ | exact ⟨_, X1, ν1, rfl, rfl, hR, hD.e⟩)
    | 3, ht9 =>
      cases ht9
      refine gg_aldn dc_L_does_117 rfl rfl ?_
      refine gg_ildn dc_L_does_118 rfl rfl ?_
      refine gg_ildn dc_L_does_119 rfl rfl ?_
      refine gg_bipush (v := 14) dc_L_does_120 (by decide) ?_
      refine gg_ishr dc_L_does_122 ?_
      refine gg_sipush (v := 150) dc_L_does_123 (by decide) ?_
      refine gg_okS (sp_L_low (by decide)) dc_L_does_126 ml_L_42 ce_L_low ⟨Nat.le_of_ble_eq_true rfl, Nat.le_of_ble_eq_true rfl⟩ rfl (Nat.le_of_ble_eq_true rfl) ⟨rfl, rfl⟩ ⟨Nat.le_of_ble_eq_true rfl, Nat.le_of_ble_eq_true rfl⟩ ?_
      refine gg_iconst (v := 1) dc_L_does_129 (by decide) ?_
      refine gg_isub dc_L_does_130 ?_
      refine gg_callV (da_setLoad hf h hG.1) dc_L_does_131 ml_L_50 ce_F_setLoad ⟨Nat.le_of_ble_eq_true rfl, Nat.le_of_ble_eq_true rfl⟩ hf.1 rfl rfl (Nat.le_of_ble_eq_true rfl) ⟨Nat.le_of_ble_eq_true rfl, Nat.le_of_ble_eq_true rfl⟩ ?_
      rintro v9 μ9 ⟨r, X1, ν1, rfl, rfl, hR, hD⟩
      dsimp only [Option.toList, List.cons_append, List.nil_append]
      exact gg_iret dc_L_does_134 rfl ⟨Nat.le_of_ble_eq_true rfl, Nat.le_of_ble_eq_true rfl⟩ (by first | exact ⟨_, X1, ν1, rfl, rfl, hR, hD.of (by decide)⟩ | exact ⟨_, X1, ν1, rfl, rfl, hR, hD.e⟩)
    | 4, ht9 =>
      cases ht9
      refine gg_aldn dc_L_does_135 rfl rfl ?_
      refine gg_ildn dc_L_does_136 rfl rfl ?_
      refine gg_ildn dc_L_does_137 rfl rfl ?_
      refine gg_bipush (v := 14) dc_L_does_138 (by decide) ?_
      refine gg_ishr dc_L_does_140 ?_
      refine gg_sipush (v := 200) dc_L_does_141 (by decide) ?_
      refine gg_okS (sp_L_low (by decide)) dc_L_does_144 ml_L_42 ce_L_low ⟨Nat.le_of_ble_eq_true rfl, Nat.le_of_ble_eq_true rfl⟩ rfl (Nat.le_of_ble_eq_true rfl) ⟨rfl, rfl⟩ ⟨Nat.le_of_ble_eq_true rfl, Nat.le_of_ble_eq_true rfl⟩ ?_
      refine gg_bipush (v := 99) dc_L_does_147 (by decide) ?_
      refine gg_isub dc_L_does_149 ?_
      refine gg_callV (da_setComb hf h hG.1) dc_L_does_150 ml_L_53 ce_F_setComb ⟨Nat.le_of_ble_eq_true rfl, Nat.le_of_ble_eq_true rfl⟩ hf.1 rfl rfl (Nat.le_of_ble_eq_true rfl) ⟨Nat.le_of_ble_eq_true rfl, Nat.le_of_ble_eq_true rfl⟩ ?_
      rintro v9 μ9 ⟨r, X1, ν1, rfl, rfl, hR, hD⟩
      dsimp only [Option.toList, List.cons_append, List.nil_append]
      refine gg_sipush (v := 200) dc_L_does_153 (by decide) ?_
      refine gg_iadd dc_L_does_156 ?_
      exact gg_iret dc_L_does_157 rfl ⟨Nat.le_of_ble_eq_true rfl, Nat.le_of_ble_eq_true rfl⟩ (by first | exact ⟨_, X1, ν1, rfl, rfl, hR, hD.of (by decide)⟩ | exact ⟨_, X1, ν1, rfl, rfl, hR, hD.e⟩)
    | 5, ht9 =>
      cases ht9
      refine gg_aldn dc_L_does_158 rfl rfl ?_
      refine gg_ildn dc_L_does_159 rfl rfl ?_
      refine gg_ildn dc_L_does_160 rfl rfl ?_
      refine gg_iconst (v := 1) dc_L_does_161 (by decide) ?_
      refine gg_iadd dc_L_does_162 ?_
      refine gg_ildn dc_L_does_163 rfl rfl ?_
      refine gg_bipush (v := 14) dc_L_does_164 (by decide) ?_
      refine gg_ishr dc_L_does_166 ?_
      refine gg_bipush (v := 100) dc_L_does_167 (by decide) ?_
      refine gg_okS (sp_L_low (by decide)) dc_L_does_169 ml_L_42 ce_L_low ⟨Nat.le_of_ble_eq_true rfl, Nat.le_of_ble_eq_true rfl⟩ rfl (Nat.le_of_ble_eq_true rfl) ⟨rfl, rfl⟩ ⟨Nat.le_of_ble_eq_true rfl, Nat.le_of_ble_eq_true rfl⟩ ?_
      refine gg_iadd dc_L_does_172 ?_
      refine gg_callV (da_setFlag hf h hG.1 ⟨by omega, by omega⟩ (fl_rg hp)) dc_L_does_173 ml_L_56 ce_F_setFlag ⟨Nat.le_of_ble_eq_true rfl, Nat.le_of_ble_eq_true rfl⟩ hf.1 rfl rfl (Nat.le_of_ble_eq_true rfl) ⟨Nat.le_of_ble_eq_true rfl, Nat.le_of_ble_eq_true rfl⟩ ?_
      rintro v9 μ9 ⟨r, X1, ν1, rfl, rfl, hR, hD⟩
      dsimp only [Option.toList, List.cons_append, List.nil_append]
      exact gg_iret dc_L_does_176 rfl ⟨Nat.le_of_ble_eq_true rfl, Nat.le_of_ble_eq_true rfl⟩ (by first | exact ⟨_, X1, ν1, rfl, rfl, hR, hD.of (by decide)⟩ | exact ⟨_, X1, ν1, rfl, rfl, hR, hD.e⟩)
    | 6, ht9 =>
      cases ht9
      refine gg_aldn dc_L_does_177 rfl rfl ?_
      refine gg_ildn dc_L_does_178 rfl rfl ?_
      refine gg_iconst (v := 4) dc_L_does_179 (by decide) ?_
      refine gg_ishr dc_L_does_180 ?_
      refine gg_iconst (v := 1) dc_L_does_181 (by decide) ?_
      refine gg_iand dc_L_does_182 ?_
      refine gg_callV (da_home hf h hG.1 hn) dc_L_does_183 ml_L_59 ce_F_home ⟨Nat.le_of_ble_eq_true rfl, Nat.le_of_ble_eq_true rfl⟩ hf.1 rfl rfl (Nat.le_of_ble_eq_true rfl) ⟨Nat.le_of_ble_eq_true rfl, Nat.le_of_ble_eq_true rfl⟩ ?_
      rintro v9 μ9 ⟨r, X1, ν1, rfl, rfl, hR, hD⟩
      dsimp only [Option.toList, List.cons_append, List.nil_append]
      refine gg_ldc dc_L_does_186 lk_L_62 ?_
      refine gg_iadd dc_L_does_188 ?_
      exact gg_iret dc_L_does_189 rfl ⟨Nat.le_of_ble_eq_true rfl, Nat.le_of_ble_eq_true rfl⟩ (by first | exact ⟨_, X1, ν1, rfl, rfl, hR, hD.of (by decide)⟩ | exact ⟨_, X1, ν1, rfl, rfl, hR, hD.e⟩)
    | 7, ht9 =>
      cases ht9
      refine gg_aldn dc_L_does_190 rfl rfl ?_
      refine gg_ildn dc_L_does_191 rfl rfl ?_
      refine gg_iconst (v := 4) dc_L_does_192 (by decide) ?_
      refine gg_ishr dc_L_does_193 ?_
      refine gg_iconst (v := 1) dc_L_does_194 (by decide) ?_
      refine gg_iand dc_L_does_195 ?_
      refine gg_callV (da_check hf h hG.1 hn) dc_L_does_196 ml_L_63 ce_F_check ⟨Nat.le_of_ble_eq_true rfl, Nat.le_of_ble_eq_true rfl⟩ hf.1 rfl rfl (Nat.le_of_ble_eq_true rfl) ⟨Nat.le_of_ble_eq_true rfl, Nat.le_of_ble_eq_true rfl⟩ ?_
      rintro v9 μ9 ⟨r, X1, ν1, rfl, rfl, hR, hD⟩
      dsimp only [Option.toList, List.cons_append, List.nil_append]
      refine gg_ldc dc_L_does_199 lk_L_62 ?_
      refine gg_iadd dc_L_does_201 ?_
      exact gg_iret dc_L_does_202 rfl ⟨Nat.le_of_ble_eq_true rfl, Nat.le_of_ble_eq_true rfl⟩ (by first | exact ⟨_, X1, ν1, rfl, rfl, hR, hD.of (by decide)⟩ | exact ⟨_, X1, ν1, rfl, rfl, hR, hD.e⟩)
    | 8, ht9 =>
      cases ht9
      refine gg_aldn dc_L_does_203 rfl rfl ?_
      refine gg_ildn dc_L_does_204 rfl rfl ?_
      refine gg_iconst (v := 4) dc_L_does_205 (by decide) ?_
      refine gg_ishr dc_L_does_206 ?_
      refine gg_bipush (v := 100) dc_L_does_207 (by decide) ?_
      refine gg_okS (sp_L_low (by decide)) dc_L_does_209 ml_L_42 ce_L_low ⟨Nat.le_of_ble_eq_true rfl, Nat.le_of_ble_eq_true rfl⟩ rfl (Nat.le_of_ble_eq_true rfl) ⟨rfl, rfl⟩ ⟨Nat.le_of_ble_eq_true rfl, Nat.le_of_ble_eq_true rfl⟩ ?_
      refine gg_bipush (v := 50) dc_L_does_212 (by decide) ?_
      refine gg_isub dc_L_does_214 ?_
      refine gg_callV (da_correct hf h hG.1 hn co_rg) dc_L_does_215 ml_L_66 ce_F_correct ⟨Nat.le_of_ble_eq_true rfl, Nat.le_of_ble_eq_true rfl⟩ hf.1 rfl rfl (Nat.le_of_ble_eq_true rfl) ⟨Nat.le_of_ble_eq_true rfl, Nat.le_of_ble_eq_true rfl⟩ ?_
      rintro v9 μ9 ⟨r, X1, ν1, rfl, rfl, hR, hD⟩
      dsimp only [Option.toList, List.cons_append, List.nil_append]
      refine gg_ldc dc_L_does_218 lk_L_69 ?_
      refine gg_iadd dc_L_does_220 ?_
      exact gg_iret dc_L_does_221 rfl ⟨Nat.le_of_ble_eq_true rfl, Nat.le_of_ble_eq_true rfl⟩ (by first | exact ⟨_, X1, ν1, rfl, rfl, hR, hD.of (by decide)⟩ | exact ⟨_, X1, ν1, rfl, rfl, hR, hD.e⟩)
    | 9, ht9 =>
      cases ht9
      refine gg_aldn dc_L_does_222 rfl rfl ?_
      refine gg_ildn dc_L_does_223 rfl rfl ?_
      refine gg_ildn dc_L_does_224 rfl rfl ?_
      refine gg_bipush (v := 14) dc_L_does_225 (by decide) ?_
      refine gg_ishr dc_L_does_227 ?_
      refine gg_bipush (v := 10) dc_L_does_228 (by decide) ?_
      refine gg_okS (sp_L_low (by decide)) dc_L_does_230 ml_L_42 ce_L_low ⟨Nat.le_of_ble_eq_true rfl, Nat.le_of_ble_eq_true rfl⟩ rfl (Nat.le_of_ble_eq_true rfl) ⟨rfl, rfl⟩ ⟨Nat.le_of_ble_eq_true rfl, Nat.le_of_ble_eq_true rfl⟩ ?_
      refine gg_callV (da_addCommand hf h hG.1 hp) dc_L_does_233 ml_L_70 ce_F_addCommand ⟨Nat.le_of_ble_eq_true rfl, Nat.le_of_ble_eq_true rfl⟩ hf.1 rfl rfl (Nat.le_of_ble_eq_true rfl) ⟨Nat.le_of_ble_eq_true rfl, Nat.le_of_ble_eq_true rfl⟩ ?_
      rintro v9 μ9 ⟨r, X1, ν1, rfl, rfl, hR, hD⟩
      dsimp only [Option.toList, List.cons_append, List.nil_append]
      exact gg_iret dc_L_does_236 rfl ⟨Nat.le_of_ble_eq_true rfl, Nat.le_of_ble_eq_true rfl⟩ (by first | exact ⟨_, X1, ν1, rfl, rfl, hR, hD.of (by decide)⟩ | exact ⟨_, X1, ν1, rfl, rfl, hR, hD.e⟩)
    | 10, ht9 =>
      cases ht9
      refine gg_aldn dc_L_does_237 rfl rfl ?_
      refine gg_iconst (v := 1) dc_L_does_238 (by decide) ?_
      refine gg_ildn dc_L_does_239 rfl rfl ?_
      refine gg_iconst (v := 4) dc_L_does_240 (by decide) ?_
      refine gg_ishr dc_L_does_241 ?_
      refine gg_iconst (v := 3) dc_L_does_242 (by decide) ?_
      refine gg_okS (sp_L_low (by decide)) dc_L_does_243 ml_L_42 ce_L_low ⟨Nat.le_of_ble_eq_true rfl, Nat.le_of_ble_eq_true rfl⟩ rfl (Nat.le_of_ble_eq_true rfl) ⟨rfl, rfl⟩ ⟨Nat.le_of_ble_eq_true rfl, Nat.le_of_ble_eq_true rfl⟩ ?_
      obtain ⟨k, hk, ek⟩ := rn_3 (w := y >>> (4 &&& 31))
      refine gg_iadd dc_L_does_246 ?_
      refine gg_callV (da_run hf h hG.1 hn hk ek) dc_L_does_247 ml_L_73 ce_F_run ⟨Nat.le_of_ble_eq_true rfl, Nat.le_of_ble_eq_true rfl⟩ hf.1 rfl rfl (Nat.le_of_ble_eq_true rfl) ⟨Nat.le_of_ble_eq_true rfl, Nat.le_of_ble_eq_true rfl⟩ ?_
      rintro v9 μ9 ⟨r, X1, ν1, rfl, rfl, hR, hD⟩
      dsimp only [Option.toList, List.cons_append, List.nil_append]
      exact gg_iret dc_L_does_250 rfl ⟨Nat.le_of_ble_eq_true rfl, Nat.le_of_ble_eq_true rfl⟩ (by first | exact ⟨_, X1, ν1, rfl, rfl, hR, hD.of (by decide)⟩ | exact ⟨_, X1, ν1, rfl, rfl, hR, hD.e⟩)
    | 11, ht9 =>
      cases ht9
      refine gg_aldn dc_L_does_251 rfl rfl ?_
      refine gg_ildn dc_L_does_252 rfl rfl ?_
      refine gg_iconst (v := 4) dc_L_does_253 (by decide) ?_
      refine gg_ishr dc_L_does_254 ?_
      refine gg_iconst (v := 1) dc_L_does_255 (by decide) ?_
      refine gg_iand dc_L_does_256 ?_
      refine gg_callV (da_back hf h hG hn) dc_L_does_257 ml_L_76 ce_F_back ⟨Nat.le_of_ble_eq_true rfl, Nat.le_of_ble_eq_true rfl⟩ hf.1 rfl rfl (Nat.le_of_ble_eq_true rfl) ⟨Nat.le_of_ble_eq_true rfl, Nat.le_of_ble_eq_true rfl⟩ ?_
      rintro v9 μ9 ⟨r, X1, ν1, rfl, rfl, hR, hD⟩
      dsimp only [Option.toList, List.cons_append, List.nil_append]
      refine gg_ldc dc_L_does_260 lk_L_69 ?_
      refine gg_iadd dc_L_does_262 ?_
      exact gg_iret dc_L_does_263 rfl ⟨Nat.le_of_ble_eq_true rfl, Nat.le_of_ble_eq_true rfl⟩ (by first | exact ⟨_, X1, ν1, rfl, rfl, hR, hD.of (by decide)⟩ | exact ⟨_, X1, ν1, rfl, rfl, hR, hD.e⟩)
    | n9 + 12, ht9 => exact absurd ht9 (by simp)
  · refine gg_aldn dc_L_does_264 rfl rfl ?_
    refine gg_ildn dc_L_does_265 rfl rfl ?_
    refine gg_callV (da_moveTo hf h hG.1 hn hp) dc_L_does_266 ml_L_79 ce_F_moveTo ⟨Nat.le_of_ble_eq_true rfl, Nat.le_of_ble_eq_true rfl⟩ hf.1 rfl rfl (Nat.le_of_ble_eq_true rfl) ⟨Nat.le_of_ble_eq_true rfl, Nat.le_of_ble_eq_true rfl⟩ ?_
    rintro v9 μ9 ⟨r, X1, ν1, rfl, rfl, hR, hD⟩
    dsimp only [Option.toList, List.cons_append, List.nil_append]
    refine gg_ldc dc_L_does_269 lk_L_69 ?_
    refine gg_iadd dc_L_does_271 ?_
    exact gg_iret dc_L_does_272 rfl ⟨Nat.le_of_ble_eq_true rfl, Nat.le_of_ble_eq_true rfl⟩ (by first | exact ⟨_, X1, ν1, rfl, rfl, hR, hD.of (by decide)⟩ | exact ⟨_, X1, ν1, rfl, rfl, hR, hD.e⟩)
