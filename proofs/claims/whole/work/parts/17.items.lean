/-! items read -/
theorem sp_T_setItem {Γ : cx_T} {τ : Nat × (Nat → sh_T)} {ν : Nat → Nat → Int32} {q L : Nat} {c : Nat → Int32} (hq : sh_Tx τ.2 q) (hL : ν q 1 = nI L) (hc : ν (q + 1) = c) (h100 : L ≤ 100) {a : Nat} {S : Nat → Int32} {o e k x y : Int32} (hx : sh_X τ.2 a) (hX : AX ν a S) (hd : q < a ∨ a + 12 ≤ q) (hk : k = 108 ∨ k = 99 ∨ k = 102) : mt_P Γ mk_T_setItem [.ref q, .ref a, .int k, .int x, .int y, .int e] (τ, tm_N ν q o (-1)) (ax_Q τ (tm_N ν q o (si_E S k x e)) a none (si_S S k x y)) := by
  unfold si_E si_S
  by_cases c : k = 102
  · rw [if_pos c, if_pos c]; exact sp_T_setItemF hq hL hc h100 hx hX hd c
  · rw [if_neg c, if_neg c]
    by_cases c2 : k = 108
    · rw [show kb_N k = 21 from if_pos c2]
      by_cases c3 : hr_I S 21 x = 0
      · rw [if_pos c3, if_pos c3]; exact sp_T_setItemL0 hq hL hc h100 hx hX hd c2 c3
      · rw [if_neg c3, if_neg c3]; exact sp_T_setItemL1 hq hL hc h100 hx hX hd c2 c3
    · rw [show kb_N k = 42 from if_neg c2]
      by_cases c3 : hr_I S 42 x = 0
      · rw [if_pos c3, if_pos c3]; exact sp_T_setItemC0 hq hL hc h100 hx hX hd c c2 c3
      · rw [if_neg c3, if_neg c3]; exact sp_T_setItemC1 hq hL hc h100 hx hX hd c c2 c3
/-- one item: its first number, its first sign, its second number, its last sign -/
def i1_F (c : Nat → Int32) (L o : Nat) : Int32 × Nat × Int32 := rn_F c L (-20000) 20000 1 (o + 1, -1)
def i2_F (c : Nat → Int32) (L o : Nat) : Nat × Int32 := ex_F c L 58 (i1_F c L o).2
def i3_F (c : Nat → Int32) (L : Nat) (k : Int32) (o : Nat) : Int32 × Nat × Int32 := rn_F c L (ls_I k (i1_F c L o).1) (gs_I k) (if k = 108 then 0 else 1) (i2_F c L o)
def i4_F (c : Nat → Int32) (L : Nat) (k : Int32) (o : Nat) : Nat × Int32 := ex_F c L 59 (i3_F c L k o).2
def it_F (c : Nat → Int32) (L : Nat) (S : Nat → Int32) (o : Nat) : (Nat × Int32) × (Nat → Int32) := if nx_I c L o = 108 ∨ nx_I c L o = 99 ∨ nx_I c L o = 102 then (if (i4_F c L (nx_I c L o) o).2 = -1 then (((i4_F c L (nx_I c L o) o).1, si_E S (nx_I c L o) (i1_F c L o).1 (nI o)), si_S S (nx_I c L o) (i1_F c L o).1 (i3_F c L (nx_I c L o) o).1) else (i4_F c L (nx_I c L o) o, S)) else ((o, nI o), S)
theorem i1_L {c : Nat → Int32} {L o : Nat} (h : o < L) : o + 1 ≤ (i1_F c L o).2.1 ∧ (i1_F c L o).2.1 ≤ L := rn_L (p := (o + 1, -1)) h
theorem i2_L {c : Nat → Int32} {L o : Nat} (h : o < L) : o + 1 ≤ (i2_F c L o).1 ∧ (i2_F c L o).1 ≤ L := by
  have h1 := i1_L (c := c) h
  have h2 := ex_L (c := c) (ch := 58) (by decide) h1.2
  unfold i2_F
  exact ⟨Nat.le_trans h1.1 h2.1, h2.2⟩
theorem i3_L {c : Nat → Int32} {L o : Nat} {k : Int32} (h : o < L) : o + 1 ≤ (i3_F c L k o).2.1 ∧ (i3_F c L k o).2.1 ≤ L := by
  have h1 := i2_L (c := c) h
  have h2 := rn_L (c := c) (lo := ls_I k (i1_F c L o).1) (hi := gs_I k) (mb := if k = 108 then 0 else 1) h1.2
  unfold i3_F
  exact ⟨Nat.le_trans h1.1 h2.1, h2.2⟩
theorem i4_L {c : Nat → Int32} {L o : Nat} {k : Int32} (h : o < L) : o + 1 ≤ (i4_F c L k o).1 ∧ (i4_F c L k o).1 ≤ L := by
  have h1 := i3_L (c := c) (k := k) h
  have h2 := ex_L (c := c) (ch := 59) (by decide) h1.2
  unfold i4_F
  exact ⟨Nat.le_trans h1.1 h2.1, h2.2⟩
theorem it_a {c : Nat → Int32} {L o : Nat} {S : Nat → Int32} (hk : nx_I c L o = 108 ∨ nx_I c L o = 99 ∨ nx_I c L o = 102) (h4 : ¬ (i4_F c L (nx_I c L o) o).2 = -1) : it_F c L S o = (i4_F c L (nx_I c L o) o, S) := by
  unfold it_F; rw [if_pos hk, if_neg h4]
theorem it_b {c : Nat → Int32} {L o : Nat} {S : Nat → Int32} (hk : nx_I c L o = 108 ∨ nx_I c L o = 99 ∨ nx_I c L o = 102) (h4 : (i4_F c L (nx_I c L o) o).2 = -1) : it_F c L S o = (((i4_F c L (nx_I c L o) o).1, si_E S (nx_I c L o) (i1_F c L o).1 (nI o)), si_S S (nx_I c L o) (i1_F c L o).1 (i3_F c L (nx_I c L o) o).1) := by
  unfold it_F; rw [if_pos hk, if_pos h4]
theorem it_c {c : Nat → Int32} {L o : Nat} {S : Nat → Int32} (hk : ¬ (nx_I c L o = 108 ∨ nx_I c L o = 99 ∨ nx_I c L o = 102)) : it_F c L S o = ((o, nI o), S) := by
  unfold it_F; rw [if_neg hk]
theorem nI_m1 {o : Nat} (h : o < 2 ^ 31) : ¬ nI o = -1 := fun q => nI_pos h (by rw [q]; decide)
theorem it_L {c : Nat → Int32} {L o : Nat} {S : Nat → Int32} (h100 : L ≤ 100) (h : o < L) : (it_F c L S o).1.1 ≤ L ∧ ((it_F c L S o).1.2 = -1 → o + 1 ≤ (it_F c L S o).1.1) := by
  have h4 := i4_L (c := c) (k := nx_I c L o) h
  by_cases hk : nx_I c L o = 108 ∨ nx_I c L o = 99 ∨ nx_I c L o = 102
  · by_cases h5 : (i4_F c L (nx_I c L o) o).2 = -1
    · rw [it_b hk h5]; dsimp only
      exact ⟨h4.2, fun _ => h4.1⟩
    · rw [it_a hk h5]; dsimp only
      exact ⟨h4.2, fun _ => h4.1⟩
  · rw [it_c hk]; dsimp only
    exact ⟨Nat.le_of_lt h, fun q => absurd q (nI_m1 (by omega))⟩
set_option maxRecDepth 100000 in
set_option maxHeartbeats 4000000 in
theorem sp_T_readItem {Γ : cx_T} {τ : Nat × (Nat → sh_T)} {ν : Nat → Nat → Int32} {q L : Nat} {c : Nat → Int32} (hq : sh_Tx τ.2 q) (hL : ν q 1 = nI L) (hc : ν (q + 1) = c) (h100 : L ≤ 100) {a : Nat} {S : Nat → Int32} (hx : sh_X τ.2 a) (hX : AX ν a S) (hd : q + 1 < a ∨ a + 12 ≤ q) {o : Nat} (ho : o < L) : mt_P Γ mk_T_readItem [.ref q, .ref a] (τ, tm_N ν q (nI o) (-1)) (ax_Q τ (tm_N ν q (nI (it_F c L S o).1.1) (it_F c L S o).1.2) a none (it_F c L S o).2) := by
  refine mt_of (L := [some (.ref q), some (.ref a), none, none, none, none]) (by decide +kernel) (by simp [Value.category]) (Nat.le_of_ble_eq_true rfl) (lc_2_6 ()) ?_
  have t85 : ((nx_I c L o) = 108 ∨ (nx_I c L o) = 99 ∨ (nx_I c L o) = 102) → ∀ mb : Int32, mb = (if (nx_I c L o) = 108 then 0 else 1) → gg_P Γ mk_T_readItem (ax_Q τ (tm_N ν q (nI (it_F c L S o).1.1) (it_F c L S o).1.2) a none (it_F c L S o).2) 0 0 85 [some (.ref q), some (.ref a), some (.int (nI o)), some (.int (nx_I c L o)), some (.int (i1_F c L o).1), none] [.int mb, .int (gs_I (nx_I c L o)), .int (ls_I (nx_I c L o) (i1_F c L o).1), .ref q] (τ, tm_N ν q (nI (i2_F c L o).1) (i2_F c L o).2) := by
    intro hk mb hmb
    rw [hmb]
    refine gg_okV (sp_T_readNumber hq hL hc h100 (p := i2_F c L o) (i2_L ho).2) dc_T_readItem_85 ml_T_43 ce_T_readNumber ⟨Nat.le_of_ble_eq_true rfl, Nat.le_of_ble_eq_true rfl⟩ hq.1 rfl rfl (Nat.le_of_ble_eq_true rfl) ⟨rfl, rfl⟩ ⟨Nat.le_of_ble_eq_true rfl, Nat.le_of_ble_eq_true rfl⟩ ?_
    refine gg_ist (i := 5) dc_T_readItem_88 (Nat.le_of_ble_eq_true rfl) rfl ?_
    dsimp only [List.set]
    refine gg_aldn dc_T_readItem_90 rfl rfl ?_
    refine gg_bipush (v := 59) dc_T_readItem_91 (by decide) ?_
    refine gg_okVv (sp_T_expect hq hL hc h100 (p := (i3_F c L (nx_I c L o) o).2) (i3_L ho).2) dc_T_readItem_93 ml_T_47 ce_T_expect ⟨Nat.le_of_ble_eq_true rfl, Nat.le_of_ble_eq_true rfl⟩ hq.1 rfl rfl (Nat.le_of_ble_eq_true rfl) ⟨rfl, rfl⟩ ⟨Nat.le_of_ble_eq_true rfl, Nat.le_of_ble_eq_true rfl⟩ ?_
    refine gg_aldn dc_T_readItem_96 rfl rfl ?_
    refine gtt_e dc_T_readItem_97 lf_T_22 hq.1 ?_
    refine gg_iconst (v := (-1)) dc_T_readItem_100 (by decide) ?_
    refine gg_icne dc_T_readItem_101 (fun c_101 => ?_) (fun c_101 => ?_)
    · refine gg_vret dc_T_readItem_115 rfl ⟨Nat.le_of_ble_eq_true rfl, Nat.le_of_ble_eq_true rfl⟩ ?_
      have h4 : ¬ (i4_F c L (nx_I c L o) o).2 = -1 := c_101
      rw [it_a hk h4]; dsimp only
      exact ⟨_, rfl, rfl, hX.tm (by omega), fr_rf⟩
    · have h4 : (i4_F c L (nx_I c L o) o).2 = -1 := c_101
      rw [c_101]
      refine gg_aldn dc_T_readItem_104 rfl rfl ?_
      refine gg_aldn dc_T_readItem_105 rfl rfl ?_
      refine gg_ildn dc_T_readItem_106 rfl rfl ?_
      refine gg_ild dc_T_readItem_107 rfl ?_
      refine gg_ild dc_T_readItem_109 rfl ?_
      refine gg_ildn dc_T_readItem_111 rfl rfl ?_
      refine gg_callV (sp_T_setItem hq hL hc h100 hx hX (by omega) hk) dc_T_readItem_112 ml_T_59 ce_T_setItem ⟨Nat.le_of_ble_eq_true rfl, Nat.le_of_ble_eq_true rfl⟩ hq.1 rfl rfl (Nat.le_of_ble_eq_true rfl) ⟨Nat.le_of_ble_eq_true rfl, Nat.le_of_ble_eq_true rfl⟩ ?_
      rintro v μ' ⟨ν1, rfl, rfl, hX1, hF1⟩
      dsimp only [Option.toList, List.cons_append, List.nil_append]
      refine gg_vret dc_T_readItem_115 rfl ⟨Nat.le_of_ble_eq_true rfl, Nat.le_of_ble_eq_true rfl⟩ ?_
      rw [it_b hk h4]; dsimp only
      exact ⟨_, rfl, rfl, hX1, hF1⟩
  have t34 : ((nx_I c L o) = 108 ∨ (nx_I c L o) = 99 ∨ (nx_I c L o) = 102) → gg_P Γ mk_T_readItem (ax_Q τ (tm_N ν q (nI (it_F c L S o).1.1) (it_F c L S o).1.2) a none (it_F c L S o).2) 0 0 34 [some (.ref q), some (.ref a), some (.int (nI o)), some (.int (nx_I c L o)), none, none] [] (τ, tm_N ν q (nI o) (-1)) := by
    intro hk
    refine gg_aldn dc_T_readItem_34 rfl rfl ?_
    refine gg_dup dc_T_readItem_35 rfl ?_
    refine gtt_o dc_T_readItem_36 lf_T_19 hq.1 ?_
    refine gg_iconst (v := 1) dc_T_readItem_39 (by decide) ?_
    refine gg_iadd dc_T_readItem_40 ?_
    refine gx_top (nI_1 o) ?_
    refine gtt_po dc_T_readItem_41 lp_T_19 hq.1 ?_
    refine gg_aldn dc_T_readItem_44 rfl rfl ?_
    refine gg_sipush (v := (-20000)) dc_T_readItem_45 (by decide) ?_
    refine gg_sipush (v := 20000) dc_T_readItem_48 (by decide) ?_
    refine gg_iconst (v := 1) dc_T_readItem_51 (by decide) ?_
    refine gg_okV (sp_T_readNumber hq hL hc h100 (p := (o + 1, -1)) ho) dc_T_readItem_52 ml_T_43 ce_T_readNumber ⟨Nat.le_of_ble_eq_true rfl, Nat.le_of_ble_eq_true rfl⟩ hq.1 rfl rfl (Nat.le_of_ble_eq_true rfl) ⟨rfl, rfl⟩ ⟨Nat.le_of_ble_eq_true rfl, Nat.le_of_ble_eq_true rfl⟩ ?_
    refine gg_ist (i := 4) dc_T_readItem_55 (Nat.le_of_ble_eq_true rfl) rfl ?_
    dsimp only [List.set]
    refine gg_aldn dc_T_readItem_57 rfl rfl ?_
    refine gg_bipush (v := 58) dc_T_readItem_58 (by decide) ?_
    refine gg_okVv (sp_T_expect hq hL hc h100 (p := (i1_F c L o).2) (i1_L ho).2) dc_T_readItem_60 ml_T_47 ce_T_expect ⟨Nat.le_of_ble_eq_true rfl, Nat.le_of_ble_eq_true rfl⟩ hq.1 rfl rfl (Nat.le_of_ble_eq_true rfl) ⟨rfl, rfl⟩ ⟨Nat.le_of_ble_eq_true rfl, Nat.le_of_ble_eq_true rfl⟩ ?_
    refine gg_aldn dc_T_readItem_63 rfl rfl ?_
    refine gg_ildn dc_T_readItem_64 rfl rfl ?_
    refine gg_ild dc_T_readItem_65 rfl ?_
    refine gg_okS (sp_T_leastSecond) dc_T_readItem_67 ml_T_51 ce_T_leastSecond ⟨Nat.le_of_ble_eq_true rfl, Nat.le_of_ble_eq_true rfl⟩ rfl (Nat.le_of_ble_eq_true rfl) ⟨rfl, rfl⟩ ⟨Nat.le_of_ble_eq_true rfl, Nat.le_of_ble_eq_true rfl⟩ ?_
    refine gg_ildn dc_T_readItem_70 rfl rfl ?_
    refine gg_okS (sp_T_greatestSecond) dc_T_readItem_71 ml_T_55 ce_T_greatestSecond ⟨Nat.le_of_ble_eq_true rfl, Nat.le_of_ble_eq_true rfl⟩ rfl (Nat.le_of_ble_eq_true rfl) ⟨rfl, rfl⟩ ⟨Nat.le_of_ble_eq_true rfl, Nat.le_of_ble_eq_true rfl⟩ ?_
    refine gg_ildn dc_T_readItem_74 rfl rfl ?_
    refine gg_bipush (v := 108) dc_T_readItem_75 (by decide) ?_
    refine gg_iceq dc_T_readItem_77 (fun c_77 => ?_) (fun c_77 => ?_)
    · refine gg_iconst (v := 0) dc_T_readItem_84 (by decide) ?_
      exact t85 hk 0 (if_pos (by first | exact c_77 | exact Classical.not_not.mp c_77)).symm
    · refine gg_iconst (v := 1) dc_T_readItem_80 (by decide) ?_
      refine gg_goto dc_T_readItem_81 ?_
      exact t85 hk 1 (if_neg c_77).symm
  refine gg_aldn dc_T_readItem_0 rfl rfl ?_
  refine gtt_o dc_T_readItem_1 lf_T_19 hq.1 ?_
  refine gg_istn (i := 2) dc_T_readItem_4 rfl (Nat.le_of_ble_eq_true rfl) rfl ?_
  dsimp only [List.set]
  refine gg_aldn dc_T_readItem_5 rfl rfl ?_
  refine gg_okV (sp_T_nc hq hL hc h100 (Nat.le_of_lt ho)) dc_T_readItem_6 ml_T_39 ce_T_nextCharacter ⟨Nat.le_of_ble_eq_true rfl, Nat.le_of_ble_eq_true rfl⟩ hq.1 rfl rfl (Nat.le_of_ble_eq_true rfl) ⟨rfl, rfl⟩ ⟨Nat.le_of_ble_eq_true rfl, Nat.le_of_ble_eq_true rfl⟩ ?_
  refine gg_istn (i := 3) dc_T_readItem_9 rfl (Nat.le_of_ble_eq_true rfl) rfl ?_
  dsimp only [List.set]
  refine gg_ildn dc_T_readItem_10 rfl rfl ?_
  refine gg_bipush (v := 108) dc_T_readItem_11 (by decide) ?_
  refine gg_iceq dc_T_readItem_13 (fun c_13 => ?_) (fun c_13 => ?_)
  · exact t34 (Or.inl c_13)
  · refine gg_ildn dc_T_readItem_16 rfl rfl ?_
    refine gg_bipush (v := 99) dc_T_readItem_17 (by decide) ?_
    refine gg_iceq dc_T_readItem_19 (fun c_19 => ?_) (fun c_19 => ?_)
    · exact t34 (Or.inr (Or.inl c_19))
    · refine gg_ildn dc_T_readItem_22 rfl rfl ?_
      refine gg_bipush (v := 102) dc_T_readItem_23 (by decide) ?_
      refine gg_iceq dc_T_readItem_25 (fun c_25 => ?_) (fun c_25 => ?_)
      · exact t34 (Or.inr (Or.inr c_25))
      · refine gg_aldn dc_T_readItem_28 rfl rfl ?_
        refine gg_ildn dc_T_readItem_29 rfl rfl ?_
        refine gtt_pe dc_T_readItem_30 lp_T_22 hq.1 ?_
        refine gg_vret dc_T_readItem_33 rfl ⟨Nat.le_of_ble_eq_true rfl, Nat.le_of_ble_eq_true rfl⟩ ?_
        rw [it_c (fun q => q.elim c_13 (fun q => q.elim c_19 c_25))]; dsimp only
        exact ⟨_, rfl, rfl, hX.tm (by omega), fr_rf⟩
def ri_F (c : Nat → Int32) (L : Nat) : Nat → Nat → Nat × Int32 → (Nat → Int32) → Nat × (Nat × Int32) × (Nat → Int32)
  | 0, i, p, S => (i, p, S)
  | f + 1, i, p, S => if p.1 < L ∧ p.2 = -1 then ri_F c L f (i + 1) (so c L (it_F c L S p.1).1.1, (it_F c L S p.1).1.2) (it_F c L S p.1).2 else (i, p, S)
theorem ri_x {c : Nat → Int32} {L i : Nat} {p : Nat × Int32} {S : Nat → Int32} : ∀ f : Nat, ¬ (p.1 < L ∧ p.2 = -1) → ri_F c L f i p S = (i, p, S)
  | 0, _ => rfl
  | _ + 1, h => if_neg h
def re_I (r : Nat × (Nat × Int32) × (Nat → Int32)) : Int32 := if r.2.1.2 = -1 then nI r.1 else -2000000 - r.2.1.2
set_option maxRecDepth 100000 in
set_option maxHeartbeats 4000000 in
theorem sp_T_readInto {Γ : cx_T} {τ : Nat × (Nat → sh_T)} {ν : Nat → Nat → Int32} {q L : Nat} {c : Nat → Int32} (hq : sh_Tx τ.2 q) (hL : ν q 1 = nI L) (hc : ν (q + 1) = c) (h100 : L ≤ 100) {a : Nat} {S : Nat → Int32} (hx : sh_X τ.2 a) (hX : AX ν a S) (hd : q + 1 < a ∨ a + 12 ≤ q) : mt_P Γ mk_T_readInto [.ref q, .ref a] (τ, ν) (fun v μ' => ∃ ν' : Nat → Nat → Int32, v = some (.int (re_I (ri_F c L 100 0 (so c L 0, -1) S))) ∧ μ' = (τ, ν') ∧ AX ν' a (ri_F c L 100 0 (so c L 0, -1) S).2.2 ∧ ν' q 1 = nI L ∧ ∀ b : Nat, b ≠ q → (b < a ∨ a + 12 ≤ b) → ν' b = ν b) := by
  refine mt_of (L := [some (.ref q), some (.ref a), none]) (by decide +kernel) (by simp [Value.category]) (Nat.le_of_ble_eq_true rfl) (lc_2_3 ()) ?_
  refine gg_e (μ' := (τ, tm_N ν q (ν q 2) (ν q 3))) ?_ rfl rfl (by rw [tm_id rfl rfl])
  have ext : ∀ (R : Nat × (Nat × Int32) × (Nat → Int32)) (i o : Nat) (e : Int32) (S1 : Nat → Int32) (ν1 : Nat → Nat → Int32), AX ν1 a S1 → ν1 q 1 = nI L → (∀ b : Nat, b ≠ q → (b < a ∨ a + 12 ≤ b) → ν1 b = ν b) → (i, (o, e), S1) = R → gg_P Γ mk_T_readInto (fun v μ' => ∃ ν' : Nat → Nat → Int32, v = some (.int (re_I R)) ∧ μ' = (τ, ν') ∧ AX ν' a R.2.2 ∧ ν' q 1 = nI L ∧ ∀ b : Nat, b ≠ q → (b < a ∨ a + 12 ≤ b) → ν' b = ν b) 0 0 56 [some (.ref q), some (.ref a), some (.int (nI i))] [] (τ, tm_N ν1 q (nI o) e) := by
    intro R i o e S1 ν1 hX hL1 hf hR
    have hL := hL1
    refine gg_aldn dc_T_readInto_56 rfl rfl ?_
    refine gtt_e dc_T_readInto_57 lf_T_22 hq.1 ?_
    refine gg_iconst (v := (-1)) dc_T_readInto_60 (by decide) ?_
    refine gg_icne dc_T_readInto_61 (fun c_61 => ?_) (fun c_61 => ?_)
    · refine gg_ldc dc_T_readInto_68 lk_T_38 ?_
      refine gg_aldn dc_T_readInto_70 rfl rfl ?_
      refine gtt_e dc_T_readInto_71 lf_T_22 hq.1 ?_
      refine gg_isub dc_T_readInto_74 ?_
      exact gg_iret dc_T_readInto_75 rfl ⟨Nat.le_of_ble_eq_true rfl, Nat.le_of_ble_eq_true rfl⟩ (⟨_, by rw [← hR]; unfold re_I; rw [if_neg c_61], rfl, by rw [← hR]; exact hX.tm (by omega), by rw [show tm_N ν1 q (nI o) e q 1 = ν1 q 1 by unfold tm_N; rw [u2_eq, ud_ne (by omega), u2_eq, ud_ne (by omega)]]; exact hL1, fun b h1 h2 => by rw [tm_ne h1]; exact hf b h1 h2⟩)
    · refine gg_ildn dc_T_readInto_64 rfl rfl ?_
      refine gg_goto dc_T_readInto_65 ?_
      exact gg_iret dc_T_readInto_75 rfl ⟨Nat.le_of_ble_eq_true rfl, Nat.le_of_ble_eq_true rfl⟩ (⟨_, by rw [← hR]; unfold re_I; rw [if_pos (by first | exact c_61 | exact Classical.not_not.mp c_61)], rfl, by rw [← hR]; exact hX.tm (by omega), by rw [show tm_N ν1 q (nI o) e q 1 = ν1 q 1 by unfold tm_N; rw [u2_eq, ud_ne (by omega), u2_eq, ud_ne (by omega)]]; exact hL1, fun b h1 h2 => by rw [tm_ne h1]; exact hf b h1 h2⟩)
  have loop : ∀ (R : Nat × (Nat × Int32) × (Nat → Int32)) (f : Nat) (i o : Nat) (e : Int32) (S1 : Nat → Int32) (ν1 : Nat → Nat → Int32), AX ν1 a S1 → ν1 q 1 = nI L → ν1 (q + 1) = c → (∀ b : Nat, b ≠ q → (b < a ∨ a + 12 ≤ b) → ν1 b = ν b) → o ≤ L → (e = -1 → L ≤ o + f) → (e = -1 → i ≤ o) → ri_F c L f i (o, e) S1 = R → gg_P Γ mk_T_readInto (fun v μ' => ∃ ν' : Nat → Nat → Int32, v = some (.int (re_I R)) ∧ μ' = (τ, ν') ∧ AX ν' a R.2.2 ∧ ν' q 1 = nI L ∧ ∀ b : Nat, b ≠ q → (b < a ∨ a + 12 ≤ b) → ν' b = ν b) 0 0 16 [some (.ref q), some (.ref a), some (.int (nI i))] [] (τ, tm_N ν1 q (nI o) e) := by
    intro R f
    have ext := ext R
    induction f with
    | zero =>
      intro i o e S1 ν1 hX hL1 hc1 hf hoL hfu hie hR
      have hL := hL1
      have hR : (i, (o, e), S1) = R := hR
      refine gg_ildn dc_T_readInto_16 rfl rfl ?_
      refine gg_bipush (v := 100) dc_T_readInto_17 (by decide) ?_
      refine gg_icge dc_T_readInto_19 (fun c_19 => ?_) (fun c_19 => ?_)
      · exact ext i o e S1 ν1 hX hL1 hf hR
      · refine gg_aldn dc_T_readInto_22 rfl rfl ?_
        refine gtt_o dc_T_readInto_23 lf_T_19 hq.1 ?_
        refine gg_aldn dc_T_readInto_26 rfl rfl ?_
        refine gtt_L dc_T_readInto_27 lf_T_15 hq.1 hL ?_
        refine gg_icge dc_T_readInto_30 (fun c_30 => ?_) (fun c_30 => ?_)
        · exact ext i o e S1 ν1 hX hL1 hf hR
        · refine gg_aldn dc_T_readInto_33 rfl rfl ?_
          refine gtt_e dc_T_readInto_34 lf_T_22 hq.1 ?_
          refine gg_iconst (v := (-1)) dc_T_readInto_37 (by decide) ?_
          refine gg_icne dc_T_readInto_38 (fun c_38 => ?_) (fun c_38 => ?_)
          · exact ext i o e S1 ν1 hX hL1 hf hR
          · exact absurd (show L ≤ o by have := hfu (by first | exact c_38 | exact Classical.not_not.mp c_38); omega) (fun q => c_30 (nI_le q (by omega)))
    | succ f ih =>
      have step : ∀ (i o : Nat) (e : Int32) (S1 : Nat → Int32) (ν1 : Nat → Nat → Int32), AX ν1 a S1 → ν1 q 1 = nI L → ν1 (q + 1) = c → (∀ b : Nat, b ≠ q → (b < a ∨ a + 12 ≤ b) → ν1 b = ν b) → o < L → e = -1 → (e = -1 → i ≤ o) → (o < L → L ≤ o + (f + 1)) → ri_F c L (f + 1) i (o, e) S1 = R → gg_P Γ mk_T_readInto (fun v μ' => ∃ ν' : Nat → Nat → Int32, v = some (.int (re_I R)) ∧ μ' = (τ, ν') ∧ AX ν' a R.2.2 ∧ ν' q 1 = nI L ∧ ∀ b : Nat, b ≠ q → (b < a ∨ a + 12 ≤ b) → ν' b = ν b) 0 0 41 [some (.ref q), some (.ref a), some (.int (nI i))] [] (τ, tm_N ν1 q (nI o) e) := by
        intro i o e S1 ν1 hX hL1 hc1 hf hlt he hie hfu hR
        subst he
        refine gg_aldn dc_T_readInto_41 rfl rfl ?_
        refine gg_aldn dc_T_readInto_42 rfl rfl ?_
        refine gg_callV (sp_T_readItem hq hL1 hc1 h100 hx hX hd hlt) dc_T_readInto_43 ml_T_34 ce_T_readItem ⟨Nat.le_of_ble_eq_true rfl, Nat.le_of_ble_eq_true rfl⟩ hq.1 rfl rfl (Nat.le_of_ble_eq_true rfl) ⟨Nat.le_of_ble_eq_true rfl, Nat.le_of_ble_eq_true rfl⟩ ?_
        rintro v μ' ⟨ν2, rfl, rfl, hX2, hF2⟩
        dsimp only [Option.toList, List.cons_append, List.nil_append]
        have hq2 : ν2 q = tm_N ν1 q (nI (it_F c L S1 o).1.1) (it_F c L S1 o).1.2 q := hF2 q (by omega)
        have hL2 : ν2 q 1 = nI L := by
          rw [hq2]
          rw [show tm_N ν1 q (nI (it_F c L S1 o).1.1) (it_F c L S1 o).1.2 q 1 = ν1 q 1 by unfold tm_N; rw [u2_eq, ud_ne (by omega), u2_eq, ud_ne (by omega)]]; exact hL1
        have hc2 : ν2 (q + 1) = c := by rw [hF2 (q + 1) (by omega), tm_ne (by omega)]; exact hc1
        have hf2 : ∀ b : Nat, b ≠ q → (b < a ∨ a + 12 ≤ b) → ν2 b = ν b := fun b h1 h2 => by rw [hF2 b h2, tm_ne h1]; exact hf b h1 h2
        rw [show ν2 = tm_N ν2 q (nI (it_F c L S1 o).1.1) (it_F c L S1 o).1.2 from (tm_id (by rw [hq2]; unfold tm_N; rw [u2_eq, ud_ne (by omega), u2_eq, ud_eq]) (by rw [hq2]; unfold tm_N; rw [u2_eq, ud_eq])).symm]
        refine gg_iinc (i := 2) dc_T_readInto_46 rfl (Nat.le_of_ble_eq_true rfl) rfl ?_
        dsimp only [List.set]
        rw [show Int32.ofInt 1 = 1 from by decide]
        refine gg_aldn dc_T_readInto_49 rfl rfl ?_
        refine gg_okVv (sp_T_skipSpaces hq (ν := ν2) hL2 hc2 h100 (it_L h100 hlt).1) dc_T_readInto_50 ml_T_31 ce_T_skipSpaces ⟨Nat.le_of_ble_eq_true rfl, Nat.le_of_ble_eq_true rfl⟩ hq.1 rfl rfl (Nat.le_of_ble_eq_true rfl) ⟨rfl, rfl⟩ ⟨Nat.le_of_ble_eq_true rfl, Nat.le_of_ble_eq_true rfl⟩ ?_
        refine gg_goto dc_T_readInto_53 ?_
        refine gg_e (ih (i + 1) _ _ _ ν2 hX2 hL2 hc2 hf2 (so_L (it_L h100 hlt).1) (fun h => ?_) (fun h => ?_) (by rw [← hR]; exact (if_pos ⟨hlt, rfl⟩).symm)) (by rw [nI_1]) rfl rfl
        · have h1 := (it_L h100 hlt).2 h
          have h2 := so_g (c := c) (L := L) (o := (it_F c L S1 o).1.1)
          omega
        · have h1 := (it_L h100 hlt).2 h
          have h2 := so_g (c := c) (L := L) (o := (it_F c L S1 o).1.1)
          have := hie rfl
          omega
      intro i o e S1 ν1 hX hL1 hc1 hf hoL hfu hie hR
      have hL := hL1
      refine gg_ildn dc_T_readInto_16 rfl rfl ?_
      refine gg_bipush (v := 100) dc_T_readInto_17 (by decide) ?_
      refine gg_icge dc_T_readInto_19 (fun c_19 => ?_) (fun c_19 => ?_)
      · exact ext i o e S1 ν1 hX hL1 hf (by rw [← hR]; exact (ri_x _ (fun q => absurd c_19 (nI_ge (b := 100) (by have := hie q.2; omega) (by omega)))).symm)
      · refine gg_aldn dc_T_readInto_22 rfl rfl ?_
        refine gtt_o dc_T_readInto_23 lf_T_19 hq.1 ?_
        refine gg_aldn dc_T_readInto_26 rfl rfl ?_
        refine gtt_L dc_T_readInto_27 lf_T_15 hq.1 hL ?_
        refine gg_icge dc_T_readInto_30 (fun c_30 => ?_) (fun c_30 => ?_)
        · exact ext i o e S1 ν1 hX hL1 hf (by rw [← hR]; exact (ri_x _ (fun q => absurd c_30 (nI_ge q.1 (by omega)))).symm)
        · refine gg_aldn dc_T_readInto_33 rfl rfl ?_
          refine gtt_e dc_T_readInto_34 lf_T_22 hq.1 ?_
          refine gg_iconst (v := (-1)) dc_T_readInto_37 (by decide) ?_
          refine gg_icne dc_T_readInto_38 (fun c_38 => ?_) (fun c_38 => ?_)
          · exact ext i o e S1 ν1 hX hL1 hf (by rw [← hR]; exact (ri_x _ (fun q => c_38 q.2)).symm)
          · exact step i o e S1 ν1 hX hL1 hc1 hf (Classical.not_not.mp fun q => c_30 (nI_le (by omega) (by omega))) (by first | exact c_38 | exact Classical.not_not.mp c_38) hie (fun _ => hfu (by first | exact c_38 | exact Classical.not_not.mp c_38)) hR
  refine gg_aldn dc_T_readInto_0 rfl rfl ?_
  refine gg_iconst (v := 0) dc_T_readInto_1 (by decide) ?_
  refine gtt_po dc_T_readInto_2 lp_T_19 hq.1 ?_
  refine gg_aldn dc_T_readInto_5 rfl rfl ?_
  refine gg_iconst (v := (-1)) dc_T_readInto_6 (by decide) ?_
  refine gtt_pe dc_T_readInto_7 lp_T_22 hq.1 ?_
  refine gg_iconst (v := 0) dc_T_readInto_10 (by decide) ?_
  refine gg_istn (i := 2) dc_T_readInto_11 rfl (Nat.le_of_ble_eq_true rfl) rfl ?_
  dsimp only [List.set]
  refine gg_aldn dc_T_readInto_12 rfl rfl ?_
  refine gg_okVv (sp_T_skipSpaces hq hL hc h100 (Nat.zero_le _)) dc_T_readInto_13 ml_T_31 ce_T_skipSpaces ⟨Nat.le_of_ble_eq_true rfl, Nat.le_of_ble_eq_true rfl⟩ hq.1 rfl rfl (Nat.le_of_ble_eq_true rfl) ⟨rfl, rfl⟩ ⟨Nat.le_of_ble_eq_true rfl, Nat.le_of_ble_eq_true rfl⟩ ?_
  exact gg_e (loop _ 100 0 (so c L 0) (-1) S ν hX hL hc (fun _ _ _ => rfl) (so_L (Nat.zero_le _)) (fun _ => by omega) (fun _ => Nat.zero_le _) rfl) rfl rfl rfl
