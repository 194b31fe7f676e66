/-! the reference reads a text -/
/-- the reference's text holds the bytes of these characters -/
def TR (X : Nat → Nat → Int32) (c : Nat → Int32) (L : Nat) : Prop := X 0 7 = nI L ∧ L ≤ 100 ∧ ∀ k : Nat, k < L → X 5 k = (c k).toInt8.toInt32 ∧ ∃ j : Nat, j < 256 ∧ c k = nI j
def rx_N (X : Nat → Nat → Int32) (o n : Int32) : Nat → Nat → Int32 := up_2 (up_2 X 0 8 o) 0 9 n
theorem rx_a {X : Nat → Nat → Int32} {o n o' : Int32} : up_2 (rx_N X o n) 0 8 o' = rx_N X o' n := by
  funext a j; unfold rx_N up_2
  by_cases h : a = 0 <;> by_cases h2 : j = 8 <;> by_cases h3 : j = 9 <;> simp [h, h2, h3] <;> omega
theorem rx_n {X : Nat → Nat → Int32} {o n n' : Int32} : up_2 (rx_N X o n) 0 9 n' = rx_N X o n' := by
  funext a j; unfold rx_N up_2
  by_cases h : a = 0 <;> by_cases h3 : j = 9 <;> simp [h, h3]
theorem bt_T : ∀ j : Nat, j < 256 → (((nI j).toInt8.toInt32 = 32 ↔ nI j = 32) ∧ (nI j).toInt8.toInt32 &&& 255 = nI j) ∧ (in_I (nI j).toInt8.toInt32 48 57 = dg_I (nI j) ∧ (¬ dg_I (nI j) = 0 → (nI j).toInt8.toInt32 = nI j)) ∧ ((nI j).toInt8.toInt32 = 48 ↔ nI j = 48) ∧ ¬ nI j < 0 := by decide +kernel
section RULES4
variable {Γ : cx_T} {K : mt_K} {Q : Option Value → mm_T → Prop} {cs sl pc nx : Nat} {L9 : List (Option Value)} {st : List Value} {τ : Nat × (Nat → sh_T)} {ν : Nat → Nat → Int32} {m L idx : Nat} {X : Nat → Nat → Int32} {S c : Nat → Int32} {o n : Int32}
theorem grx_7 (hd : decode K.2.1 pc = .ok (.getfield idx, 3) ∧ pc + 3 = nx) (hf : lf_P K.1.cls idx 6 7) (hm : sh_M τ.2 m) (hT : TR X c L) (kk : gg_P Γ K Q cs sl nx L9 (.int (nI L) :: st) (τ, mv_N ν m (va_up (rx_N X o n) 1 S))) : gg_P Γ K Q cs sl pc L9 (.ref m :: st) (τ, mv_N ν m (va_up (rx_N X o n) 1 S)) := by
  refine gmx_g (k := 7) hd hf hm.1 rfl ?_
  rw [show va_up (rx_N X o n) 1 S 0 7 = nI L from hT.1]
  exact kk
theorem grx_8 (hd : decode K.2.1 pc = .ok (.getfield idx, 3) ∧ pc + 3 = nx) (hf : lf_P K.1.cls idx 6 8) (hm : sh_M τ.2 m) (kk : gg_P Γ K Q cs sl nx L9 (.int o :: st) (τ, mv_N ν m (va_up (rx_N X o n) 1 S))) : gg_P Γ K Q cs sl pc L9 (.ref m :: st) (τ, mv_N ν m (va_up (rx_N X o n) 1 S)) := gmx_g (k := 8) hd hf hm.1 rfl kk
theorem grx_9 (hd : decode K.2.1 pc = .ok (.getfield idx, 3) ∧ pc + 3 = nx) (hf : lf_P K.1.cls idx 6 9) (hm : sh_M τ.2 m) (kk : gg_P Γ K Q cs sl nx L9 (.int n :: st) (τ, mv_N ν m (va_up (rx_N X o n) 1 S))) : gg_P Γ K Q cs sl pc L9 (.ref m :: st) (τ, mv_N ν m (va_up (rx_N X o n) 1 S)) := gmx_g (k := 9) hd hf hm.1 rfl kk
theorem grx_p8 {v : Int32} (hd : decode K.2.1 pc = .ok (.putfield idx, 3) ∧ pc + 3 = nx) (hf : lp_P K.1.cls idx 6 8 false) (hm : sh_M τ.2 m) (kk : gg_P Γ K Q cs sl nx L9 st (τ, mv_N ν m (va_up (rx_N X v n) 1 S))) : gg_P Γ K Q cs sl pc L9 (.int v :: .ref m :: st) (τ, mv_N ν m (va_up (rx_N X o n) 1 S)) := by
  refine gmx_p (k := 8) hd hf hm.1 rfl ?_
  rw [up_c (by decide), rx_a]; exact kk
theorem grx_p9 {v : Int32} (hd : decode K.2.1 pc = .ok (.putfield idx, 3) ∧ pc + 3 = nx) (hf : lp_P K.1.cls idx 6 9 false) (hm : sh_M τ.2 m) (kk : gg_P Γ K Q cs sl nx L9 st (τ, mv_N ν m (va_up (rx_N X o v) 1 S))) : gg_P Γ K Q cs sl pc L9 (.int v :: .ref m :: st) (τ, mv_N ν m (va_up (rx_N X o n) 1 S)) := by
  refine gmx_p (k := 9) hd hf hm.1 rfl ?_
  rw [up_c (by decide), rx_n]; exact kk
theorem grx_b {i : Int32} {k : Nat} (hd : decode K.2.1 pc = .ok (.baload, 1) ∧ pc + 1 = nx) (hm : sh_M τ.2 m) (hT : TR X c L) (hi : i = nI k) (hk : k < L) (kk : gg_P Γ K Q cs sl nx L9 (.int (c k).toInt8.toInt32 :: st) (τ, mv_N ν m (va_up (rx_N X o n) 1 S))) : gg_P Γ K Q cs sl pc L9 (.int i :: .ref (m + 5) :: st) (τ, mv_N ν m (va_up (rx_N X o n) 1 S)) := by
  refine gmx_b (k := k) hd hm ⟨hi, by have := hT.2.1; omega⟩ ?_
  rw [show va_up (rx_N X o n) 1 S 5 k = (c k).toInt8.toInt32 from (hT.2.2 k hk).1]
  exact kk
end RULES4
theorem so_x {c : Nat → Int32} {L : Nat} : ∀ (d o : Nat), L - o = d → ¬ nx_I c L (so c L o) = 32
  | 0, o, hd => by
    have h : ¬ nx_I c L o = 32 := fun h => by have := nx_t h; omega
    rw [so_f h]; exact h
  | d + 1, o, hd => by
    by_cases h : nx_I c L o = 32
    · rw [so_t h]; exact so_x d (o + 1) (by omega)
    · rw [so_f h]; exact h
theorem so_so {c : Nat → Int32} {L o : Nat} : so c L (so c L o) = so c L o := so_f (so_x _ o rfl)
theorem nx_e {c : Nat → Int32} {L o : Nat} (h : L ≤ o) : nx_I c L o = -1 := if_neg (by omega)
theorem nx_i {c : Nat → Int32} {L o : Nat} (h : o < L) : nx_I c L o = c o := if_pos h
def rs_I (c : Nat → Int32) (L : Nat) (lo hi mb : Int32) (o : Nat) : Int32 := if dg_I (nx_I c L (fi_N c L mb o)) = 0 then 0 else if in_I (va_9 c L mb o) lo hi = 0 then 0 else if c (fi_N c L mb o) = 48 ∧ fi_N c L mb o + 1 < (rv_N c L mb o).2 then 0 else 1
def ro_N (c : Nat → Int32) (L : Nat) (lo hi mb : Int32) (o : Nat) : Nat := if rs_I c L lo hi mb o = 0 then fi_N c L mb o else (rv_N c L mb o).2
def tk_I (c : Nat → Int32) (L : Nat) (ch : Int32) (o : Nat) : Int32 := if nx_I c L (so c L o) = ch then 1 else 0
def tk_N (c : Nat → Int32) (L : Nat) (ch : Int32) (o : Nat) : Nat := if nx_I c L (so c L o) = ch then so c L o + 1 else so c L o
set_option maxRecDepth 100000 in
set_option maxHeartbeats 4000000 in
theorem sp_M_here {Γ : cx_T} {τ : Nat × (Nat → sh_T)} {ν : Nat → Nat → Int32} {X : Nat → Nat → Int32} {S : Nat → Int32} {m L : Nat} {c : Nat → Int32} (hm : sh_M τ.2 m) (hT : TR X c L) {o : Nat} {n : Int32} (ho : o ≤ L) : mt_P Γ mk_M_here [.ref m] (τ, mv_N ν m (va_up (rx_N X (nI o) (n)) 1 (S))) (fun v μ' => v = some (.int (nx_I c L (so c L o))) ∧ μ' = (τ, mv_N ν m (va_up (rx_N X (nI (so c L o)) (n)) 1 (S)))) := by
  refine mt_of (L := [some (.ref m)]) (by decide +kernel) (by simp [Value.category]) (Nat.le_of_ble_eq_true rfl) (lc_1_1 ()) ?_
  have h100 := hT.2.1
  have t38 : ∀ o : Nat, o ≤ L → gg_P Γ mk_M_here (fun v μ' => v = some (.int (nx_I c L o)) ∧ μ' = (τ, mv_N ν m (va_up (rx_N X (nI o) (n)) 1 (S)))) 0 0 38 [some (.ref m)] [] (τ, mv_N ν m (va_up (rx_N X (nI o) (n)) 1 (S))) := by
    intro o ho
    refine gg_aldn dc_M_here_38 rfl rfl ?_
    refine grx_8 dc_M_here_39 lf_M_79 hm ?_
    refine gg_aldn dc_M_here_42 rfl rfl ?_
    refine grx_7 dc_M_here_43 lf_M_76 hm hT ?_
    refine gg_icge dc_M_here_46 (fun c_46 => ?_) (fun c_46 => ?_)
    · refine gg_iconst (v := (-1)) dc_M_here_65 (by decide) ?_
      exact gg_iret dc_M_here_66 rfl ⟨Nat.le_of_ble_eq_true rfl, Nat.le_of_ble_eq_true rfl⟩ (⟨by rw [nx_e (Classical.not_not.mp fun q => absurd c_46 (nI_ge (by omega) (by omega)))], rfl⟩)
    · refine gg_aldn dc_M_here_49 rfl rfl ?_
      refine gg_getr dc_M_here_50 lf_M_22 hm.1 rfl ?_
      refine gg_aldn dc_M_here_53 rfl rfl ?_
      refine grx_8 dc_M_here_54 lf_M_79 hm ?_
      refine grx_b (k := o) dc_M_here_57 hm hT (rfl) ((Classical.not_not.mp fun q => c_46 (nI_le (by omega) (by omega)))) ?_
      refine gg_sipush (v := 255) dc_M_here_58 (by decide) ?_
      refine gg_iand dc_M_here_61 ?_
      refine gx_top (show (c o).toInt8.toInt32 &&& 255 = nx_I c L o by rw [nx_i (Classical.not_not.mp fun q => c_46 (nI_le (by omega) (by omega)))]; obtain ⟨j, hj, e⟩ := (hT.2.2 o (Classical.not_not.mp fun q => c_46 (nI_le (by omega) (by omega)))).2; rw [e]; exact (bt_T j hj).1.2) ?_
      refine gg_goto dc_M_here_62 ?_
      exact gg_iret dc_M_here_66 rfl ⟨Nat.le_of_ble_eq_true rfl, Nat.le_of_ble_eq_true rfl⟩ (⟨rfl, rfl⟩)
  have loop : ∀ (r d o : Nat), L - o ≤ d → o ≤ L → so c L o = r → gg_P Γ mk_M_here (fun v μ' => v = some (.int (nx_I c L r)) ∧ μ' = (τ, mv_N ν m (va_up (rx_N X (nI r) (n)) 1 (S)))) 0 0 0 [some (.ref m)] [] (τ, mv_N ν m (va_up (rx_N X (nI o) (n)) 1 (S))) := by
    intro r d
    induction d with
    | zero =>
      intro o hd ho hr
      refine gg_aldn dc_M_here_0 rfl rfl ?_
      refine grx_8 dc_M_here_1 lf_M_79 hm ?_
      refine gg_aldn dc_M_here_4 rfl rfl ?_
      refine grx_7 dc_M_here_5 lf_M_76 hm hT ?_
      refine gg_icge dc_M_here_8 (fun c_8 => ?_) (fun c_8 => ?_)
      · rw [← hr, so_f (fun h => by have := nx_t h; omega)]
        exact t38 o ho
      · exact absurd (nI_le (by omega) (by omega)) c_8
    | succ d ih =>
      intro o hd ho hr
      refine gg_aldn dc_M_here_0 rfl rfl ?_
      refine grx_8 dc_M_here_1 lf_M_79 hm ?_
      refine gg_aldn dc_M_here_4 rfl rfl ?_
      refine grx_7 dc_M_here_5 lf_M_76 hm hT ?_
      refine gg_icge dc_M_here_8 (fun c_8 => ?_) (fun c_8 => ?_)
      · rw [← hr, so_f (fun h => by have := nx_t h; exact absurd c_8 (nI_ge this (by omega)))]
        exact t38 o ho
      · refine gg_aldn dc_M_here_11 rfl rfl ?_
        refine gg_getr dc_M_here_12 lf_M_22 hm.1 rfl ?_
        refine gg_aldn dc_M_here_15 rfl rfl ?_
        have hlt : o < L := (Classical.not_not.mp fun q => c_8 (nI_le (by omega) (by omega)))
        refine grx_8 dc_M_here_16 lf_M_79 hm ?_
        refine grx_b (k := o) dc_M_here_19 hm hT (rfl) (hlt) ?_
        refine gg_bipush (v := 32) dc_M_here_20 (by decide) ?_
        refine gg_icne dc_M_here_22 (fun c_22 => ?_) (fun c_22 => ?_)
        · rw [← hr, so_f (fun h => c_22 (by have h9 := (nx_i (c := c) hlt).symm.trans h; obtain ⟨j, hj, e⟩ := (hT.2.2 o hlt).2; rw [e] at h9 ⊢; exact (bt_T j hj).1.1.mpr h9))]
          exact t38 o ho
        · refine gg_aldn dc_M_here_25 rfl rfl ?_
          refine gg_dup dc_M_here_26 rfl ?_
          refine grx_8 dc_M_here_27 lf_M_79 hm ?_
          refine gg_iconst (v := 1) dc_M_here_30 (by decide) ?_
          refine gg_iadd dc_M_here_31 ?_
          refine gx_top (nI_1 o) ?_
          refine grx_p8 dc_M_here_32 lp_M_79 hm ?_
          refine gg_goto dc_M_here_35 ?_
          have h32 : nx_I c L o = 32 := by rw [nx_i hlt]; obtain ⟨j, hj, e⟩ := (hT.2.2 o hlt).2; have h9 := (by first | exact c_22 | exact Classical.not_not.mp c_22); rw [e] at h9 ⊢; exact (bt_T j hj).1.1.mp h9
          exact ih (o + 1) (by omega) (by omega) (by rw [← hr]; exact (so_t h32).symm)
  exact loop _ _ o (Nat.le_refl _) ho rfl
set_option maxRecDepth 100000 in
set_option maxHeartbeats 4000000 in
theorem sp_M_takes {Γ : cx_T} {τ : Nat × (Nat → sh_T)} {ν : Nat → Nat → Int32} {X : Nat → Nat → Int32} {S : Nat → Int32} {m L : Nat} {c : Nat → Int32} (hm : sh_M τ.2 m) (hT : TR X c L) {o : Nat} {n ch : Int32} (ho : o ≤ L) : mt_P Γ mk_M_takes [.ref m, .int ch] (τ, mv_N ν m (va_up (rx_N X (nI o) (n)) 1 (S))) (fun v μ' => v = some (.int (tk_I c L ch o)) ∧ μ' = (τ, mv_N ν m (va_up (rx_N X (nI (tk_N c L ch o)) (n)) 1 (S)))) := by
  refine mt_of (L := [some (.ref m), some (.int ch), none]) (by decide +kernel) (by simp [Value.category]) (Nat.le_of_ble_eq_true rfl) (lc_2_3 ()) ?_
  refine gg_aldn dc_M_takes_0 rfl rfl ?_
  refine gg_okV (sp_M_here hm hT ho) dc_M_takes_1 ml_M_82 ce_M_here ⟨Nat.le_of_ble_eq_true rfl, Nat.le_of_ble_eq_true rfl⟩ hm.1 rfl rfl (Nat.le_of_ble_eq_true rfl) ⟨rfl, rfl⟩ ⟨Nat.le_of_ble_eq_true rfl, Nat.le_of_ble_eq_true rfl⟩ ?_
  refine gg_ildn dc_M_takes_4 rfl rfl ?_
  refine gg_icne dc_M_takes_5 (fun c_5 => ?_) (fun c_5 => ?_)
  · refine gg_iconst (v := 0) dc_M_takes_12 (by decide) ?_
    refine gg_istn (i := 2) dc_M_takes_13 rfl (Nat.le_of_ble_eq_true rfl) rfl ?_
    dsimp only [List.set]
    refine gg_aldn dc_M_takes_14 rfl rfl ?_
    refine gg_dup dc_M_takes_15 rfl ?_
    refine grx_8 dc_M_takes_16 lf_M_79 hm ?_
    refine gg_ildn dc_M_takes_19 rfl rfl ?_
    refine gg_ifeq dc_M_takes_20 (fun c_20 => ?_) (fun c_20 => ?_)
    · refine gg_iconst (v := 0) dc_M_takes_27 (by decide) ?_
      refine gg_iadd dc_M_takes_28 ?_
      refine gx_top (Int32.add_zero (nI (so c L o))) ?_
      refine grx_p8 dc_M_takes_29 lp_M_79 hm ?_
      refine gg_ildn dc_M_takes_32 rfl rfl ?_
      exact gg_zret dc_M_takes_33 rfl (by first | exact Or.inl rfl | exact Or.inr rfl | assumption) ⟨Nat.le_of_ble_eq_true rfl, Nat.le_of_ble_eq_true rfl⟩ (⟨by unfold tk_I; rw [if_neg c_5], by unfold tk_N; rw [if_neg c_5]⟩)
    · exact absurd rfl c_20
  · refine gg_iconst (v := 1) dc_M_takes_8 (by decide) ?_
    refine gg_goto dc_M_takes_9 ?_
    refine gg_istn (i := 2) dc_M_takes_13 rfl (Nat.le_of_ble_eq_true rfl) rfl ?_
    dsimp only [List.set]
    have h5 : nx_I c L (so c L o) = ch := (by first | exact c_5 | exact Classical.not_not.mp c_5)
    refine gg_aldn dc_M_takes_14 rfl rfl ?_
    refine gg_dup dc_M_takes_15 rfl ?_
    refine grx_8 dc_M_takes_16 lf_M_79 hm ?_
    refine gg_ildn dc_M_takes_19 rfl rfl ?_
    refine gg_ifeq dc_M_takes_20 (fun c_20 => ?_) (fun c_20 => ?_)
    · exact absurd c_20 (by decide)
    · refine gg_iconst (v := 1) dc_M_takes_23 (by decide) ?_
      refine gg_goto dc_M_takes_24 ?_
      refine gg_iadd dc_M_takes_28 ?_
      refine gx_top (nI_1 (so c L o)) ?_
      refine grx_p8 dc_M_takes_29 lp_M_79 hm ?_
      refine gg_ildn dc_M_takes_32 rfl rfl ?_
      exact gg_zret dc_M_takes_33 rfl (by first | exact Or.inl rfl | exact Or.inr rfl | assumption) ⟨Nat.le_of_ble_eq_true rfl, Nat.le_of_ble_eq_true rfl⟩ (⟨by unfold tk_I; rw [if_pos h5], by unfold tk_N; rw [if_pos h5]⟩)
theorem tk_L {c : Nat → Int32} {L o : Nat} {ch : Int32} (hch : ¬ ch = -1) (h : o ≤ L) : o ≤ tk_N c L ch o ∧ tk_N c L ch o ≤ L := by
  have h1 := so_g (c := c) (L := L) (o := o)
  have h2 := so_L (c := c) h
  unfold tk_N
  by_cases hx : nx_I c L (so c L o) = ch
  · rw [if_pos hx]
    have : so c L o < L := Classical.not_not.mp fun q => hch (by rw [← hx]; exact nx_e (by omega))
    exact ⟨by omega, by omega⟩
  · rw [if_neg hx]; exact ⟨h1, h2⟩
set_option maxRecDepth 100000 in
set_option maxHeartbeats 4000000 in
theorem sp_M_reads {Γ : cx_T} {τ : Nat × (Nat → sh_T)} {ν : Nat → Nat → Int32} {X : Nat → Nat → Int32} {S : Nat → Int32} {m L : Nat} {c : Nat → Int32} (hm : sh_M τ.2 m) (hT : TR X c L) {o : Nat} {n lo hi mb : Int32} (ho : o ≤ L) : mt_P Γ mk_M_reads [.ref m, .int mb, .int lo, .int hi] (τ, mv_N ν m (va_up (rx_N X (nI o) (n)) 1 (S))) (fun v μ' => v = some (.int (rs_I c L lo hi mb o)) ∧ μ' = (τ, mv_N ν m (va_up (rx_N X (nI (ro_N c L lo hi mb o)) ((if dg_I (nx_I c L (fi_N c L mb o)) = 0 then n else va_9 c L mb o))) 1 (S)))) := by
  refine mt_of (L := [some (.ref m), some (.int mb), some (.int lo), some (.int hi), none, none]) (by decide +kernel) (by simp [Value.category]) (Nat.le_of_ble_eq_true rfl) (lc_4_6 ()) ?_
  have h100 := hT.2.1
  have hfi := fi_le (c := c) (L := L) (o := o) (mb := mb) ho
  have hrv := rv_le (c := c) (L := L) (o := o) (mb := mb) ho
  have bt9 : ∀ k : Nat, k < L → in_I (c k).toInt8.toInt32 48 57 = dg_I (c k) ∧ (¬ dg_I (c k) = 0 → (c k).toInt8.toInt32 = c k) := by
    intro k hk
    obtain ⟨j, hj, e⟩ := (hT.2.2 k hk).2
    rw [e]; exact (bt_T j hj).2.1
  have t146 : ∀ ng : Int32, ¬ dg_I (nx_I c L (fi_N c L mb o)) = 0 → fi_N c L mb o < L → gg_P Γ mk_M_reads (fun v μ' => v = some (.int (rs_I c L lo hi mb o)) ∧ μ' = (τ, mv_N ν m (va_up (rx_N X (nI (ro_N c L lo hi mb o)) ((if dg_I (nx_I c L (fi_N c L mb o)) = 0 then n else va_9 c L mb o))) 1 (S)))) 0 0 146 [some (.ref m), some (.int mb), some (.int lo), some (.int hi), some (.int ng), some (.int (nI (fi_N c L mb o)))] [] (τ, mv_N ν m (va_up (rx_N X (nI (rv_N c L mb o).2) (va_9 c L mb o)) 1 (S))) := by
    intro ng hdg hfl
    have h48 : (c (fi_N c L mb o)).toInt8.toInt32 = 48 ↔ c (fi_N c L mb o) = 48 := by
      obtain ⟨j, hj, e⟩ := (hT.2.2 _ hfl).2
      rw [e]; exact (bt_T j hj).2.2.1
    refine gg_aldn dc_M_reads_146 rfl rfl ?_
    refine grx_9 dc_M_reads_147 lf_M_89 hm ?_
    refine gg_ildn dc_M_reads_150 rfl rfl ?_
    refine gg_ildn dc_M_reads_151 rfl rfl ?_
    refine gg_okS (sp_M_in) dc_M_reads_152 ml_M_31 ce_M_in ⟨Nat.le_of_ble_eq_true rfl, Nat.le_of_ble_eq_true rfl⟩ rfl (Nat.le_of_ble_eq_true rfl) ⟨rfl, rfl⟩ ⟨Nat.le_of_ble_eq_true rfl, Nat.le_of_ble_eq_true rfl⟩ ?_
    refine gg_ifeq dc_M_reads_155 (fun c_155 => ?_) (fun c_155 => ?_)
    · refine gg_aldn dc_M_reads_181 rfl rfl ?_
      refine gg_ild dc_M_reads_182 rfl ?_
      refine grx_p8 dc_M_reads_184 lp_M_79 hm ?_
      refine gg_iconst (v := 0) dc_M_reads_187 (by decide) ?_
      exact gg_zret dc_M_reads_188 rfl (by first | exact Or.inl rfl | exact Or.inr rfl | assumption) ⟨Nat.le_of_ble_eq_true rfl, Nat.le_of_ble_eq_true rfl⟩ (⟨by rw [show rs_I c L lo hi mb o = 0 by unfold rs_I; rw [if_neg hdg, if_pos c_155]], by unfold ro_N; rw [show rs_I c L lo hi mb o = 0 by unfold rs_I; rw [if_neg hdg, if_pos c_155], if_pos rfl, if_neg hdg]⟩)
    · refine gg_aldn dc_M_reads_158 rfl rfl ?_
      refine gg_getr dc_M_reads_159 lf_M_22 hm.1 rfl ?_
      refine gg_ild dc_M_reads_162 rfl ?_
      refine grx_b (k := fi_N c L mb o) dc_M_reads_164 hm hT (rfl) (hfl) ?_
      refine gg_bipush (v := 48) dc_M_reads_165 (by decide) ?_
      refine gg_icne dc_M_reads_167 (fun c_167 => ?_) (fun c_167 => ?_)
      · refine gg_iconst (v := 1) dc_M_reads_189 (by decide) ?_
        exact gg_zret dc_M_reads_190 rfl (by first | exact Or.inl rfl | exact Or.inr rfl | assumption) ⟨Nat.le_of_ble_eq_true rfl, Nat.le_of_ble_eq_true rfl⟩ (⟨by rw [show rs_I c L lo hi mb o = 1 by unfold rs_I; rw [if_neg hdg, if_neg c_155, if_neg (fun q => c_167 (h48.mpr q.1))]], by unfold ro_N; rw [show rs_I c L lo hi mb o = 1 by unfold rs_I; rw [if_neg hdg, if_neg c_155, if_neg (fun q => c_167 (h48.mpr q.1))], if_neg (by decide), if_neg hdg]⟩)
      · refine gg_aldn dc_M_reads_170 rfl rfl ?_
        refine grx_8 dc_M_reads_171 lf_M_79 hm ?_
        refine gg_ild dc_M_reads_174 rfl ?_
        refine gg_iconst (v := 1) dc_M_reads_176 (by decide) ?_
        refine gg_iadd dc_M_reads_177 ?_
        refine gx_top (nI_1 (fi_N c L mb o)) ?_
        refine gg_icle dc_M_reads_178 (fun c_178 => ?_) (fun c_178 => ?_)
        · refine gg_iconst (v := 1) dc_M_reads_189 (by decide) ?_
          exact gg_zret dc_M_reads_190 rfl (by first | exact Or.inl rfl | exact Or.inr rfl | assumption) ⟨Nat.le_of_ble_eq_true rfl, Nat.le_of_ble_eq_true rfl⟩ (⟨by rw [show rs_I c L lo hi mb o = 1 by unfold rs_I; rw [if_neg hdg, if_neg c_155, if_neg (fun q => absurd c_178 (nI_ge q.2 (by omega)))]], by unfold ro_N; rw [show rs_I c L lo hi mb o = 1 by unfold rs_I; rw [if_neg hdg, if_neg c_155, if_neg (fun q => absurd c_178 (nI_ge q.2 (by omega)))], if_neg (by decide), if_neg hdg]⟩)
        · refine gg_aldn dc_M_reads_181 rfl rfl ?_
          refine gg_ild dc_M_reads_182 rfl ?_
          refine grx_p8 dc_M_reads_184 lp_M_79 hm ?_
          refine gg_iconst (v := 0) dc_M_reads_187 (by decide) ?_
          exact gg_zret dc_M_reads_188 rfl (by first | exact Or.inl rfl | exact Or.inr rfl | assumption) ⟨Nat.le_of_ble_eq_true rfl, Nat.le_of_ble_eq_true rfl⟩ (⟨by rw [show rs_I c L lo hi mb o = 0 by unfold rs_I; rw [if_neg hdg, if_neg c_155, if_pos ⟨h48.mp (by first | exact c_167 | exact Classical.not_not.mp c_167), Classical.not_not.mp fun q => c_178 (nI_le (by omega) (by omega))⟩]], by unfold ro_N; rw [show rs_I c L lo hi mb o = 0 by unfold rs_I; rw [if_neg hdg, if_neg c_155, if_pos ⟨h48.mp (by first | exact c_167 | exact Classical.not_not.mp c_167), Classical.not_not.mp fun q => c_178 (nI_le (by omega) (by omega))⟩], if_pos rfl, if_neg hdg]⟩)
  have t125 : ∀ ng : Int32, ¬ dg_I (nx_I c L (fi_N c L mb o)) = 0 → fi_N c L mb o < L → (ng = 0 ∧ ¬ ng_B c L mb o ∨ ng = 1 ∧ ng_B c L mb o) → gg_P Γ mk_M_reads (fun v μ' => v = some (.int (rs_I c L lo hi mb o)) ∧ μ' = (τ, mv_N ν m (va_up (rx_N X (nI (ro_N c L lo hi mb o)) ((if dg_I (nx_I c L (fi_N c L mb o)) = 0 then n else va_9 c L mb o))) 1 (S)))) 0 0 125 [some (.ref m), some (.int mb), some (.int lo), some (.int hi), some (.int ng), some (.int (nI (fi_N c L mb o)))] [] (τ, mv_N ν m (va_up (rx_N X (nI (rv_N c L mb o).2) ((rv_N c L mb o).1)) 1 (S))) := by
    intro ng hdg hfl hng
    have t146 := t146 ng hdg hfl
    refine gg_aldn dc_M_reads_125 rfl rfl ?_
    refine gg_ild dc_M_reads_126 rfl ?_
    refine gg_ifeq dc_M_reads_128 (fun c_128 => ?_) (fun c_128 => ?_)
    · refine gg_aldn dc_M_reads_139 rfl rfl ?_
      refine grx_9 dc_M_reads_140 lf_M_89 hm ?_
      refine grx_p9 dc_M_reads_143 lp_M_89 hm ?_
      exact gg_e t146 rfl rfl (by rw [show va_9 c L mb o = (rv_N c L mb o).1 from if_neg (hng.elim (fun q => q.2) (fun q => absurd (q.1.symm.trans c_128) (by decide)))])
    · refine gg_aldn dc_M_reads_131 rfl rfl ?_
      refine grx_9 dc_M_reads_132 lf_M_89 hm ?_
      refine gg_ineg dc_M_reads_135 ?_
      refine gg_goto dc_M_reads_136 ?_
      refine grx_p9 dc_M_reads_143 lp_M_89 hm ?_
      exact gg_e t146 rfl rfl (by rw [show va_9 c L mb o = -(rv_N c L mb o).1 from if_pos (hng.elim (fun q => absurd q.1 c_128) (fun q => q.2))])
  have loop : ∀ ng : Int32, ¬ dg_I (nx_I c L (fi_N c L mb o)) = 0 → fi_N c L mb o < L → (ng = 0 ∧ ¬ ng_B c L mb o ∨ ng = 1 ∧ ng_B c L mb o) → ∀ (d u i : Nat) (v : Int32), i + d = 5 → fi_N c L mb o + i = u → u ≤ L → rd_D c L d u v = (rv_N c L mb o) → gg_P Γ mk_M_reads (fun v μ' => v = some (.int (rs_I c L lo hi mb o)) ∧ μ' = (τ, mv_N ν m (va_up (rx_N X (nI (ro_N c L lo hi mb o)) ((if dg_I (nx_I c L (fi_N c L mb o)) = 0 then n else va_9 c L mb o))) 1 (S)))) 0 0 47 [some (.ref m), some (.int mb), some (.int lo), some (.int hi), some (.int ng), some (.int (nI (fi_N c L mb o)))] [] (τ, mv_N ν m (va_up (rx_N X (nI u) (v)) 1 (S))) := by
    intro ng hdg hfl hng d
    have t125 := t125 ng hdg hfl hng
    induction d with
    | zero =>
      intro u i v hi hu huL hR9
      refine gg_aldn dc_M_reads_47 rfl rfl ?_
      refine grx_8 dc_M_reads_48 lf_M_79 hm ?_
      refine gg_aldn dc_M_reads_51 rfl rfl ?_
      refine grx_7 dc_M_reads_52 lf_M_76 hm hT ?_
      refine gg_icge dc_M_reads_55 (fun c_55 => ?_) (fun c_55 => ?_)
      · exact gg_e t125 rfl rfl (by rw [← hR9, show rd_D c L 0 u v = (v, u) from rfl])
      · refine gg_aldn dc_M_reads_58 rfl rfl ?_
        refine grx_8 dc_M_reads_59 lf_M_79 hm ?_
        refine gg_ild dc_M_reads_62 rfl ?_
        refine gg_isub dc_M_reads_64 ?_
        refine gx_top (show nI u - nI (fi_N c L mb o) = nI i by rw [pk_sub (by omega), show u - (fi_N c L mb o) = i by omega]) ?_
        refine gg_iconst (v := 5) dc_M_reads_65 (by decide) ?_
        refine gg_icge dc_M_reads_66 (fun c_66 => ?_) (fun c_66 => ?_)
        · exact gg_e t125 rfl rfl (by rw [← hR9, show rd_D c L 0 u v = (v, u) from rfl])
        · exact absurd (nI_le (a := 5) (by omega) (by omega)) c_66
    | succ d ih =>
      intro u i v hi hu huL hR9
      refine gg_aldn dc_M_reads_47 rfl rfl ?_
      refine grx_8 dc_M_reads_48 lf_M_79 hm ?_
      refine gg_aldn dc_M_reads_51 rfl rfl ?_
      refine grx_7 dc_M_reads_52 lf_M_76 hm hT ?_
      refine gg_icge dc_M_reads_55 (fun c_55 => ?_) (fun c_55 => ?_)
      · exact gg_e t125 rfl rfl (by rw [← hR9, show rd_D c L (d + 1) u v = (v, u) from if_pos (by rw [nx_e (Classical.not_not.mp fun q => absurd c_55 (nI_ge (by omega) (by omega)))]; decide)])
      · refine gg_aldn dc_M_reads_58 rfl rfl ?_
        refine grx_8 dc_M_reads_59 lf_M_79 hm ?_
        refine gg_ild dc_M_reads_62 rfl ?_
        refine gg_isub dc_M_reads_64 ?_
        refine gx_top (show nI u - nI (fi_N c L mb o) = nI i by rw [pk_sub (by omega), show u - (fi_N c L mb o) = i by omega]) ?_
        refine gg_iconst (v := 5) dc_M_reads_65 (by decide) ?_
        refine gg_icge dc_M_reads_66 (fun c_66 => ?_) (fun c_66 => ?_)
        · exact absurd c_66 (nI_ge (b := 5) (by omega) (by omega))
        · have hul : u < L := (Classical.not_not.mp fun q => c_55 (nI_le (by omega) (by omega)))
          refine gg_aldn dc_M_reads_69 rfl rfl ?_
          refine gg_getr dc_M_reads_70 lf_M_22 hm.1 rfl ?_
          refine gg_aldn dc_M_reads_73 rfl rfl ?_
          refine grx_8 dc_M_reads_74 lf_M_79 hm ?_
          refine grx_b (k := u) dc_M_reads_77 hm hT (rfl) (hul) ?_
          refine gg_bipush (v := 48) dc_M_reads_78 (by decide) ?_
          refine gg_bipush (v := 57) dc_M_reads_80 (by decide) ?_
          refine gg_okS (sp_M_in) dc_M_reads_82 ml_M_31 ce_M_in ⟨Nat.le_of_ble_eq_true rfl, Nat.le_of_ble_eq_true rfl⟩ rfl (Nat.le_of_ble_eq_true rfl) ⟨rfl, rfl⟩ ⟨Nat.le_of_ble_eq_true rfl, Nat.le_of_ble_eq_true rfl⟩ ?_
          refine gg_ifeq dc_M_reads_85 (fun c_85 => ?_) (fun c_85 => ?_)
          · exact gg_e t125 rfl rfl (by rw [← hR9, show rd_D c L (d + 1) u v = (v, u) from if_pos (by rw [nx_i hul, ← (bt9 u hul).1]; exact c_85)])
          · refine gg_aldn dc_M_reads_88 rfl rfl ?_
            refine gg_bipush (v := 10) dc_M_reads_89 (by decide) ?_
            refine gg_aldn dc_M_reads_91 rfl rfl ?_
            refine grx_9 dc_M_reads_92 lf_M_89 hm ?_
            refine gg_imul dc_M_reads_95 ?_
            refine gg_aldn dc_M_reads_96 rfl rfl ?_
            refine gg_getr dc_M_reads_97 lf_M_22 hm.1 rfl ?_
            refine gg_aldn dc_M_reads_100 rfl rfl ?_
            refine grx_8 dc_M_reads_101 lf_M_79 hm ?_
            refine grx_b (k := u) dc_M_reads_104 hm hT (rfl) (hul) ?_
            refine gg_iadd dc_M_reads_105 ?_
            refine gg_bipush (v := 48) dc_M_reads_106 (by decide) ?_
            refine gg_isub dc_M_reads_108 ?_
            refine gx_top (show 10 * v + (c u).toInt8.toInt32 - 48 = v * 10 + nx_I c L u - 48 by rw [nx_i hul, (bt9 u hul).2 (fun q => c_85 ((bt9 u hul).1.trans q)), Int32.mul_comm]) ?_
            refine grx_p9 dc_M_reads_109 lp_M_89 hm ?_
            refine gg_aldn dc_M_reads_112 rfl rfl ?_
            refine gg_dup dc_M_reads_113 rfl ?_
            refine grx_8 dc_M_reads_114 lf_M_79 hm ?_
            refine gg_iconst (v := 1) dc_M_reads_117 (by decide) ?_
            refine gg_iadd dc_M_reads_118 ?_
            refine gx_top (nI_1 u) ?_
            refine grx_p8 dc_M_reads_119 lp_M_79 hm ?_
            refine gg_goto dc_M_reads_122 ?_
            have hd9 : ¬ dg_I (nx_I c L u) = 0 := fun q => c_85 (by rw [(bt9 u hul).1]; rw [nx_i hul] at q; exact q)
            exact ih (u + 1) (i + 1) _ (by omega) (by omega) (by omega) (by rw [← hR9]; exact (if_neg hd9).symm)
  have t20 : ∀ (ng : Int32) (o1 : Nat), (ng = 0 ∧ ¬ ng_B c L mb o ∨ ng = 1 ∧ ng_B c L mb o) → o1 ≤ L → so c L o1 = fi_N c L mb o → gg_P Γ mk_M_reads (fun v μ' => v = some (.int (rs_I c L lo hi mb o)) ∧ μ' = (τ, mv_N ν m (va_up (rx_N X (nI (ro_N c L lo hi mb o)) ((if dg_I (nx_I c L (fi_N c L mb o)) = 0 then n else va_9 c L mb o))) 1 (S)))) 0 0 20 [some (.ref m), some (.int mb), some (.int lo), some (.int hi), some (.int ng), none] [] (τ, mv_N ν m (va_up (rx_N X (nI o1) (n)) 1 (S))) := by
    intro ng o1 hng ho1 ho2
    refine gg_aldn dc_M_reads_20 rfl rfl ?_
    refine gg_okV (sp_M_here hm hT ho1) dc_M_reads_21 ml_M_82 ce_M_here ⟨Nat.le_of_ble_eq_true rfl, Nat.le_of_ble_eq_true rfl⟩ hm.1 rfl rfl (Nat.le_of_ble_eq_true rfl) ⟨rfl, rfl⟩ ⟨Nat.le_of_ble_eq_true rfl, Nat.le_of_ble_eq_true rfl⟩ ?_
    rw [ho2]
    refine gg_bipush (v := 48) dc_M_reads_24 (by decide) ?_
    refine gg_bipush (v := 57) dc_M_reads_26 (by decide) ?_
    refine gg_okS (sp_M_in) dc_M_reads_28 ml_M_31 ce_M_in ⟨Nat.le_of_ble_eq_true rfl, Nat.le_of_ble_eq_true rfl⟩ rfl (Nat.le_of_ble_eq_true rfl) ⟨rfl, rfl⟩ ⟨Nat.le_of_ble_eq_true rfl, Nat.le_of_ble_eq_true rfl⟩ ?_
    refine gg_ifne dc_M_reads_31 (fun c_31 => ?_) (fun c_31 => ?_)
    · have hdg : ¬ dg_I (nx_I c L (fi_N c L mb o)) = 0 := c_31
      have hfl := dg_t hdg
      refine gg_aldn dc_M_reads_36 rfl rfl ?_
      refine grx_8 dc_M_reads_37 lf_M_79 hm ?_
      refine gg_ist (i := 5) dc_M_reads_40 (Nat.le_of_ble_eq_true rfl) rfl ?_
      dsimp only [List.set]
      refine gg_aldn dc_M_reads_42 rfl rfl ?_
      refine gg_iconst (v := 0) dc_M_reads_43 (by decide) ?_
      refine grx_p9 dc_M_reads_44 lp_M_89 hm ?_
      exact loop ng hdg hfl hng 5 (fi_N c L mb o) 0 0 rfl rfl hfi.2 rfl
    · refine gg_iconst (v := 0) dc_M_reads_34 (by decide) ?_
      exact gg_zret dc_M_reads_35 rfl (by first | exact Or.inl rfl | exact Or.inr rfl | assumption) ⟨Nat.le_of_ble_eq_true rfl, Nat.le_of_ble_eq_true rfl⟩ (⟨by rw [show rs_I c L lo hi mb o = 0 from if_pos (show dg_I (nx_I c L (fi_N c L mb o)) = 0 from c_31)], by unfold ro_N; rw [show rs_I c L lo hi mb o = 0 from if_pos (show dg_I (nx_I c L (fi_N c L mb o)) = 0 from c_31), if_pos rfl, if_pos (show dg_I (nx_I c L (fi_N c L mb o)) = 0 from c_31)]⟩)
  refine gg_ildn dc_M_reads_0 rfl rfl ?_
  refine gg_ifeq dc_M_reads_1 (fun c_1 => ?_) (fun c_1 => ?_)
  · refine gg_iconst (v := 0) dc_M_reads_17 (by decide) ?_
    refine gg_ist (i := 4) dc_M_reads_18 (Nat.le_of_ble_eq_true rfl) rfl ?_
    dsimp only [List.set]
    exact t20 0 o (Or.inl ⟨rfl, fun q => q.1 c_1⟩) ho (if_neg (fun q => q.1 c_1)).symm
  · refine gg_aldn dc_M_reads_4 rfl rfl ?_
    refine gg_bipush (v := 45) dc_M_reads_5 (by decide) ?_
    refine gg_okV (sp_M_takes hm hT ho) dc_M_reads_7 ml_M_86 ce_M_takes ⟨Nat.le_of_ble_eq_true rfl, Nat.le_of_ble_eq_true rfl⟩ hm.1 rfl rfl (Nat.le_of_ble_eq_true rfl) ⟨rfl, rfl⟩ ⟨Nat.le_of_ble_eq_true rfl, Nat.le_of_ble_eq_true rfl⟩ ?_
    refine gg_ifeq dc_M_reads_10 (fun c_10 => ?_) (fun c_10 => ?_)
    · refine gg_iconst (v := 0) dc_M_reads_17 (by decide) ?_
      refine gg_ist (i := 4) dc_M_reads_18 (Nat.le_of_ble_eq_true rfl) rfl ?_
      dsimp only [List.set]
      have hx9 : ¬ nx_I c L (so c L o) = 45 := fun q => absurd c_10 (by unfold tk_I; rw [if_pos q]; decide)
      exact gg_e (t20 0 (so c L o) (Or.inl ⟨rfl, fun q => hx9 q.2⟩) (so_L ho) (by rw [so_so]; exact (if_neg (fun q => hx9 q.2)).symm)) rfl rfl (by unfold tk_N; rw [if_neg hx9])
    · refine gg_iconst (v := 1) dc_M_reads_13 (by decide) ?_
      refine gg_goto dc_M_reads_14 ?_
      refine gg_ist (i := 4) dc_M_reads_18 (Nat.le_of_ble_eq_true rfl) rfl ?_
      dsimp only [List.set]
      have hx9 : nx_I c L (so c L o) = 45 := Classical.not_not.mp fun q => c_10 (by unfold tk_I; rw [if_neg q])
      exact gg_e (t20 1 (so c L o + 1) (Or.inr ⟨rfl, c_1, hx9⟩) (ng_t ⟨c_1, hx9⟩) (if_pos ⟨c_1, hx9⟩).symm) rfl rfl (by unfold tk_N; rw [if_pos hx9])
