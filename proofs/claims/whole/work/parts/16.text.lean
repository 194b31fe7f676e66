/-! the text that tables are read from -/
def sh_Tx (sh : Nat → sh_T) (q : Nat) : Prop := sh q = .inr (.inr (4, [some (some (q + 1)), none, none, none])) ∧ sh (q + 1) = .inl (0, 100)
def tm_N (ν : Nat → Nat → Int32) (q : Nat) (o e : Int32) : Nat → Nat → Int32 := up_2 (up_2 ν q 2 o) q 3 e
theorem tm_o {ν : Nat → Nat → Int32} {q : Nat} {o e o' : Int32} : up_2 (tm_N ν q o e) q 2 o' = tm_N ν q o' e := by
  funext a j; unfold tm_N up_2
  by_cases h : a = q <;> by_cases h2 : j = 2 <;> by_cases h3 : j = 3 <;> simp [h, h2, h3] <;> omega
theorem tm_e {ν : Nat → Nat → Int32} {q : Nat} {o e e' : Int32} : up_2 (tm_N ν q o e) q 3 e' = tm_N ν q o e' := by
  funext a j; unfold tm_N up_2
  by_cases h : a = q <;> by_cases h3 : j = 3 <;> simp [h, h3]
theorem tm_ne {ν : Nat → Nat → Int32} {q c : Nat} {o e : Int32} (h : c ≠ q) : tm_N ν q o e c = ν c := by
  unfold tm_N; rw [u2_ne h, u2_ne h]
theorem tm_id {ν : Nat → Nat → Int32} {q : Nat} {o e : Int32} (ho : ν q 2 = o) (he : ν q 3 = e) : tm_N ν q o e = ν := by
  funext a j; unfold tm_N up_2
  by_cases h : a = q
  · subst h
    by_cases h3 : j = 3
    · subst h3; simp [he]
    · by_cases h2 : j = 2
      · subst h2; simp [ho]
      · simp [h2, h3]
  · simp [h]
theorem tm_tm {ν : Nat → Nat → Int32} {q : Nat} {o e o' e' : Int32} : tm_N (tm_N ν q o e) q o' e' = tm_N ν q o' e' := by
  rw [show tm_N (tm_N ν q o e) q o' e' = up_2 (up_2 (tm_N ν q o e) q 2 o') q 3 e' from rfl, tm_o, tm_e]
section RULES3
variable {Γ : cx_T} {K : mt_K} {Q : Option Value → mm_T → Prop} {cs sl pc nx : Nat} {L9 : List (Option Value)} {st : List Value} {τ : Nat × (Nat → sh_T)} {ν : Nat → Nat → Int32} {q L idx : Nat} {o e : Int32} {fl : List (Option (Option Nat))}
theorem gtt_L (hd : decode K.2.1 pc = .ok (.getfield idx, 3) ∧ pc + 3 = nx) (hf : lf_P K.1.cls idx 4 1) (hs : τ.2 q = .inr (.inr (4, [some (some (q + 1)), none, none, none]))) (hL : ν q 1 = nI L) (kk : gg_P Γ K Q cs sl nx L9 (.int (nI L) :: st) (τ, tm_N ν q o e)) : gg_P Γ K Q cs sl pc L9 (.ref q :: st) (τ, tm_N ν q o e) := by
  refine gx_geti hd hf hs rfl ?_
  rw [show tm_N ν q o e q 1 = nI L by unfold tm_N; rw [u2_eq, ud_ne (by omega), u2_eq, ud_ne (by omega)]; exact hL]
  exact kk
theorem gtt_o (hd : decode K.2.1 pc = .ok (.getfield idx, 3) ∧ pc + 3 = nx) (hf : lf_P K.1.cls idx 4 2) (hs : τ.2 q = .inr (.inr (4, [some (some (q + 1)), none, none, none]))) (kk : gg_P Γ K Q cs sl nx L9 (.int o :: st) (τ, tm_N ν q o e)) : gg_P Γ K Q cs sl pc L9 (.ref q :: st) (τ, tm_N ν q o e) := by
  refine gx_geti hd hf hs rfl ?_
  rw [show tm_N ν q o e q 2 = o by unfold tm_N; rw [u2_eq, ud_ne (by omega), u2_eq, ud_eq]]
  exact kk
theorem gtt_e (hd : decode K.2.1 pc = .ok (.getfield idx, 3) ∧ pc + 3 = nx) (hf : lf_P K.1.cls idx 4 3) (hs : τ.2 q = .inr (.inr (4, [some (some (q + 1)), none, none, none]))) (kk : gg_P Γ K Q cs sl nx L9 (.int e :: st) (τ, tm_N ν q o e)) : gg_P Γ K Q cs sl pc L9 (.ref q :: st) (τ, tm_N ν q o e) := by
  refine gx_geti hd hf hs rfl ?_
  rw [show tm_N ν q o e q 3 = e by unfold tm_N; rw [u2_eq, ud_eq]]
  exact kk
theorem gtt_po {v : Int32} (hd : decode K.2.1 pc = .ok (.putfield idx, 3) ∧ pc + 3 = nx) (hf : lp_P K.1.cls idx 4 2 false) (hs : τ.2 q = .inr (.inr (4, [some (some (q + 1)), none, none, none]))) (kk : gg_P Γ K Q cs sl nx L9 st (τ, tm_N ν q v e)) : gg_P Γ K Q cs sl pc L9 (.int v :: .ref q :: st) (τ, tm_N ν q o e) := by
  refine gg_puti hd hf hs rfl ?_
  rw [tm_o]; exact kk
theorem gtt_pe {v : Int32} (hd : decode K.2.1 pc = .ok (.putfield idx, 3) ∧ pc + 3 = nx) (hf : lp_P K.1.cls idx 4 3 false) (hs : τ.2 q = .inr (.inr (4, [some (some (q + 1)), none, none, none]))) (kk : gg_P Γ K Q cs sl nx L9 st (τ, tm_N ν q o v)) : gg_P Γ K Q cs sl pc L9 (.int v :: .ref q :: st) (τ, tm_N ν q o e) := by
  refine gg_puti hd hf hs rfl ?_
  rw [tm_e]; exact kk
end RULES3
/-- the character at a place, -1 behind the last -/
def nx_I (c : Nat → Int32) (L o : Nat) : Int32 := if o < L then c o else -1
def so_N (c : Nat → Int32) (L : Nat) : Nat → Nat → Nat
  | 0, o => o
  | f + 1, o => if nx_I c L o = 32 then so_N c L f (o + 1) else o
/-- spaces passed over -/
def so (c : Nat → Int32) (L o : Nat) : Nat := so_N c L (L - o) o
theorem nx_t {c : Nat → Int32} {L o : Nat} (h : nx_I c L o = 32) : o < L := by
  unfold nx_I at h
  by_cases c1 : o < L
  · exact c1
  · rw [if_neg c1] at h; exact absurd h (by decide)
theorem so_t {c : Nat → Int32} {L o : Nat} (h : nx_I c L o = 32) : so c L o = so c L (o + 1) := by
  have := nx_t h
  unfold so
  rw [show L - o = (L - (o + 1)) + 1 by omega]
  exact if_pos h
theorem so_f {c : Nat → Int32} {L o : Nat} (h : ¬ nx_I c L o = 32) : so c L o = o := by
  unfold so
  cases L - o with
  | zero => rfl
  | succ f => exact if_neg h
theorem so_le {c : Nat → Int32} {L : Nat} : ∀ (d o : Nat), L - o = d → o ≤ so c L o ∧ (o ≤ L → so c L o ≤ L)
  | 0, o, hd => by
    rw [so_f (fun h => by have := nx_t h; omega)]
    exact ⟨Nat.le_refl _, fun h => h⟩
  | d + 1, o, hd => by
    by_cases h : nx_I c L o = 32
    · rw [so_t h]
      have := so_le (c := c) (L := L) d (o + 1) (by omega)
      exact ⟨by omega, fun _ => this.2 (by omega)⟩
    · rw [so_f h]
      exact ⟨Nat.le_refl _, fun h => h⟩
theorem so_L {c : Nat → Int32} {L o : Nat} (h : o ≤ L) : so c L o ≤ L := (so_le _ o rfl).2 h
theorem so_g {c : Nat → Int32} {L o : Nat} : o ≤ so c L o := (so_le _ o rfl).1
def dg_I (x : Int32) : Int32 := if x < 48 ∨ 57 < x then 0 else 1
theorem dg_t {c : Nat → Int32} {L o : Nat} (h : ¬ dg_I (nx_I c L o) = 0) : o < L := by
  unfold nx_I at h
  by_cases c1 : o < L
  · exact c1
  · rw [if_neg c1] at h; exact absurd (by decide) h
def rd_D (c : Nat → Int32) (L : Nat) : Nat → Nat → Int32 → Int32 × Nat
  | 0, o, v => (v, o)
  | f + 1, o, v => if dg_I (nx_I c L o) = 0 then (v, o) else rd_D c L f (o + 1) (v * 10 + nx_I c L o - 48)
theorem rd_le {c : Nat → Int32} {L : Nat} : ∀ (f o : Nat) (v : Int32), o ≤ (rd_D c L f o v).2 ∧ (o ≤ L → (rd_D c L f o v).2 ≤ L)
  | 0, o, v => ⟨Nat.le_refl _, fun h => h⟩
  | f + 1, o, v => by
    unfold rd_D
    by_cases h : dg_I (nx_I c L o) = 0
    · rw [if_pos h]; exact ⟨Nat.le_refl _, fun h => h⟩
    · rw [if_neg h]
      have h1 := dg_t h
      have := rd_le (c := c) (L := L) f (o + 1) (v * 10 + nx_I c L o - 48)
      exact ⟨by omega, fun _ => this.2 (by omega)⟩
/-- is there a minus sign; where the digits begin; what they tell and where they end; the number -/
abbrev ng_B (c : Nat → Int32) (L : Nat) (mb : Int32) (o : Nat) : Prop := ¬ mb = 0 ∧ nx_I c L (so c L o) = 45
def fi_N (c : Nat → Int32) (L : Nat) (mb : Int32) (o : Nat) : Nat := if ng_B c L mb o then so c L (so c L o + 1) else so c L o
def rv_N (c : Nat → Int32) (L : Nat) (mb : Int32) (o : Nat) : Int32 × Nat := rd_D c L 5 (fi_N c L mb o) 0
def va_9 (c : Nat → Int32) (L : Nat) (mb : Int32) (o : Nat) : Int32 := if ng_B c L mb o then -(rv_N c L mb o).1 else (rv_N c L mb o).1
def er_9 (c : Nat → Int32) (L : Nat) (lo hi mb : Int32) (o : Nat) : Int32 := if fi_N c L mb o < (rv_N c L mb o).2 ∧ ((fi_N c L mb o + 1 < (rv_N c L mb o).2 ∧ c (fi_N c L mb o) = 48) ∨ va_9 c L mb o < lo ∨ hi < va_9 c L mb o) then nI (fi_N c L mb o) else if (rv_N c L mb o).2 = fi_N c L mb o ∨ ¬ dg_I (nx_I c L (rv_N c L mb o).2) = 0 then nI (rv_N c L mb o).2 else -1
theorem ng_t {c : Nat → Int32} {L o : Nat} {mb : Int32} (h : ng_B c L mb o) : so c L o < L := by
  have h := h.2
  unfold nx_I at h
  by_cases c1 : so c L o < L
  · exact c1
  · rw [if_neg c1] at h; exact absurd h (by decide)
theorem fi_le {c : Nat → Int32} {L o : Nat} {mb : Int32} (h : o ≤ L) : o ≤ fi_N c L mb o ∧ fi_N c L mb o ≤ L := by
  have h1 := so_g (c := c) (L := L) (o := o)
  unfold fi_N
  by_cases hn : ng_B c L mb o
  · rw [if_pos hn]
    have h2 := ng_t hn
    have h3 := so_g (c := c) (L := L) (o := so c L o + 1)
    exact ⟨by omega, so_L (by omega)⟩
  · rw [if_neg hn]; exact ⟨h1, so_L h⟩
theorem rv_le {c : Nat → Int32} {L o : Nat} {mb : Int32} (h : o ≤ L) : fi_N c L mb o ≤ (rv_N c L mb o).2 ∧ (rv_N c L mb o).2 ≤ L := by
  have h1 := fi_le (c := c) (L := L) (o := o) (mb := mb) h
  have h2 := rd_le (c := c) (L := L) 5 (fi_N c L mb o) 0
  exact ⟨h2.1, h2.2 h1.2⟩
/-- an offset and an error: what reading a number, a sign makes of them -/
def rn_F (c : Nat → Int32) (L : Nat) (lo hi mb : Int32) (p : Nat × Int32) : Int32 × Nat × Int32 := if p.2 = -1 then (va_9 c L mb p.1, (rv_N c L mb p.1).2, er_9 c L lo hi mb p.1) else (0, p)
def ex_F (c : Nat → Int32) (L : Nat) (ch : Int32) (p : Nat × Int32) : Nat × Int32 := if p.2 = -1 then (if nx_I c L (so c L p.1) = ch then (so c L p.1 + 1, -1) else (so c L p.1, nI (so c L p.1))) else p
theorem rn_L {c : Nat → Int32} {L : Nat} {lo hi mb : Int32} {p : Nat × Int32} (h : p.1 ≤ L) : p.1 ≤ (rn_F c L lo hi mb p).2.1 ∧ (rn_F c L lo hi mb p).2.1 ≤ L := by
  unfold rn_F
  split
  · have h1 := fi_le (c := c) (L := L) (mb := mb) h
    have h2 := rv_le (c := c) (L := L) (mb := mb) h
    exact ⟨by show p.1 ≤ (rv_N c L mb p.1).2; omega, h2.2⟩
  · exact ⟨Nat.le_refl _, h⟩
theorem ex_L {c : Nat → Int32} {L : Nat} {ch : Int32} {p : Nat × Int32} (hch : ¬ ch = -1) (h : p.1 ≤ L) : p.1 ≤ (ex_F c L ch p).1 ∧ (ex_F c L ch p).1 ≤ L := by
  have h1 := so_g (c := c) (L := L) (o := p.1)
  have h2 := so_L (c := c) h
  unfold ex_F
  split
  · split
    · rename_i hx
      have : so c L p.1 < L := by
        unfold nx_I at hx
        by_cases c1 : so c L p.1 < L
        · exact c1
        · rw [if_neg c1] at hx; exact absurd hx.symm hch
      exact ⟨by show p.1 ≤ so c L p.1 + 1; omega, by show so c L p.1 + 1 ≤ L; omega⟩
    · exact ⟨h1, h2⟩
  · exact ⟨Nat.le_refl _, h⟩
set_option maxRecDepth 100000 in
set_option maxHeartbeats 4000000 in
theorem sp_T_append1 {Γ : cx_T} {τ : Nat × (Nat → sh_T)} {ν : Nat → Nat → Int32} {q L : Nat} {c : Nat → Int32} (hq : sh_Tx τ.2 q) (hL : ν q 1 = nI L) (hc : ν (q + 1) = c) (h100 : L ≤ 100) {x : Int32} (hlt : L < 100) : mt_P Γ mk_T_append [.ref q, .int x] (τ, ν) (fun v μ' => v = some (.int 1) ∧ μ' = (τ, up_2 (up_2 ν (q + 1) L x) q 1 (nI (L + 1)))) := by
  refine mt_of (L := [some (.ref q), some (.int x)]) (by decide +kernel) (by simp [Value.category]) (Nat.le_of_ble_eq_true rfl) (lc_2_2 ()) ?_
  refine gg_aldn dc_T_append_0 rfl rfl ?_
  refine gx_geti dc_T_append_1 lf_T_15 hq.1 rfl ?_
  refine gx_top (hL) ?_
  refine gg_bipush (v := 100) dc_T_append_4 (by decide) ?_
  refine gg_iclt dc_T_append_6 (fun c_6 => ?_) (fun c_6 => ?_)
  · refine gg_aldn dc_T_append_11 rfl rfl ?_
    refine gg_getr dc_T_append_12 lf_T_11 hq.1 rfl ?_
    refine gg_aldn dc_T_append_15 rfl rfl ?_
    refine gx_geti dc_T_append_16 lf_T_15 hq.1 rfl ?_
    refine gx_top (hL) ?_
    refine gg_ildn dc_T_append_19 rfl rfl ?_
    refine gg_okSv (sp_R_putE hq.2 (by omega) rfl hlt) dc_T_append_20 ml_T_25 ce_R_put ⟨Nat.le_of_ble_eq_true rfl, Nat.le_of_ble_eq_true rfl⟩ rfl (Nat.le_of_ble_eq_true rfl) ⟨rfl, rfl⟩ ⟨Nat.le_of_ble_eq_true rfl, Nat.le_of_ble_eq_true rfl⟩ ?_
    refine gg_aldn dc_T_append_23 rfl rfl ?_
    refine gg_dup dc_T_append_24 rfl ?_
    refine gx_geti dc_T_append_25 lf_T_15 hq.1 rfl ?_
    refine gx_top (show up_2 ν (q + 1) L x q 1 = nI L by rw [u2_ne (by omega)]; exact hL) ?_
    refine gg_iconst (v := 1) dc_T_append_28 (by decide) ?_
    refine gg_iadd dc_T_append_29 ?_
    refine gx_top (nI_1 L) ?_
    refine gg_puti dc_T_append_30 lp_T_15 hq.1 rfl ?_
    refine gg_iconst (v := 1) dc_T_append_33 (by decide) ?_
    exact gg_zret dc_T_append_34 rfl (by first | exact Or.inl rfl | exact Or.inr rfl | assumption) ⟨Nat.le_of_ble_eq_true rfl, Nat.le_of_ble_eq_true rfl⟩ (⟨rfl, rfl⟩)
  · exact absurd (nI_lt (b := 100) hlt (by omega)) c_6
set_option maxRecDepth 100000 in
set_option maxHeartbeats 4000000 in
theorem sp_T_append0 {Γ : cx_T} {τ : Nat × (Nat → sh_T)} {ν : Nat → Nat → Int32} {q L : Nat} {c : Nat → Int32} (hq : sh_Tx τ.2 q) (hL : ν q 1 = nI L) (hc : ν (q + 1) = c) (h100 : L ≤ 100) {x : Int32} (hlt : L = 100) : mt_P Γ mk_T_append [.ref q, .int x] (τ, ν) (fun v μ' => v = some (.int (0)) ∧ μ' = (τ, ν)) := by
  refine mt_of (L := [some (.ref q), some (.int x)]) (by decide +kernel) (by simp [Value.category]) (Nat.le_of_ble_eq_true rfl) (lc_2_2 ()) ?_
  refine gg_aldn dc_T_append_0 rfl rfl ?_
  refine gx_geti dc_T_append_1 lf_T_15 hq.1 rfl ?_
  refine gx_top (hL) ?_
  refine gg_bipush (v := 100) dc_T_append_4 (by decide) ?_
  refine gg_iclt dc_T_append_6 (fun c_6 => ?_) (fun c_6 => ?_)
  · exact absurd c_6 (nI_nlt (b := 100) (by omega) (by omega))
  · refine gg_iconst (v := 0) dc_T_append_9 (by decide) ?_
    exact gg_zret dc_T_append_10 rfl (by first | exact Or.inl rfl | exact Or.inr rfl | assumption) ⟨Nat.le_of_ble_eq_true rfl, Nat.le_of_ble_eq_true rfl⟩ (⟨rfl, rfl⟩)
set_option maxRecDepth 100000 in
set_option maxHeartbeats 4000000 in
theorem sp_T_nc {Γ : cx_T} {τ : Nat × (Nat → sh_T)} {ν : Nat → Nat → Int32} {q L : Nat} {c : Nat → Int32} (hq : sh_Tx τ.2 q) (hL : ν q 1 = nI L) (hc : ν (q + 1) = c) (h100 : L ≤ 100) {o : Nat} {e : Int32} (ho : o ≤ L) : mt_P Γ mk_T_nextCharacter [.ref q] (τ, tm_N ν q (nI o) (e)) (fun v μ' => v = some (.int (nx_I c L o)) ∧ μ' = (τ, tm_N ν q (nI o) (e))) := by
  refine mt_of (L := [some (.ref q)]) (by decide +kernel) (by simp [Value.category]) (Nat.le_of_ble_eq_true rfl) (lc_1_1 ()) ?_
  refine gg_aldn dc_T_nextCharacter_0 rfl rfl ?_
  refine gtt_o dc_T_nextCharacter_1 lf_T_19 hq.1 ?_
  refine gg_aldn dc_T_nextCharacter_4 rfl rfl ?_
  refine gtt_L dc_T_nextCharacter_5 lf_T_15 hq.1 hL ?_
  refine gg_icge dc_T_nextCharacter_8 (fun c_8 => ?_) (fun c_8 => ?_)
  · refine gg_iconst (v := (-1)) dc_T_nextCharacter_25 (by decide) ?_
    exact gg_iret dc_T_nextCharacter_26 rfl ⟨Nat.le_of_ble_eq_true rfl, Nat.le_of_ble_eq_true rfl⟩ (⟨by unfold nx_I; rw [if_neg (fun q => absurd c_8 (nI_ge q (by omega)))], rfl⟩)
  · refine gg_aldn dc_T_nextCharacter_11 rfl rfl ?_
    refine gg_getr dc_T_nextCharacter_12 lf_T_11 hq.1 rfl ?_
    refine gg_aldn dc_T_nextCharacter_15 rfl rfl ?_
    refine gtt_o dc_T_nextCharacter_16 lf_T_19 hq.1 ?_
    have hlt9 : o < L := Classical.not_not.mp fun q => c_8 (nI_le (by omega) (by omega))
    refine gg_okS (sp_R_atE (k := o) hq.2 (by omega) rfl (by omega)) dc_T_nextCharacter_19 ml_T_87 ce_R_at ⟨Nat.le_of_ble_eq_true rfl, Nat.le_of_ble_eq_true rfl⟩ rfl (Nat.le_of_ble_eq_true rfl) ⟨rfl, rfl⟩ ⟨Nat.le_of_ble_eq_true rfl, Nat.le_of_ble_eq_true rfl⟩ ?_
    refine gx_top (show tm_N ν q (nI o) e (q + 1) o = c o by rw [tm_ne (by omega), hc]) ?_
    refine gg_goto dc_T_nextCharacter_22 ?_
    exact gg_iret dc_T_nextCharacter_26 rfl ⟨Nat.le_of_ble_eq_true rfl, Nat.le_of_ble_eq_true rfl⟩ (⟨by unfold nx_I; rw [if_pos (Classical.not_not.mp fun q => c_8 (nI_le (by omega) (by omega)))], rfl⟩)
set_option maxRecDepth 100000 in
set_option maxHeartbeats 4000000 in
theorem sp_T_skipSpaces {Γ : cx_T} {τ : Nat × (Nat → sh_T)} {ν : Nat → Nat → Int32} {q L : Nat} {c : Nat → Int32} (hq : sh_Tx τ.2 q) (hL : ν q 1 = nI L) (hc : ν (q + 1) = c) (h100 : L ≤ 100) {o : Nat} {e : Int32} (ho : o ≤ L) : mt_P Γ mk_T_skipSpaces [.ref q] (τ, tm_N ν q (nI o) (e)) (fun v μ' => v = none ∧ μ' = (τ, tm_N ν q (nI (so c L o)) (e))) := by
  refine mt_of (L := [some (.ref q)]) (by decide +kernel) (by simp [Value.category]) (Nat.le_of_ble_eq_true rfl) (lc_1_1 ()) ?_
  have loop : ∀ (r d o : Nat), L - o ≤ d → o ≤ L → so c L o = r → gg_P Γ mk_T_skipSpaces (fun v μ' => v = none ∧ μ' = (τ, tm_N ν q (nI r) e)) 0 0 0 [some (.ref q)] [] (τ, tm_N ν q (nI o) e) := by
    intro r d
    induction d with
    | zero =>
      intro o hd ho hr
      refine gg_aldn dc_T_skipSpaces_0 rfl rfl ?_
      refine gtt_o dc_T_skipSpaces_1 lf_T_19 hq.1 ?_
      refine gg_aldn dc_T_skipSpaces_4 rfl rfl ?_
      refine gtt_L dc_T_skipSpaces_5 lf_T_15 hq.1 hL ?_
      refine gg_icge dc_T_skipSpaces_8 (fun c_8 => ?_) (fun c_8 => ?_)
      · have hx : ¬ nx_I c L o = 32 := fun h => by have := nx_t h; exact absurd c_8 (nI_ge this (by omega))
        exact gg_vret dc_T_skipSpaces_33 rfl ⟨Nat.le_of_ble_eq_true rfl, Nat.le_of_ble_eq_true rfl⟩ ⟨rfl, by rw [← hr, so_f hx]⟩
      · exact absurd (nI_le (by omega) (by omega)) c_8
    | succ d ih =>
      intro o hd ho hr
      refine gg_aldn dc_T_skipSpaces_0 rfl rfl ?_
      refine gtt_o dc_T_skipSpaces_1 lf_T_19 hq.1 ?_
      refine gg_aldn dc_T_skipSpaces_4 rfl rfl ?_
      refine gtt_L dc_T_skipSpaces_5 lf_T_15 hq.1 hL ?_
      refine gg_icge dc_T_skipSpaces_8 (fun c_8 => ?_) (fun c_8 => ?_)
      · have hx : ¬ nx_I c L o = 32 := fun h => by have := nx_t h; exact absurd c_8 (nI_ge this (by omega))
        exact gg_vret dc_T_skipSpaces_33 rfl ⟨Nat.le_of_ble_eq_true rfl, Nat.le_of_ble_eq_true rfl⟩ ⟨rfl, by rw [← hr, so_f hx]⟩
      · refine gg_aldn dc_T_skipSpaces_11 rfl rfl ?_
        refine gg_okV (sp_T_nc hq hL hc h100 ho) dc_T_skipSpaces_12 ml_T_39 ce_T_nextCharacter ⟨Nat.le_of_ble_eq_true rfl, Nat.le_of_ble_eq_true rfl⟩ hq.1 rfl rfl (Nat.le_of_ble_eq_true rfl) ⟨rfl, rfl⟩ ⟨Nat.le_of_ble_eq_true rfl, Nat.le_of_ble_eq_true rfl⟩ ?_
        refine gg_bipush (v := 32) dc_T_skipSpaces_15 (by decide) ?_
        refine gg_icne dc_T_skipSpaces_17 (fun c_17 => ?_) (fun c_17 => ?_)
        · exact gg_vret dc_T_skipSpaces_33 rfl ⟨Nat.le_of_ble_eq_true rfl, Nat.le_of_ble_eq_true rfl⟩ (⟨rfl, by rw [← hr, so_f (by first | exact c_17 | exact hx)]⟩)
        · refine gg_aldn dc_T_skipSpaces_20 rfl rfl ?_
          refine gg_dup dc_T_skipSpaces_21 rfl ?_
          refine gtt_o dc_T_skipSpaces_22 lf_T_19 hq.1 ?_
          refine gg_iconst (v := 1) dc_T_skipSpaces_25 (by decide) ?_
          refine gg_iadd dc_T_skipSpaces_26 ?_
          refine gx_top (nI_1 o) ?_
          refine gtt_po dc_T_skipSpaces_27 lp_T_19 hq.1 ?_
          refine gg_goto dc_T_skipSpaces_30 ?_
          have h32 : nx_I c L o = 32 := by first | exact c_17 | exact Classical.not_not.mp c_17
          have hlt := nx_t h32
          exact ih (o + 1) (by omega) (by omega) (by rw [← hr]; exact (so_t h32).symm)
  exact loop _ (L - o) o (Nat.le_refl _) ho rfl
set_option maxRecDepth 100000 in
set_option maxHeartbeats 4000000 in
theorem sp_T_isDigit {Γ : cx_T} {τ : Nat × (Nat → sh_T)} {ν : Nat → Nat → Int32} {x : Int32} : mt_P Γ mk_T_isDigit [.int x] (τ, ν) (fun v μ' => v = some (.int (dg_I x)) ∧ μ' = (τ, ν)) := by
  refine mt_of (L := [some (.int x)]) (by decide +kernel) (by simp [Value.category]) (Nat.le_of_ble_eq_true rfl) (lc_1_1 ()) ?_
  refine gg_ildn dc_T_isDigit_0 rfl rfl ?_
  refine gg_bipush (v := 48) dc_T_isDigit_1 (by decide) ?_
  refine gg_iclt dc_T_isDigit_3 (fun c_3 => ?_) (fun c_3 => ?_)
  · refine gg_iconst (v := 0) dc_T_isDigit_16 (by decide) ?_
    exact gg_zret dc_T_isDigit_17 rfl (by first | exact Or.inl rfl | exact Or.inr rfl | assumption) ⟨Nat.le_of_ble_eq_true rfl, Nat.le_of_ble_eq_true rfl⟩ (⟨by unfold dg_I; rw [if_pos (Or.inl c_3)], rfl⟩)
  · refine gg_ildn dc_T_isDigit_6 rfl rfl ?_
    refine gg_bipush (v := 57) dc_T_isDigit_7 (by decide) ?_
    refine gg_icgt dc_T_isDigit_9 (fun c_9 => ?_) (fun c_9 => ?_)
    · refine gg_iconst (v := 0) dc_T_isDigit_16 (by decide) ?_
      exact gg_zret dc_T_isDigit_17 rfl (by first | exact Or.inl rfl | exact Or.inr rfl | assumption) ⟨Nat.le_of_ble_eq_true rfl, Nat.le_of_ble_eq_true rfl⟩ (⟨by unfold dg_I; rw [if_pos (Or.inr c_9)], rfl⟩)
    · refine gg_iconst (v := 1) dc_T_isDigit_12 (by decide) ?_
      refine gg_goto dc_T_isDigit_13 ?_
      exact gg_zret dc_T_isDigit_17 rfl (by first | exact Or.inl rfl | exact Or.inr rfl | assumption) ⟨Nat.le_of_ble_eq_true rfl, Nat.le_of_ble_eq_true rfl⟩ (⟨by unfold dg_I; rw [if_neg (fun q => q.elim c_3 c_9)], rfl⟩)
set_option maxRecDepth 100000 in
set_option maxHeartbeats 4000000 in
theorem sp_T_readDigits {Γ : cx_T} {τ : Nat × (Nat → sh_T)} {ν : Nat → Nat → Int32} {q L : Nat} {c : Nat → Int32} (hq : sh_Tx τ.2 q) (hL : ν q 1 = nI L) (hc : ν (q + 1) = c) (h100 : L ≤ 100) {o : Nat} {e : Int32} (ho : o ≤ L) : mt_P Γ mk_T_readDigits [.ref q] (τ, tm_N ν q (nI o) (e)) (fun v μ' => v = some (.int ((rd_D c L 5 o 0).1)) ∧ μ' = (τ, tm_N ν q (nI (rd_D c L 5 o 0).2) (e))) := by
  refine mt_of (L := [some (.ref q), none, none]) (by decide +kernel) (by simp [Value.category]) (Nat.le_of_ble_eq_true rfl) (lc_1_3 ()) ?_
  have loop : ∀ (R : Int32 × Nat) (d o i : Nat) (v : Int32), i + d = 5 → o ≤ L → rd_D c L d o v = R → gg_P Γ mk_T_readDigits (fun v μ' => v = some (.int R.1) ∧ μ' = (τ, tm_N ν q (nI R.2) e)) 0 0 4 [some (.ref q), some (.int v), some (.int (nI i))] [] (τ, tm_N ν q (nI o) e) := by
    intro R d
    induction d with
    | zero =>
      intro o i v hi ho hR
      refine gg_ildn dc_T_readDigits_4 rfl rfl ?_
      refine gg_iconst (v := 5) dc_T_readDigits_5 (by decide) ?_
      refine gg_icge dc_T_readDigits_6 (fun c_6 => ?_) (fun c_6 => ?_)
      · refine gg_ildn dc_T_readDigits_48 rfl rfl ?_
        exact gg_iret dc_T_readDigits_49 rfl ⟨Nat.le_of_ble_eq_true rfl, Nat.le_of_ble_eq_true rfl⟩ (⟨by rw [← hR]; rfl, by rw [← hR]; rfl⟩)
      · exact absurd (nI_le (a := 5) (by omega) (by omega)) c_6
    | succ d ih =>
      intro o i v hi ho hR
      refine gg_ildn dc_T_readDigits_4 rfl rfl ?_
      refine gg_iconst (v := 5) dc_T_readDigits_5 (by decide) ?_
      refine gg_icge dc_T_readDigits_6 (fun c_6 => ?_) (fun c_6 => ?_)
      · exact absurd c_6 (nI_ge (b := 5) (by omega) (by omega))
      · refine gg_aldn dc_T_readDigits_9 rfl rfl ?_
        refine gg_okV (sp_T_nc hq hL hc h100 ho) dc_T_readDigits_10 ml_T_39 ce_T_nextCharacter ⟨Nat.le_of_ble_eq_true rfl, Nat.le_of_ble_eq_true rfl⟩ hq.1 rfl rfl (Nat.le_of_ble_eq_true rfl) ⟨rfl, rfl⟩ ⟨Nat.le_of_ble_eq_true rfl, Nat.le_of_ble_eq_true rfl⟩ ?_
        refine gg_okS (sp_T_isDigit) dc_T_readDigits_13 ml_T_91 ce_T_isDigit ⟨Nat.le_of_ble_eq_true rfl, Nat.le_of_ble_eq_true rfl⟩ rfl (Nat.le_of_ble_eq_true rfl) ⟨rfl, rfl⟩ ⟨Nat.le_of_ble_eq_true rfl, Nat.le_of_ble_eq_true rfl⟩ ?_
        refine gg_ifeq dc_T_readDigits_16 (fun c_16 => ?_) (fun c_16 => ?_)
        · refine gg_ildn dc_T_readDigits_48 rfl rfl ?_
          exact gg_iret dc_T_readDigits_49 rfl ⟨Nat.le_of_ble_eq_true rfl, Nat.le_of_ble_eq_true rfl⟩ (⟨by rw [← hR, show rd_D c L (d + 1) o v = (v, o) from if_pos c_16], by rw [← hR, show rd_D c L (d + 1) o v = (v, o) from if_pos c_16]⟩)
        · refine gg_ildn dc_T_readDigits_19 rfl rfl ?_
          refine gg_bipush (v := 10) dc_T_readDigits_20 (by decide) ?_
          refine gg_imul dc_T_readDigits_22 ?_
          refine gg_aldn dc_T_readDigits_23 rfl rfl ?_
          refine gg_okV (sp_T_nc hq hL hc h100 ho) dc_T_readDigits_24 ml_T_39 ce_T_nextCharacter ⟨Nat.le_of_ble_eq_true rfl, Nat.le_of_ble_eq_true rfl⟩ hq.1 rfl rfl (Nat.le_of_ble_eq_true rfl) ⟨rfl, rfl⟩ ⟨Nat.le_of_ble_eq_true rfl, Nat.le_of_ble_eq_true rfl⟩ ?_
          refine gg_iadd dc_T_readDigits_27 ?_
          refine gg_bipush (v := 48) dc_T_readDigits_28 (by decide) ?_
          refine gg_isub dc_T_readDigits_30 ?_
          refine gg_istn (i := 1) dc_T_readDigits_31 rfl (Nat.le_of_ble_eq_true rfl) rfl ?_
          dsimp only [List.set]
          refine gg_aldn dc_T_readDigits_32 rfl rfl ?_
          refine gg_dup dc_T_readDigits_33 rfl ?_
          refine gtt_o dc_T_readDigits_34 lf_T_19 hq.1 ?_
          refine gg_iconst (v := 1) dc_T_readDigits_37 (by decide) ?_
          refine gg_iadd dc_T_readDigits_38 ?_
          refine gx_top (nI_1 o) ?_
          refine gtt_po dc_T_readDigits_39 lp_T_19 hq.1 ?_
          refine gg_iinc (i := 2) dc_T_readDigits_42 rfl (Nat.le_of_ble_eq_true rfl) rfl ?_
          dsimp only [List.set]
          rw [show Int32.ofInt 1 = 1 from by decide]
          refine gg_goto dc_T_readDigits_45 ?_
          have hlt := dg_t c_16
          exact gg_e (ih (o + 1) (i + 1) _ (by omega) (by omega) (by rw [← hR]; exact (if_neg c_16).symm)) (by rw [nI_1]) rfl rfl
  refine gg_iconst (v := 0) dc_T_readDigits_0 (by decide) ?_
  refine gg_istn (i := 1) dc_T_readDigits_1 rfl (Nat.le_of_ble_eq_true rfl) rfl ?_
  dsimp only [List.set]
  refine gg_iconst (v := 0) dc_T_readDigits_2 (by decide) ?_
  refine gg_istn (i := 2) dc_T_readDigits_3 rfl (Nat.le_of_ble_eq_true rfl) rfl ?_
  dsimp only [List.set]
  exact loop _ 5 o 0 0 rfl ho rfl
set_option maxRecDepth 100000 in
set_option maxHeartbeats 4000000 in
theorem sp_T_expectE {Γ : cx_T} {τ : Nat × (Nat → sh_T)} {ν : Nat → Nat → Int32} {q L : Nat} {c : Nat → Int32} (hq : sh_Tx τ.2 q) (hL : ν q 1 = nI L) (hc : ν (q + 1) = c) (h100 : L ≤ 100) {o ch e : Int32} (he : ¬ e = -1) : mt_P Γ mk_T_expect [.ref q, .int ch] (τ, tm_N ν q (o) (e)) (fun v μ' => v = none ∧ μ' = (τ, tm_N ν q (o) (e))) := by
  refine mt_of (L := [some (.ref q), some (.int ch)]) (by decide +kernel) (by simp [Value.category]) (Nat.le_of_ble_eq_true rfl) (lc_2_2 ()) ?_
  refine gg_aldn dc_T_expect_0 rfl rfl ?_
  refine gtt_e dc_T_expect_1 lf_T_22 hq.1 ?_
  refine gg_iconst (v := (-1)) dc_T_expect_4 (by decide) ?_
  refine gg_iceq dc_T_expect_5 (fun c_5 => ?_) (fun c_5 => ?_)
  · exact absurd c_5 he
  · exact gg_vret dc_T_expect_8 rfl ⟨Nat.le_of_ble_eq_true rfl, Nat.le_of_ble_eq_true rfl⟩ (⟨rfl, rfl⟩)
set_option maxRecDepth 100000 in
set_option maxHeartbeats 4000000 in
theorem sp_T_expect1 {Γ : cx_T} {τ : Nat × (Nat → sh_T)} {ν : Nat → Nat → Int32} {q L : Nat} {c : Nat → Int32} (hq : sh_Tx τ.2 q) (hL : ν q 1 = nI L) (hc : ν (q + 1) = c) (h100 : L ≤ 100) {o : Nat} {ch : Int32} (ho : o ≤ L) : mt_P Γ mk_T_expect [.ref q, .int ch] (τ, tm_N ν q (nI o) (-1)) (fun v μ' => v = none ∧ μ' = (τ, tm_N ν q (nI (ex_F c L ch (o, -1)).1) ((ex_F c L ch (o, -1)).2))) := by
  refine mt_of (L := [some (.ref q), some (.int ch)]) (by decide +kernel) (by simp [Value.category]) (Nat.le_of_ble_eq_true rfl) (lc_2_2 ()) ?_
  refine gg_aldn dc_T_expect_0 rfl rfl ?_
  refine gtt_e dc_T_expect_1 lf_T_22 hq.1 ?_
  refine gg_iconst (v := (-1)) dc_T_expect_4 (by decide) ?_
  refine gg_iceq dc_T_expect_5 (fun c_5 => ?_) (fun c_5 => ?_)
  · refine gg_aldn dc_T_expect_9 rfl rfl ?_
    refine gg_okVv (sp_T_skipSpaces hq hL hc h100 ho) dc_T_expect_10 ml_T_31 ce_T_skipSpaces ⟨Nat.le_of_ble_eq_true rfl, Nat.le_of_ble_eq_true rfl⟩ hq.1 rfl rfl (Nat.le_of_ble_eq_true rfl) ⟨rfl, rfl⟩ ⟨Nat.le_of_ble_eq_true rfl, Nat.le_of_ble_eq_true rfl⟩ ?_
    refine gg_aldn dc_T_expect_13 rfl rfl ?_
    refine gg_okV (sp_T_nc hq hL hc h100 (so_L ho)) dc_T_expect_14 ml_T_39 ce_T_nextCharacter ⟨Nat.le_of_ble_eq_true rfl, Nat.le_of_ble_eq_true rfl⟩ hq.1 rfl rfl (Nat.le_of_ble_eq_true rfl) ⟨rfl, rfl⟩ ⟨Nat.le_of_ble_eq_true rfl, Nat.le_of_ble_eq_true rfl⟩ ?_
    refine gg_ildn dc_T_expect_17 rfl rfl ?_
    refine gg_icne dc_T_expect_18 (fun c_18 => ?_) (fun c_18 => ?_)
    · refine gg_aldn dc_T_expect_34 rfl rfl ?_
      refine gg_aldn dc_T_expect_35 rfl rfl ?_
      refine gtt_o dc_T_expect_36 lf_T_19 hq.1 ?_
      refine gtt_pe dc_T_expect_39 lp_T_22 hq.1 ?_
      exact gg_vret dc_T_expect_42 rfl ⟨Nat.le_of_ble_eq_true rfl, Nat.le_of_ble_eq_true rfl⟩ (⟨rfl, by unfold ex_F; rw [if_pos rfl, if_neg c_18]⟩)
    · refine gg_aldn dc_T_expect_21 rfl rfl ?_
      refine gg_dup dc_T_expect_22 rfl ?_
      refine gtt_o dc_T_expect_23 lf_T_19 hq.1 ?_
      refine gg_iconst (v := 1) dc_T_expect_26 (by decide) ?_
      refine gg_iadd dc_T_expect_27 ?_
      refine gx_top (nI_1 _) ?_
      refine gtt_po dc_T_expect_28 lp_T_19 hq.1 ?_
      refine gg_goto dc_T_expect_31 ?_
      exact gg_vret dc_T_expect_42 rfl ⟨Nat.le_of_ble_eq_true rfl, Nat.le_of_ble_eq_true rfl⟩ (⟨rfl, by unfold ex_F; rw [if_pos rfl, if_pos (by first | exact c_18 | exact Classical.not_not.mp c_18)]⟩)
  · exact absurd rfl c_5
theorem sp_T_expect {Γ : cx_T} {τ : Nat × (Nat → sh_T)} {ν : Nat → Nat → Int32} {q L : Nat} {c : Nat → Int32} (hq : sh_Tx τ.2 q) (hL : ν q 1 = nI L) (hc : ν (q + 1) = c) (h100 : L ≤ 100) {p : Nat × Int32} {ch : Int32} (ho : p.1 ≤ L) : mt_P Γ mk_T_expect [.ref q, .int ch] (τ, tm_N ν q (nI p.1) p.2) (fun v μ' => v = none ∧ μ' = (τ, tm_N ν q (nI (ex_F c L ch p).1) (ex_F c L ch p).2)) := by
  obtain ⟨o, e⟩ := p
  by_cases he : e = -1
  · subst he; exact sp_T_expect1 hq hL hc h100 ho
  · rw [show ex_F c L ch (o, e) = (o, e) from if_neg he]
    exact sp_T_expectE hq hL hc h100 he
set_option maxRecDepth 100000 in
set_option maxHeartbeats 4000000 in
theorem sp_T_readNumberE {Γ : cx_T} {τ : Nat × (Nat → sh_T)} {ν : Nat → Nat → Int32} {q L : Nat} {c : Nat → Int32} (hq : sh_Tx τ.2 q) (hL : ν q 1 = nI L) (hc : ν (q + 1) = c) (h100 : L ≤ 100) {o lo hi mb e : Int32} (he : ¬ e = -1) : mt_P Γ mk_T_readNumber [.ref q, .int lo, .int hi, .int mb] (τ, tm_N ν q (o) (e)) (fun v μ' => v = some (.int (0)) ∧ μ' = (τ, tm_N ν q (o) (e))) := by
  refine mt_of (L := [some (.ref q), some (.int lo), some (.int hi), some (.int mb), none, none, none, none, none]) (by decide +kernel) (by simp [Value.category]) (Nat.le_of_ble_eq_true rfl) (lc_4_9 ()) ?_
  refine gg_aldn dc_T_readNumber_0 rfl rfl ?_
  refine gtt_e dc_T_readNumber_1 lf_T_22 hq.1 ?_
  refine gg_iconst (v := (-1)) dc_T_readNumber_4 (by decide) ?_
  refine gg_iceq dc_T_readNumber_5 (fun c_5 => ?_) (fun c_5 => ?_)
  · exact absurd c_5 he
  · refine gg_iconst (v := 0) dc_T_readNumber_8 (by decide) ?_
    exact gg_iret dc_T_readNumber_9 rfl ⟨Nat.le_of_ble_eq_true rfl, Nat.le_of_ble_eq_true rfl⟩ (⟨rfl, rfl⟩)
set_option maxRecDepth 100000 in
set_option maxHeartbeats 4000000 in
theorem sp_T_readNumber1 {Γ : cx_T} {τ : Nat × (Nat → sh_T)} {ν : Nat → Nat → Int32} {q L : Nat} {c : Nat → Int32} (hq : sh_Tx τ.2 q) (hL : ν q 1 = nI L) (hc : ν (q + 1) = c) (h100 : L ≤ 100) {o : Nat} {lo hi mb : Int32} (ho : o ≤ L) : mt_P Γ mk_T_readNumber [.ref q, .int lo, .int hi, .int mb] (τ, tm_N ν q (nI o) (-1)) (fun v μ' => v = some (.int (va_9 c L mb o)) ∧ μ' = (τ, tm_N ν q (nI (rv_N c L mb o).2) (er_9 c L lo hi mb o))) := by
  refine mt_of (L := [some (.ref q), some (.int lo), some (.int hi), some (.int mb), none, none, none, none, none]) (by decide +kernel) (by simp [Value.category]) (Nat.le_of_ble_eq_true rfl) (lc_4_9 ()) ?_
  have hfi := fi_le (c := c) (L := L) (o := o) (mb := mb) ho
  have hrv := rv_le (c := c) (L := L) (o := o) (mb := mb) ho
  have t142 : ∀ ng za : Int32, er_9 c L lo hi mb o = (if (rv_N c L mb o).2 = fi_N c L mb o ∨ ¬ dg_I (nx_I c L (rv_N c L mb o).2) = 0 then nI (rv_N c L mb o).2 else -1) → gg_P Γ mk_T_readNumber (fun v μ' => v = some (.int (va_9 c L mb o)) ∧ μ' = (τ, tm_N ν q (nI (rv_N c L mb o).2) (er_9 c L lo hi mb o))) 0 0 142 [some (.ref q), some (.int lo), some (.int hi), some (.int mb), some (.int (ng)), some (.int (nI (fi_N c L mb o))), some (.int (va_9 c L mb o)), some (.int (nI ((rv_N c L mb o).2 - fi_N c L mb o))), some (.int (za))] [] (τ, tm_N ν q (nI ((rv_N c L mb o).2)) (-1)) := by
    intro ng za hE
    refine gg_ild dc_T_readNumber_142 rfl ?_
    refine gg_ifeq dc_T_readNumber_144 (fun c_144 => ?_) (fun c_144 => ?_)
    · refine gg_aldn dc_T_readNumber_157 rfl rfl ?_
      refine gg_aldn dc_T_readNumber_158 rfl rfl ?_
      refine gtt_o dc_T_readNumber_159 lf_T_19 hq.1 ?_
      refine gtt_pe dc_T_readNumber_162 lp_T_22 hq.1 ?_
      refine gg_ild dc_T_readNumber_165 rfl ?_
      exact gg_iret dc_T_readNumber_167 rfl ⟨Nat.le_of_ble_eq_true rfl, Nat.le_of_ble_eq_true rfl⟩ (⟨rfl, by rw [hE, if_pos (Or.inl (show (rv_N c L mb o).2 = fi_N c L mb o by have := (nI_eq (b := 0) (by omega) (by omega)).mp c_144; omega))]⟩)
    · refine gg_aldn dc_T_readNumber_147 rfl rfl ?_
      refine gg_okV (sp_T_nc hq hL hc h100 hrv.2) dc_T_readNumber_148 ml_T_39 ce_T_nextCharacter ⟨Nat.le_of_ble_eq_true rfl, Nat.le_of_ble_eq_true rfl⟩ hq.1 rfl rfl (Nat.le_of_ble_eq_true rfl) ⟨rfl, rfl⟩ ⟨Nat.le_of_ble_eq_true rfl, Nat.le_of_ble_eq_true rfl⟩ ?_
      refine gg_okS (sp_T_isDigit) dc_T_readNumber_151 ml_T_91 ce_T_isDigit ⟨Nat.le_of_ble_eq_true rfl, Nat.le_of_ble_eq_true rfl⟩ rfl (Nat.le_of_ble_eq_true rfl) ⟨rfl, rfl⟩ ⟨Nat.le_of_ble_eq_true rfl, Nat.le_of_ble_eq_true rfl⟩ ?_
      refine gg_ifeq dc_T_readNumber_154 (fun c_154 => ?_) (fun c_154 => ?_)
      · refine gg_ild dc_T_readNumber_165 rfl ?_
        exact gg_iret dc_T_readNumber_167 rfl ⟨Nat.le_of_ble_eq_true rfl, Nat.le_of_ble_eq_true rfl⟩ (⟨rfl, by rw [hE, if_neg (fun q => q.elim (fun q => c_144 (by rw [q, Nat.sub_self]; rfl)) (fun q => q c_154))]⟩)
      · refine gg_aldn dc_T_readNumber_157 rfl rfl ?_
        refine gg_aldn dc_T_readNumber_158 rfl rfl ?_
        refine gtt_o dc_T_readNumber_159 lf_T_19 hq.1 ?_
        refine gtt_pe dc_T_readNumber_162 lp_T_22 hq.1 ?_
        refine gg_ild dc_T_readNumber_165 rfl ?_
        exact gg_iret dc_T_readNumber_167 rfl ⟨Nat.le_of_ble_eq_true rfl, Nat.le_of_ble_eq_true rfl⟩ (⟨rfl, by rw [hE, if_pos (Or.inr c_154)]⟩)
  have t111 : ∀ ng za : Int32, (za = 0 ∧ ¬ (fi_N c L mb o + 1 < (rv_N c L mb o).2 ∧ c (fi_N c L mb o) = 48) ∨ za = 1 ∧ (fi_N c L mb o + 1 < (rv_N c L mb o).2 ∧ c (fi_N c L mb o) = 48)) → gg_P Γ mk_T_readNumber (fun v μ' => v = some (.int (va_9 c L mb o)) ∧ μ' = (τ, tm_N ν q (nI (rv_N c L mb o).2) (er_9 c L lo hi mb o))) 0 0 111 [some (.ref q), some (.int lo), some (.int hi), some (.int mb), some (.int (ng)), some (.int (nI (fi_N c L mb o))), some (.int (va_9 c L mb o)), some (.int (nI ((rv_N c L mb o).2 - fi_N c L mb o))), some (.int (za))] [] (τ, tm_N ν q (nI ((rv_N c L mb o).2)) (-1)) := by
    intro ng za hza
    refine gg_ild dc_T_readNumber_111 rfl ?_
    refine gg_ifle dc_T_readNumber_113 (fun c_113 => ?_) (fun c_113 => ?_)
    · exact t142 ng za (by unfold er_9; rw [if_neg (fun q => absurd c_113 (nI_ge (a := 0) (by omega) (by omega)))])
    · refine gg_ild dc_T_readNumber_116 rfl ?_
      refine gg_ifne dc_T_readNumber_118 (fun c_118 => ?_) (fun c_118 => ?_)
      · refine gg_aldn dc_T_readNumber_133 rfl rfl ?_
        refine gg_ild dc_T_readNumber_134 rfl ?_
        refine gtt_pe dc_T_readNumber_136 lp_T_22 hq.1 ?_
        refine gg_goto dc_T_readNumber_139 ?_
        refine gg_ild dc_T_readNumber_165 rfl ?_
        exact gg_iret dc_T_readNumber_167 rfl ⟨Nat.le_of_ble_eq_true rfl, Nat.le_of_ble_eq_true rfl⟩ (⟨rfl, by unfold er_9; rw [if_pos ⟨show fi_N c L mb o < (rv_N c L mb o).2 from Classical.not_not.mp fun q => c_113 (nI_le (b := 0) (by omega) (by omega)), Or.inl (hza.elim (fun q => absurd q.1 c_118) (fun q => q.2))⟩]⟩)
      · refine gg_ild dc_T_readNumber_121 rfl ?_
        refine gg_ildn dc_T_readNumber_123 rfl rfl ?_
        refine gg_iclt dc_T_readNumber_124 (fun c_124 => ?_) (fun c_124 => ?_)
        · refine gg_aldn dc_T_readNumber_133 rfl rfl ?_
          refine gg_ild dc_T_readNumber_134 rfl ?_
          refine gtt_pe dc_T_readNumber_136 lp_T_22 hq.1 ?_
          refine gg_goto dc_T_readNumber_139 ?_
          refine gg_ild dc_T_readNumber_165 rfl ?_
          exact gg_iret dc_T_readNumber_167 rfl ⟨Nat.le_of_ble_eq_true rfl, Nat.le_of_ble_eq_true rfl⟩ (⟨rfl, by unfold er_9; rw [if_pos ⟨show fi_N c L mb o < (rv_N c L mb o).2 from Classical.not_not.mp fun q => c_113 (nI_le (b := 0) (by omega) (by omega)), Or.inr (Or.inl c_124)⟩]⟩)
        · refine gg_ild dc_T_readNumber_127 rfl ?_
          refine gg_ildn dc_T_readNumber_129 rfl rfl ?_
          refine gg_icle dc_T_readNumber_130 (fun c_130 => ?_) (fun c_130 => ?_)
          · exact t142 ng za (by unfold er_9; rw [if_neg (fun q => q.2.elim (fun q => hza.elim (fun z => z.2 q) (fun z => absurd (z.1.symm.trans c_118) (by decide))) (fun q => q.elim c_124 (fun q => absurd c_130 (Int32.not_le.mpr q))))])
          · refine gg_aldn dc_T_readNumber_133 rfl rfl ?_
            refine gg_ild dc_T_readNumber_134 rfl ?_
            refine gtt_pe dc_T_readNumber_136 lp_T_22 hq.1 ?_
            refine gg_goto dc_T_readNumber_139 ?_
            refine gg_ild dc_T_readNumber_165 rfl ?_
            exact gg_iret dc_T_readNumber_167 rfl ⟨Nat.le_of_ble_eq_true rfl, Nat.le_of_ble_eq_true rfl⟩ (⟨rfl, by unfold er_9; rw [if_pos ⟨show fi_N c L mb o < (rv_N c L mb o).2 from Classical.not_not.mp fun q => c_113 (nI_le (b := 0) (by omega) (by omega)), Or.inr (Or.inr (Int32.not_le.mp c_130))⟩]⟩)
  have t75 : ∀ ng : Int32, (ng = 0 ∧ ¬ ng_B c L mb o ∨ ng = 1 ∧ ng_B c L mb o) → gg_P Γ mk_T_readNumber (fun v μ' => v = some (.int (va_9 c L mb o)) ∧ μ' = (τ, tm_N ν q (nI (rv_N c L mb o).2) (er_9 c L lo hi mb o))) 0 0 75 [some (.ref q), some (.int lo), some (.int hi), some (.int mb), some (.int (ng)), some (.int (nI (fi_N c L mb o))), some (.int (va_9 c L mb o)), none, none] [] (τ, tm_N ν q (nI ((rv_N c L mb o).2)) (-1)) := by
    intro ng hng
    refine gg_aldn dc_T_readNumber_75 rfl rfl ?_
    refine gtt_o dc_T_readNumber_76 lf_T_19 hq.1 ?_
    refine gg_ild dc_T_readNumber_79 rfl ?_
    refine gg_isub dc_T_readNumber_81 ?_
    refine gx_top (pk_sub hrv.1) ?_
    refine gg_ist (i := 7) dc_T_readNumber_82 (Nat.le_of_ble_eq_true rfl) rfl ?_
    dsimp only [List.set]
    refine gg_ild dc_T_readNumber_84 rfl ?_
    refine gg_iconst (v := 1) dc_T_readNumber_86 (by decide) ?_
    refine gg_icle dc_T_readNumber_87 (fun c_87 => ?_) (fun c_87 => ?_)
    · refine gg_iconst (v := 0) dc_T_readNumber_108 (by decide) ?_
      refine gg_ist (i := 8) dc_T_readNumber_109 (Nat.le_of_ble_eq_true rfl) rfl ?_
      dsimp only [List.set]
      exact t111 ng 0 (Or.inl ⟨rfl, fun q => absurd c_87 (nI_ge (a := 1) (by omega) (by omega))⟩)
    · have hl9 : 1 < (rv_N c L mb o).2 - fi_N c L mb o := Classical.not_not.mp fun q => c_87 (nI_le (b := 1) (by omega) (by omega))
      refine gg_aldn dc_T_readNumber_90 rfl rfl ?_
      refine gg_getr dc_T_readNumber_91 lf_T_11 hq.1 rfl ?_
      refine gg_ild dc_T_readNumber_94 rfl ?_
      refine gg_okS (sp_R_atE (k := fi_N c L mb o) hq.2 (by omega) rfl (by omega)) dc_T_readNumber_96 ml_T_87 ce_R_at ⟨Nat.le_of_ble_eq_true rfl, Nat.le_of_ble_eq_true rfl⟩ rfl (Nat.le_of_ble_eq_true rfl) ⟨rfl, rfl⟩ ⟨Nat.le_of_ble_eq_true rfl, Nat.le_of_ble_eq_true rfl⟩ ?_
      refine gx_top (show tm_N ν q (nI (rv_N c L mb o).2) (-1) (q + 1) (fi_N c L mb o) = c (fi_N c L mb o) by rw [tm_ne (by omega), hc]) ?_
      refine gg_bipush (v := 48) dc_T_readNumber_99 (by decide) ?_
      refine gg_icne dc_T_readNumber_101 (fun c_101 => ?_) (fun c_101 => ?_)
      · refine gg_iconst (v := 0) dc_T_readNumber_108 (by decide) ?_
        refine gg_ist (i := 8) dc_T_readNumber_109 (Nat.le_of_ble_eq_true rfl) rfl ?_
        dsimp only [List.set]
        exact t111 ng 0 (Or.inl ⟨rfl, fun q => c_101 q.2⟩)
      · refine gg_iconst (v := 1) dc_T_readNumber_104 (by decide) ?_
        refine gg_goto dc_T_readNumber_105 ?_
        refine gg_ist (i := 8) dc_T_readNumber_109 (Nat.le_of_ble_eq_true rfl) rfl ?_
        dsimp only [List.set]
        exact t111 ng 1 (Or.inr ⟨rfl, by have := (Classical.not_not.mp fun (q : ¬ 1 < (rv_N c L mb o).2 - fi_N c L mb o) => c_87 (nI_le (b := 1) (by omega) (by omega))); omega, by first | exact c_101 | exact Classical.not_not.mp c_101⟩)
  have t53 : ∀ ng : Int32, (ng = 0 ∧ ¬ ng_B c L mb o ∨ ng = 1 ∧ ng_B c L mb o) → gg_P Γ mk_T_readNumber (fun v μ' => v = some (.int (va_9 c L mb o)) ∧ μ' = (τ, tm_N ν q (nI (rv_N c L mb o).2) (er_9 c L lo hi mb o))) 0 0 53 [some (.ref q), some (.int lo), some (.int hi), some (.int mb), some (.int (ng)), none, none, none, none] [] (τ, tm_N ν q (nI (fi_N c L mb o)) (-1)) := by
    intro ng hng
    refine gg_aldn dc_T_readNumber_53 rfl rfl ?_
    refine gtt_o dc_T_readNumber_54 lf_T_19 hq.1 ?_
    refine gg_ist (i := 5) dc_T_readNumber_57 (Nat.le_of_ble_eq_true rfl) rfl ?_
    dsimp only [List.set]
    refine gg_aldn dc_T_readNumber_59 rfl rfl ?_
    refine gg_okV (sp_T_readDigits hq hL hc h100 hfi.2) dc_T_readNumber_60 ml_T_84 ce_T_readDigits ⟨Nat.le_of_ble_eq_true rfl, Nat.le_of_ble_eq_true rfl⟩ hq.1 rfl rfl (Nat.le_of_ble_eq_true rfl) ⟨rfl, rfl⟩ ⟨Nat.le_of_ble_eq_true rfl, Nat.le_of_ble_eq_true rfl⟩ ?_
    refine gg_ist (i := 6) dc_T_readNumber_63 (Nat.le_of_ble_eq_true rfl) rfl ?_
    dsimp only [List.set]
    refine gg_ild dc_T_readNumber_65 rfl ?_
    refine gg_ifeq dc_T_readNumber_67 (fun c_67 => ?_) (fun c_67 => ?_)
    · exact gg_e (t75 ng hng) (by rw [show va_9 c L mb o = (rd_D c L 5 (fi_N c L mb o) 0).1 from if_neg (hng.elim (fun q => q.2) (fun q => absurd (q.1.symm.trans c_67) (by decide)))]) rfl rfl
    · refine gg_ild dc_T_readNumber_70 rfl ?_
      refine gg_ineg dc_T_readNumber_72 ?_
      refine gg_ist (i := 6) dc_T_readNumber_73 (Nat.le_of_ble_eq_true rfl) rfl ?_
      dsimp only [List.set]
      exact gg_e (t75 ng hng) (by rw [show va_9 c L mb o = -(rd_D c L 5 (fi_N c L mb o) 0).1 from if_pos (hng.elim (fun q => absurd q.1 c_67) (fun q => q.2))]) rfl rfl
  refine gg_aldn dc_T_readNumber_0 rfl rfl ?_
  refine gtt_e dc_T_readNumber_1 lf_T_22 hq.1 ?_
  refine gg_iconst (v := (-1)) dc_T_readNumber_4 (by decide) ?_
  refine gg_iceq dc_T_readNumber_5 (fun c_5 => ?_) (fun c_5 => ?_)
  · refine gg_aldn dc_T_readNumber_10 rfl rfl ?_
    refine gg_okVv (sp_T_skipSpaces hq hL hc h100 ho) dc_T_readNumber_11 ml_T_31 ce_T_skipSpaces ⟨Nat.le_of_ble_eq_true rfl, Nat.le_of_ble_eq_true rfl⟩ hq.1 rfl rfl (Nat.le_of_ble_eq_true rfl) ⟨rfl, rfl⟩ ⟨Nat.le_of_ble_eq_true rfl, Nat.le_of_ble_eq_true rfl⟩ ?_
    refine gg_ildn dc_T_readNumber_14 rfl rfl ?_
    refine gg_ifeq dc_T_readNumber_15 (fun c_15 => ?_) (fun c_15 => ?_)
    · refine gg_iconst (v := 0) dc_T_readNumber_31 (by decide) ?_
      refine gg_ist (i := 4) dc_T_readNumber_32 (Nat.le_of_ble_eq_true rfl) rfl ?_
      dsimp only [List.set]
      refine gg_ild dc_T_readNumber_34 rfl ?_
      refine gg_ifeq dc_T_readNumber_36 (fun c_36 => ?_) (fun c_36 => ?_)
      · exact gg_e (t53 0 (Or.inl ⟨rfl, fun q => q.1 c_15⟩)) rfl rfl (by rw [show fi_N c L mb o = so c L o from if_neg (fun q => q.1 c_15)])
      · exact absurd rfl c_36
    · refine gg_aldn dc_T_readNumber_18 rfl rfl ?_
      refine gg_okV (sp_T_nc hq hL hc h100 (so_L ho)) dc_T_readNumber_19 ml_T_39 ce_T_nextCharacter ⟨Nat.le_of_ble_eq_true rfl, Nat.le_of_ble_eq_true rfl⟩ hq.1 rfl rfl (Nat.le_of_ble_eq_true rfl) ⟨rfl, rfl⟩ ⟨Nat.le_of_ble_eq_true rfl, Nat.le_of_ble_eq_true rfl⟩ ?_
      refine gg_bipush (v := 45) dc_T_readNumber_22 (by decide) ?_
      refine gg_icne dc_T_readNumber_24 (fun c_24 => ?_) (fun c_24 => ?_)
      · refine gg_iconst (v := 0) dc_T_readNumber_31 (by decide) ?_
        refine gg_ist (i := 4) dc_T_readNumber_32 (Nat.le_of_ble_eq_true rfl) rfl ?_
        dsimp only [List.set]
        refine gg_ild dc_T_readNumber_34 rfl ?_
        refine gg_ifeq dc_T_readNumber_36 (fun c_36 => ?_) (fun c_36 => ?_)
        · exact gg_e (t53 0 (Or.inl ⟨rfl, fun q => c_24 q.2⟩)) rfl rfl (by rw [show fi_N c L mb o = so c L o from if_neg (fun q => c_24 q.2)])
        · exact absurd rfl c_36
      · refine gg_iconst (v := 1) dc_T_readNumber_27 (by decide) ?_
        refine gg_goto dc_T_readNumber_28 ?_
        refine gg_ist (i := 4) dc_T_readNumber_32 (Nat.le_of_ble_eq_true rfl) rfl ?_
        dsimp only [List.set]
        have hng9 : ng_B c L mb o := ⟨c_15, by first | exact c_24 | exact Classical.not_not.mp c_24⟩
        have hl9 : so c L o + 1 ≤ L := ng_t hng9
        refine gg_ild dc_T_readNumber_34 rfl ?_
        refine gg_ifeq dc_T_readNumber_36 (fun c_36 => ?_) (fun c_36 => ?_)
        · exact absurd c_36 (by decide)
        · refine gg_aldn dc_T_readNumber_39 rfl rfl ?_
          refine gg_dup dc_T_readNumber_40 rfl ?_
          refine gtt_o dc_T_readNumber_41 lf_T_19 hq.1 ?_
          refine gg_iconst (v := 1) dc_T_readNumber_44 (by decide) ?_
          refine gg_iadd dc_T_readNumber_45 ?_
          refine gx_top (nI_1 _) ?_
          refine gtt_po dc_T_readNumber_46 lp_T_19 hq.1 ?_
          refine gg_aldn dc_T_readNumber_49 rfl rfl ?_
          refine gg_okVv (sp_T_skipSpaces hq hL hc h100 hl9) dc_T_readNumber_50 ml_T_31 ce_T_skipSpaces ⟨Nat.le_of_ble_eq_true rfl, Nat.le_of_ble_eq_true rfl⟩ hq.1 rfl rfl (Nat.le_of_ble_eq_true rfl) ⟨rfl, rfl⟩ ⟨Nat.le_of_ble_eq_true rfl, Nat.le_of_ble_eq_true rfl⟩ ?_
          exact gg_e (t53 1 (Or.inr ⟨rfl, hng9⟩)) rfl rfl (by rw [show fi_N c L mb o = so c L (so c L o + 1) from if_pos hng9])
  · exact absurd rfl c_5
theorem sp_T_readNumber {Γ : cx_T} {τ : Nat × (Nat → sh_T)} {ν : Nat → Nat → Int32} {q L : Nat} {c : Nat → Int32} (hq : sh_Tx τ.2 q) (hL : ν q 1 = nI L) (hc : ν (q + 1) = c) (h100 : L ≤ 100) {p : Nat × Int32} {lo hi mb : Int32} (ho : p.1 ≤ L) : mt_P Γ mk_T_readNumber [.ref q, .int lo, .int hi, .int mb] (τ, tm_N ν q (nI p.1) p.2) (fun v μ' => v = some (.int (rn_F c L lo hi mb p).1) ∧ μ' = (τ, tm_N ν q (nI (rn_F c L lo hi mb p).2.1) (rn_F c L lo hi mb p).2.2)) := by
  obtain ⟨o, e⟩ := p
  by_cases he : e = -1
  · subst he
    rw [show rn_F c L lo hi mb (o, -1) = (va_9 c L mb o, (rv_N c L mb o).2, er_9 c L lo hi mb o) from if_pos rfl]
    exact sp_T_readNumber1 hq hL hc h100 ho
  · rw [show rn_F c L lo hi mb (o, e) = (0, (o, e)) from if_neg he]
    exact sp_T_readNumberE hq hL hc h100 he
def ls_I (k x : Int32) : Int32 := if k = 108 then 0 else if k = 99 then -99 else x + 1
def gs_I (k : Int32) : Int32 := if k = 108 then 200 else if k = 99 then 99 else 20000
set_option maxRecDepth 100000 in
set_option maxHeartbeats 4000000 in
theorem sp_T_leastSecond {Γ : cx_T} {τ : Nat × (Nat → sh_T)} {ν : Nat → Nat → Int32} {k x : Int32} : mt_P Γ mk_T_leastSecond [.int k, .int x] (τ, ν) (fun v μ' => v = some (.int (ls_I k x)) ∧ μ' = (τ, ν)) := by
  refine mt_of (L := [some (.int k), some (.int x)]) (by decide +kernel) (by simp [Value.category]) (Nat.le_of_ble_eq_true rfl) (lc_2_2 ()) ?_
  refine gg_ildn dc_T_leastSecond_0 rfl rfl ?_
  refine gg_bipush (v := 108) dc_T_leastSecond_1 (by decide) ?_
  refine gg_icne dc_T_leastSecond_3 (fun c_3 => ?_) (fun c_3 => ?_)
  · refine gg_ildn dc_T_leastSecond_8 rfl rfl ?_
    refine gg_bipush (v := 99) dc_T_leastSecond_9 (by decide) ?_
    refine gg_icne dc_T_leastSecond_11 (fun c_11 => ?_) (fun c_11 => ?_)
    · refine gg_ildn dc_T_leastSecond_19 rfl rfl ?_
      refine gg_iconst (v := 1) dc_T_leastSecond_20 (by decide) ?_
      refine gg_iadd dc_T_leastSecond_21 ?_
      exact gg_iret dc_T_leastSecond_22 rfl ⟨Nat.le_of_ble_eq_true rfl, Nat.le_of_ble_eq_true rfl⟩ (⟨by unfold ls_I; rw [if_neg c_3, if_neg c_11], rfl⟩)
    · refine gg_bipush (v := (-99)) dc_T_leastSecond_14 (by decide) ?_
      refine gg_goto dc_T_leastSecond_16 ?_
      exact gg_iret dc_T_leastSecond_22 rfl ⟨Nat.le_of_ble_eq_true rfl, Nat.le_of_ble_eq_true rfl⟩ (⟨by unfold ls_I; rw [if_neg c_3, if_pos (by first | exact c_11 | exact Classical.not_not.mp c_11)], rfl⟩)
  · refine gg_iconst (v := 0) dc_T_leastSecond_6 (by decide) ?_
    exact gg_iret dc_T_leastSecond_7 rfl ⟨Nat.le_of_ble_eq_true rfl, Nat.le_of_ble_eq_true rfl⟩ (⟨by unfold ls_I; rw [if_pos (by first | exact c_3 | exact Classical.not_not.mp c_3)], rfl⟩)
set_option maxRecDepth 100000 in
set_option maxHeartbeats 4000000 in
theorem sp_T_greatestSecond {Γ : cx_T} {τ : Nat × (Nat → sh_T)} {ν : Nat → Nat → Int32} {k : Int32} : mt_P Γ mk_T_greatestSecond [.int k] (τ, ν) (fun v μ' => v = some (.int (gs_I k)) ∧ μ' = (τ, ν)) := by
  refine mt_of (L := [some (.int k)]) (by decide +kernel) (by simp [Value.category]) (Nat.le_of_ble_eq_true rfl) (lc_1_1 ()) ?_
  refine gg_ildn dc_T_greatestSecond_0 rfl rfl ?_
  refine gg_bipush (v := 108) dc_T_greatestSecond_1 (by decide) ?_
  refine gg_icne dc_T_greatestSecond_3 (fun c_3 => ?_) (fun c_3 => ?_)
  · refine gg_ildn dc_T_greatestSecond_10 rfl rfl ?_
    refine gg_bipush (v := 99) dc_T_greatestSecond_11 (by decide) ?_
    refine gg_icne dc_T_greatestSecond_13 (fun c_13 => ?_) (fun c_13 => ?_)
    · refine gg_sipush (v := 20000) dc_T_greatestSecond_21 (by decide) ?_
      exact gg_iret dc_T_greatestSecond_24 rfl ⟨Nat.le_of_ble_eq_true rfl, Nat.le_of_ble_eq_true rfl⟩ (⟨by unfold gs_I; rw [if_neg c_3, if_neg c_13], rfl⟩)
    · refine gg_bipush (v := 99) dc_T_greatestSecond_16 (by decide) ?_
      refine gg_goto dc_T_greatestSecond_18 ?_
      exact gg_iret dc_T_greatestSecond_24 rfl ⟨Nat.le_of_ble_eq_true rfl, Nat.le_of_ble_eq_true rfl⟩ (⟨by unfold gs_I; rw [if_neg c_3, if_pos (by first | exact c_13 | exact Classical.not_not.mp c_13)], rfl⟩)
  · refine gg_sipush (v := 200) dc_T_greatestSecond_6 (by decide) ?_
    exact gg_iret dc_T_greatestSecond_9 rfl ⟨Nat.le_of_ble_eq_true rfl, Nat.le_of_ble_eq_true rfl⟩ (⟨by unfold gs_I; rw [if_pos (by first | exact c_3 | exact Classical.not_not.mp c_3)], rfl⟩)
/-- what an item makes of a row, and whether it finds room -/
def hr_I (S : Nat → Int32) (b : Nat) (x : Int32) : Int32 := if ls_n S b < 10 then 1 else ha_S S b x
def kb_N (k : Int32) : Nat := if k = 108 then 21 else 42
def si_S (S : Nat → Int32) (k x y : Int32) : Nat → Int32 := if k = 102 then upd (upd (upd S 18 1) 19 x) 20 y else if hr_I S (kb_N k) x = 0 then S else pp_S S (kb_N k) x y
def si_E (S : Nat → Int32) (k x : Int32) (e : Int32) : Int32 := if k = 102 then -1 else if hr_I S (kb_N k) x = 0 then e else -1
theorem hr_o {S : Nat → Int32} {b : Nat} {x : Int32} (h : ¬ hr_I S b x = 0) : ¬ ha_S S b x = 0 ∨ ls_n S b < 10 := by
  unfold hr_I at h
  by_cases c : ls_n S b < 10
  · exact Or.inr c
  · rw [if_neg c] at h; exact Or.inl h
theorem pp_o {S : Nat → Int32} {b j : Nat} {x v : Int32} (hr : ¬ ha_S S b x = 0 ∨ ls_n S b < 10) (hn : ls_n S b ≤ 10) (hj : j < b ∨ b + 20 < j) : pp_S S b x v j = S j := by
  unfold pp_S
  by_cases c : ha_S S b x = 0
  · have h1 := hr.resolve_left (fun q => q c)
    rw [if_pos c, rw_o (by omega)]
  · rw [if_neg c]
    obtain ⟨k, hk, _⟩ := ha_1 c
    have hle : ut_S S b x ≤ ls_n S b := by
      have := (ut_le (ls_P S b) x (ls_n S b) 0).2
      unfold ut_S
      omega
    rw [ud_ne (by omega)]
theorem rp_o {S : Nat → Int32} {b j : Nat} {x : Int32} (hn : ls_n S b ≤ 10) (hj : j < b ∨ b + 20 < j) : rp_S S b x j = S j := rw_o (by omega)
theorem AX.tm {ν : Nat → Nat → Int32} {q a : Nat} {S : Nat → Int32} {o e : Int32} (h : AX ν a S) (hd : q < a ∨ a + 12 ≤ q) : AX (tm_N ν q o e) a S := h.fr (a := 0) (fun c h1 h2 => tm_ne (by omega))
theorem fr_p3 {ν ν' : Nat → Nat → Int32} {a : Nat} (h : ∀ c : Nat, c ≠ a + 3 → c ≠ a + 3 + 1 → c ≠ a + 3 + 2 → ν' c = ν c) : fr_P ν ν' a := fun b hb => h b (by omega) (by omega) (by omega)
theorem fr_p6 {ν ν' : Nat → Nat → Int32} {a : Nat} (h : ∀ c : Nat, c ≠ a + 6 → c ≠ a + 6 + 1 → c ≠ a + 6 + 2 → ν' c = ν c) : fr_P ν ν' a := fun b hb => h b (by omega) (by omega) (by omega)
set_option maxRecDepth 100000 in
set_option maxHeartbeats 4000000 in
theorem sp_T_setItemF {Γ : cx_T} {τ : Nat × (Nat → sh_T)} {ν : Nat → Nat → Int32} {q L : Nat} {c : Nat → Int32} (hq : sh_Tx τ.2 q) (hL : ν q 1 = nI L) (hc : ν (q + 1) = c) (h100 : L ≤ 100) {a : Nat} {S : Nat → Int32} {o e k x y : Int32} (hx : sh_X τ.2 a) (hX : AX ν a S) (hd : q < a ∨ a + 12 ≤ q) (hk : k = 102) : mt_P Γ mk_T_setItem [.ref q, .ref a, .int k, .int x, .int y, .int e] (τ, tm_N ν q o (-1)) (ax_Q τ (tm_N ν q o (-1)) a none (upd (upd (upd S 18 1) 19 x) 20 y)) := by
  refine mt_of (L := [some (.ref q), some (.ref a), some (.int k), some (.int x), some (.int y), some (.int e), none]) (by decide +kernel) (by simp [Value.category]) (Nat.le_of_ble_eq_true rfl) (lc_6_7 ()) ?_
  have hX := hX.tm (q := q) (o := o) (e := -1) hd
  refine gg_ildn dc_T_setItem_0 rfl rfl ?_
  refine gg_bipush (v := 102) dc_T_setItem_1 (by decide) ?_
  refine gg_icne dc_T_setItem_3 (fun c_3 => ?_) (fun c_3 => ?_)
  · exact absurd hk c_3
  · refine gg_aldn dc_T_setItem_6 rfl rfl ?_
    refine gg_ildn dc_T_setItem_7 rfl rfl ?_
    refine gg_ild dc_T_setItem_8 rfl ?_
    refine gg_callV (sp_A_placeFlag hx hX) dc_T_setItem_10 ml_T_63 ce_A_placeFlag ⟨Nat.le_of_ble_eq_true rfl, Nat.le_of_ble_eq_true rfl⟩ hx.1 rfl rfl (Nat.le_of_ble_eq_true rfl) ⟨Nat.le_of_ble_eq_true rfl, Nat.le_of_ble_eq_true rfl⟩ ?_
    rintro v μ' ⟨ν1, rfl, rfl, hX1, hF1⟩
    dsimp only [Option.toList, List.cons_append, List.nil_append]
    exact gg_vret dc_T_setItem_13 rfl ⟨Nat.le_of_ble_eq_true rfl, Nat.le_of_ble_eq_true rfl⟩ (⟨_, rfl, rfl, hX1, hF1⟩)
set_option maxRecDepth 100000 in
set_option maxHeartbeats 4000000 in
theorem sp_T_setItemL1 {Γ : cx_T} {τ : Nat × (Nat → sh_T)} {ν : Nat → Nat → Int32} {q L : Nat} {c : Nat → Int32} (hq : sh_Tx τ.2 q) (hL : ν q 1 = nI L) (hc : ν (q + 1) = c) (h100 : L ≤ 100) {a : Nat} {S : Nat → Int32} {o e k x y : Int32} (hx : sh_X τ.2 a) (hX : AX ν a S) (hd : q < a ∨ a + 12 ≤ q) (hk : k = 108) (hr : ¬ hr_I S 21 x = 0) : mt_P Γ mk_T_setItem [.ref q, .ref a, .int k, .int x, .int y, .int e] (τ, tm_N ν q o (-1)) (ax_Q τ (tm_N ν q o (-1)) a none (pp_S S 21 x y)) := by
  refine mt_of (L := [some (.ref q), some (.ref a), some (.int k), some (.int x), some (.int y), some (.int e), none]) (by decide +kernel) (by simp [Value.category]) (Nat.le_of_ble_eq_true rfl) (lc_6_7 ()) ?_
  have hX := hX.tm (q := q) (o := o) (e := -1) hd
  refine gg_ildn dc_T_setItem_0 rfl rfl ?_
  refine gg_bipush (v := 102) dc_T_setItem_1 (by decide) ?_
  refine gg_icne dc_T_setItem_3 (fun c_3 => ?_) (fun c_3 => ?_)
  · refine gg_ildn dc_T_setItem_14 rfl rfl ?_
    refine gg_bipush (v := 108) dc_T_setItem_15 (by decide) ?_
    refine gg_icne dc_T_setItem_17 (fun c_17 => ?_) (fun c_17 => ?_)
    · exact absurd hk c_17
    · refine gg_aldn dc_T_setItem_20 rfl rfl ?_
      refine gg_getr dc_T_setItem_21 lf_T_69 hx.1 rfl ?_
      refine gg_goto dc_T_setItem_24 ?_
      refine gg_ast (i := 6) dc_T_setItem_31 (Nat.le_of_ble_eq_true rfl) rfl ?_
      dsimp only [List.set]
      refine gg_ald dc_T_setItem_33 rfl ?_
      refine gg_ildn dc_T_setItem_35 rfl rfl ?_
      refine gg_okV (sp_P_haR hx.2.2.2.1 hX.2.2.2.2.1) dc_T_setItem_36 ml_T_76 ce_P_hasRoomFor ⟨Nat.le_of_ble_eq_true rfl, Nat.le_of_ble_eq_true rfl⟩ hx.2.2.2.1.1 rfl rfl (Nat.le_of_ble_eq_true rfl) ⟨rfl, rfl⟩ ⟨Nat.le_of_ble_eq_true rfl, Nat.le_of_ble_eq_true rfl⟩ ?_
      refine gg_ifeq dc_T_setItem_39 (fun c_39 => ?_) (fun c_39 => ?_)
      · exact absurd c_39 hr
      · refine gg_ald dc_T_setItem_42 rfl ?_
        refine gg_ildn dc_T_setItem_44 rfl rfl ?_
        refine gg_ild dc_T_setItem_45 rfl ?_
        refine gg_callV (sp_P_putR (b := 21) hx.2.2.2.1 hX.2.2.2.2.1 (hr_o hr)) dc_T_setItem_47 ml_T_82 ce_P_put ⟨Nat.le_of_ble_eq_true rfl, Nat.le_of_ble_eq_true rfl⟩ hx.2.2.2.1.1 rfl rfl (Nat.le_of_ble_eq_true rfl) ⟨Nat.le_of_ble_eq_true rfl, Nat.le_of_ble_eq_true rfl⟩ ?_
        rintro v μ' ⟨ν1, rfl, rfl, hR1, ho1⟩
        dsimp only [Option.toList, List.cons_append, List.nil_append]
        refine gg_goto dc_T_setItem_50 ?_
        exact gg_vret dc_T_setItem_59 rfl ⟨Nat.le_of_ble_eq_true rfl, Nat.le_of_ble_eq_true rfl⟩ (⟨_, rfl, rfl, hX.ld hR1 ho1 (fun j hj => pp_o (hr_o hr) (hX.2.2.2.2.1.n (by omega)).1 (by omega)), fr_p3 ho1⟩)
  · exact absurd (by first | exact c_3 | exact Classical.not_not.mp c_3) (by rw [hk]; decide)
set_option maxRecDepth 100000 in
set_option maxHeartbeats 4000000 in
theorem sp_T_setItemL0 {Γ : cx_T} {τ : Nat × (Nat → sh_T)} {ν : Nat → Nat → Int32} {q L : Nat} {c : Nat → Int32} (hq : sh_Tx τ.2 q) (hL : ν q 1 = nI L) (hc : ν (q + 1) = c) (h100 : L ≤ 100) {a : Nat} {S : Nat → Int32} {o e k x y : Int32} (hx : sh_X τ.2 a) (hX : AX ν a S) (hd : q < a ∨ a + 12 ≤ q) (hk : k = 108) (hr : hr_I S 21 x = 0) : mt_P Γ mk_T_setItem [.ref q, .ref a, .int k, .int x, .int y, .int e] (τ, tm_N ν q o (-1)) (ax_Q τ (tm_N ν q o (e)) a none (S)) := by
  refine mt_of (L := [some (.ref q), some (.ref a), some (.int k), some (.int x), some (.int y), some (.int e), none]) (by decide +kernel) (by simp [Value.category]) (Nat.le_of_ble_eq_true rfl) (lc_6_7 ()) ?_
  have hX := hX.tm (q := q) (o := o) (e := -1) hd
  have hX9 := hX.tm (q := q) (o := o) (e := e) hd
  rw [tm_tm] at hX9
  refine gg_ildn dc_T_setItem_0 rfl rfl ?_
  refine gg_bipush (v := 102) dc_T_setItem_1 (by decide) ?_
  refine gg_icne dc_T_setItem_3 (fun c_3 => ?_) (fun c_3 => ?_)
  · refine gg_ildn dc_T_setItem_14 rfl rfl ?_
    refine gg_bipush (v := 108) dc_T_setItem_15 (by decide) ?_
    refine gg_icne dc_T_setItem_17 (fun c_17 => ?_) (fun c_17 => ?_)
    · exact absurd hk c_17
    · refine gg_aldn dc_T_setItem_20 rfl rfl ?_
      refine gg_getr dc_T_setItem_21 lf_T_69 hx.1 rfl ?_
      refine gg_goto dc_T_setItem_24 ?_
      refine gg_ast (i := 6) dc_T_setItem_31 (Nat.le_of_ble_eq_true rfl) rfl ?_
      dsimp only [List.set]
      refine gg_ald dc_T_setItem_33 rfl ?_
      refine gg_ildn dc_T_setItem_35 rfl rfl ?_
      refine gg_okV (sp_P_haR hx.2.2.2.1 hX.2.2.2.2.1) dc_T_setItem_36 ml_T_76 ce_P_hasRoomFor ⟨Nat.le_of_ble_eq_true rfl, Nat.le_of_ble_eq_true rfl⟩ hx.2.2.2.1.1 rfl rfl (Nat.le_of_ble_eq_true rfl) ⟨rfl, rfl⟩ ⟨Nat.le_of_ble_eq_true rfl, Nat.le_of_ble_eq_true rfl⟩ ?_
      refine gg_ifeq dc_T_setItem_39 (fun c_39 => ?_) (fun c_39 => ?_)
      · refine gg_aldn dc_T_setItem_53 rfl rfl ?_
        refine gg_ild dc_T_setItem_54 rfl ?_
        refine gtt_pe dc_T_setItem_56 lp_T_22 hq.1 ?_
        exact gg_vret dc_T_setItem_59 rfl ⟨Nat.le_of_ble_eq_true rfl, Nat.le_of_ble_eq_true rfl⟩ (⟨_, rfl, rfl, hX9, fr_rf⟩)
      · exact absurd hr c_39
  · exact absurd (by first | exact c_3 | exact Classical.not_not.mp c_3) (by rw [hk]; decide)
set_option maxRecDepth 100000 in
set_option maxHeartbeats 4000000 in
theorem sp_T_setItemC1 {Γ : cx_T} {τ : Nat × (Nat → sh_T)} {ν : Nat → Nat → Int32} {q L : Nat} {c : Nat → Int32} (hq : sh_Tx τ.2 q) (hL : ν q 1 = nI L) (hc : ν (q + 1) = c) (h100 : L ≤ 100) {a : Nat} {S : Nat → Int32} {o e k x y : Int32} (hx : sh_X τ.2 a) (hX : AX ν a S) (hd : q < a ∨ a + 12 ≤ q) (hk1 : ¬ k = 102) (hk : ¬ k = 108) (hr : ¬ hr_I S 42 x = 0) : mt_P Γ mk_T_setItem [.ref q, .ref a, .int k, .int x, .int y, .int e] (τ, tm_N ν q o (-1)) (ax_Q τ (tm_N ν q o (-1)) a none (pp_S S 42 x y)) := by
  refine mt_of (L := [some (.ref q), some (.ref a), some (.int k), some (.int x), some (.int y), some (.int e), none]) (by decide +kernel) (by simp [Value.category]) (Nat.le_of_ble_eq_true rfl) (lc_6_7 ()) ?_
  have hX := hX.tm (q := q) (o := o) (e := -1) hd
  refine gg_ildn dc_T_setItem_0 rfl rfl ?_
  refine gg_bipush (v := 102) dc_T_setItem_1 (by decide) ?_
  refine gg_icne dc_T_setItem_3 (fun c_3 => ?_) (fun c_3 => ?_)
  · refine gg_ildn dc_T_setItem_14 rfl rfl ?_
    refine gg_bipush (v := 108) dc_T_setItem_15 (by decide) ?_
    refine gg_icne dc_T_setItem_17 (fun c_17 => ?_) (fun c_17 => ?_)
    · refine gg_aldn dc_T_setItem_27 rfl rfl ?_
      refine gg_getr dc_T_setItem_28 lf_T_73 hx.1 rfl ?_
      refine gg_ast (i := 6) dc_T_setItem_31 (Nat.le_of_ble_eq_true rfl) rfl ?_
      dsimp only [List.set]
      refine gg_ald dc_T_setItem_33 rfl ?_
      refine gg_ildn dc_T_setItem_35 rfl rfl ?_
      refine gg_okV (sp_P_haR hx.2.2.2.2.1 hX.2.2.2.2.2.1) dc_T_setItem_36 ml_T_76 ce_P_hasRoomFor ⟨Nat.le_of_ble_eq_true rfl, Nat.le_of_ble_eq_true rfl⟩ hx.2.2.2.2.1.1 rfl rfl (Nat.le_of_ble_eq_true rfl) ⟨rfl, rfl⟩ ⟨Nat.le_of_ble_eq_true rfl, Nat.le_of_ble_eq_true rfl⟩ ?_
      refine gg_ifeq dc_T_setItem_39 (fun c_39 => ?_) (fun c_39 => ?_)
      · exact absurd c_39 hr
      · refine gg_ald dc_T_setItem_42 rfl ?_
        refine gg_ildn dc_T_setItem_44 rfl rfl ?_
        refine gg_ild dc_T_setItem_45 rfl ?_
        refine gg_callV (sp_P_putR (b := 42) hx.2.2.2.2.1 hX.2.2.2.2.2.1 (hr_o hr)) dc_T_setItem_47 ml_T_82 ce_P_put ⟨Nat.le_of_ble_eq_true rfl, Nat.le_of_ble_eq_true rfl⟩ hx.2.2.2.2.1.1 rfl rfl (Nat.le_of_ble_eq_true rfl) ⟨Nat.le_of_ble_eq_true rfl, Nat.le_of_ble_eq_true rfl⟩ ?_
        rintro v μ' ⟨ν1, rfl, rfl, hR1, ho1⟩
        dsimp only [Option.toList, List.cons_append, List.nil_append]
        refine gg_goto dc_T_setItem_50 ?_
        exact gg_vret dc_T_setItem_59 rfl ⟨Nat.le_of_ble_eq_true rfl, Nat.le_of_ble_eq_true rfl⟩ (⟨_, rfl, rfl, hX.cb hR1 ho1 (fun j hj => pp_o (hr_o hr) (hX.2.2.2.2.2.1.n (by omega)).1 (by omega)), fr_p6 ho1⟩)
    · exact absurd (by first | exact c_17 | exact Classical.not_not.mp c_17) hk
  · exact absurd (by first | exact c_3 | exact Classical.not_not.mp c_3) hk1
set_option maxRecDepth 100000 in
set_option maxHeartbeats 4000000 in
theorem sp_T_setItemC0 {Γ : cx_T} {τ : Nat × (Nat → sh_T)} {ν : Nat → Nat → Int32} {q L : Nat} {c : Nat → Int32} (hq : sh_Tx τ.2 q) (hL : ν q 1 = nI L) (hc : ν (q + 1) = c) (h100 : L ≤ 100) {a : Nat} {S : Nat → Int32} {o e k x y : Int32} (hx : sh_X τ.2 a) (hX : AX ν a S) (hd : q < a ∨ a + 12 ≤ q) (hk1 : ¬ k = 102) (hk : ¬ k = 108) (hr : hr_I S 42 x = 0) : mt_P Γ mk_T_setItem [.ref q, .ref a, .int k, .int x, .int y, .int e] (τ, tm_N ν q o (-1)) (ax_Q τ (tm_N ν q o (e)) a none (S)) := by
  refine mt_of (L := [some (.ref q), some (.ref a), some (.int k), some (.int x), some (.int y), some (.int e), none]) (by decide +kernel) (by simp [Value.category]) (Nat.le_of_ble_eq_true rfl) (lc_6_7 ()) ?_
  have hX := hX.tm (q := q) (o := o) (e := -1) hd
  have hX9 := hX.tm (q := q) (o := o) (e := e) hd
  rw [tm_tm] at hX9
  refine gg_ildn dc_T_setItem_0 rfl rfl ?_
  refine gg_bipush (v := 102) dc_T_setItem_1 (by decide) ?_
  refine gg_icne dc_T_setItem_3 (fun c_3 => ?_) (fun c_3 => ?_)
  · refine gg_ildn dc_T_setItem_14 rfl rfl ?_
    refine gg_bipush (v := 108) dc_T_setItem_15 (by decide) ?_
    refine gg_icne dc_T_setItem_17 (fun c_17 => ?_) (fun c_17 => ?_)
    · refine gg_aldn dc_T_setItem_27 rfl rfl ?_
      refine gg_getr dc_T_setItem_28 lf_T_73 hx.1 rfl ?_
      refine gg_ast (i := 6) dc_T_setItem_31 (Nat.le_of_ble_eq_true rfl) rfl ?_
      dsimp only [List.set]
      refine gg_ald dc_T_setItem_33 rfl ?_
      refine gg_ildn dc_T_setItem_35 rfl rfl ?_
      refine gg_okV (sp_P_haR hx.2.2.2.2.1 hX.2.2.2.2.2.1) dc_T_setItem_36 ml_T_76 ce_P_hasRoomFor ⟨Nat.le_of_ble_eq_true rfl, Nat.le_of_ble_eq_true rfl⟩ hx.2.2.2.2.1.1 rfl rfl (Nat.le_of_ble_eq_true rfl) ⟨rfl, rfl⟩ ⟨Nat.le_of_ble_eq_true rfl, Nat.le_of_ble_eq_true rfl⟩ ?_
      refine gg_ifeq dc_T_setItem_39 (fun c_39 => ?_) (fun c_39 => ?_)
      · refine gg_aldn dc_T_setItem_53 rfl rfl ?_
        refine gg_ild dc_T_setItem_54 rfl ?_
        refine gtt_pe dc_T_setItem_56 lp_T_22 hq.1 ?_
        exact gg_vret dc_T_setItem_59 rfl ⟨Nat.le_of_ble_eq_true rfl, Nat.le_of_ble_eq_true rfl⟩ (⟨_, rfl, rfl, hX9, fr_rf⟩)
      · exact absurd hr c_39
    · exact absurd (by first | exact c_17 | exact Classical.not_not.mp c_17) hk
  · exact absurd (by first | exact c_3 | exact Classical.not_not.mp c_3) hk1
