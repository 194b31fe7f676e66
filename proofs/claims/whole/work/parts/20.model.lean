/-! the reference in memory: six cells from m on; its row is cell 1 -/
def mv_N (ν : Nat → Nat → Int32) (m : Nat) (X : Nat → Nat → Int32) : Nat → Nat → Int32 := fun c => if m ≤ c ∧ c < m + 6 then X (c - m) else ν c
def sh_M (sh : Nat → sh_T) (m : Nat) : Prop := sh m = .inr (.inr (6, [some (some (m + 1)), some (some (m + 2)), none, some (some (m + 3)), none, some (some (m + 4)), some (some (m + 5)), none, none, none])) ∧ sh (m + 1) = .inl (0, 80) ∧ sh (m + 2) = .inl (0, 480) ∧ sh (m + 3) = .inl (0, 160) ∧ sh (m + 4) = .inl (0, 80) ∧ sh (m + 5) = .inl (1, 100)
def mz_N (o : Nat) : Nat := match o with
  | 1 => 80
  | 2 => 480
  | 3 => 160
  | _ => 80
theorem mv_at {ν : Nat → Nat → Int32} {m o : Nat} {X : Nat → Nat → Int32} (h : o < 6) : mv_N ν m X (m + o) = X o := by
  unfold mv_N
  rw [if_pos (by omega), show m + o - m = o by omega]
theorem mv_up {ν : Nat → Nat → Int32} {m o k : Nat} {X : Nat → Nat → Int32} {v : Int32} (h : o < 6) : up_2 (mv_N ν m X) (m + o) k v = mv_N ν m (up_2 X o k v) := by
  funext c j
  unfold up_2 mv_N
  by_cases hc : m ≤ c ∧ c < m + 6
  · rw [if_pos hc, if_pos hc]
    by_cases h1 : c = m + o ∧ j = k
    · rw [if_pos h1]
      show v = (if c - m = o ∧ j = k then v else X (c - m) j)
      rw [if_pos (by omega)]
    · rw [if_neg h1]
      show X (c - m) j = (if c - m = o ∧ j = k then v else X (c - m) j)
      rw [if_neg (by omega)]
  · rw [if_neg hc, if_neg hc, if_neg (by omega)]
theorem mv_xs {ν : Nat → Nat → Int32} {m : Nat} {X : Nat → Nat → Int32} : mv_N ν m X = mv_N ν m (va_up X 1 (X 1)) := by rw [va_id]
theorem mv_id {ν : Nat → Nat → Int32} {m : Nat} : mv_N ν m (fun o => ν (m + o)) = ν := by
  funext c
  unfold mv_N
  by_cases hc : m ≤ c ∧ c < m + 6
  · rw [if_pos hc]
    show ν (m + (c - m)) = ν c
    rw [show m + (c - m) = c by omega]
  · rw [if_neg hc]
theorem sh_Mo {sh : Nat → sh_T} {m o : Nat} (h : sh_M sh m) (ho : 1 ≤ o ∧ o ≤ 4) : sh (m + o) = .inl (0, mz_N o) := by
  rcases (show o = 1 ∨ o = 2 ∨ o = 3 ∨ o = 4 by omega) with rfl | rfl | rfl | rfl
  · exact h.2.1
  · exact h.2.2.1
  · exact h.2.2.2.1
  · exact h.2.2.2.2.1
section RULES4
variable {Γ : cx_T} {K : mt_K} {Q : Option Value → mm_T → Prop} {cs sl pc nx : Nat} {L : List (Option Value)} {st : List Value} {τ : Nat × (Nat → sh_T)} {ν : Nat → Nat → Int32} {X : Nat → Nat → Int32} {S : Nat → Int32} {m : Nat}
theorem gmx_r {o k : Nat} {i : Int32} (ho : 1 ≤ o ∧ o ≤ 4) (hd : decode K.2.1 pc = .ok (.iaload, 1) ∧ pc + 1 = nx) (hm : sh_M τ.2 m) (hi : i = nI k ∧ k < mz_N o) (kk : gg_P Γ K Q cs sl nx L (.int (X o k) :: st) (τ, mv_N ν m X)) : gg_P Γ K Q cs sl pc L (.int i :: .ref (m + o) :: st) (τ, mv_N ν m X) := by
  have hz : mz_N o < 2 ^ 31 := by
    rcases (show o = 1 ∨ o = 2 ∨ o = 3 ∨ o = 4 by omega) with rfl | rfl | rfl | rfl <;> decide
  refine gx_ialdK hd (sh_Mo hm ho) ⟨hi.1, hi.2, hz⟩ ?_
  rw [mv_at (by omega)]
  exact kk
theorem gmx_w {o k : Nat} {i v : Int32} (ho : 1 ≤ o ∧ o ≤ 4) (hd : decode K.2.1 pc = .ok (.iastore, 1) ∧ pc + 1 = nx) (hm : sh_M τ.2 m) (hi : i = nI k ∧ k < mz_N o) (kk : gg_P Γ K Q cs sl nx L st (τ, mv_N ν m (up_2 X o k v))) : gg_P Γ K Q cs sl pc L (.int v :: .int i :: .ref (m + o) :: st) (τ, mv_N ν m X) := by
  have hz : mz_N o < 2 ^ 31 := by
    rcases (show o = 1 ∨ o = 2 ∨ o = 3 ∨ o = 4 by omega) with rfl | rfl | rfl | rfl <;> decide
  refine gx_iastK hd (sh_Mo hm ho) ⟨hi.1, hi.2, hz⟩ ?_
  rw [mv_up (by omega)]
  exact kk
theorem gms_r {k : Nat} {i : Int32} (hd : decode K.2.1 pc = .ok (.iaload, 1) ∧ pc + 1 = nx) (hm : sh_M τ.2 m) (hi : i = nI k ∧ k < 80) (kk : gg_P Γ K Q cs sl nx L (.int (S k) :: st) (τ, mv_N ν m (va_up X 1 S))) : gg_P Γ K Q cs sl pc L (.int i :: .ref (m + 1) :: st) (τ, mv_N ν m (va_up X 1 S)) := by
  refine gmx_r (o := 1) (by omega) hd hm hi ?_
  rw [va_up_self]
  exact kk
theorem gms_w {k : Nat} {i v : Int32} (hd : decode K.2.1 pc = .ok (.iastore, 1) ∧ pc + 1 = nx) (hm : sh_M τ.2 m) (hi : i = nI k ∧ k < 80) (kk : gg_P Γ K Q cs sl nx L st (τ, mv_N ν m (va_up X 1 (upd S k v)))) : gg_P Γ K Q cs sl pc L (.int v :: .int i :: .ref (m + 1) :: st) (τ, mv_N ν m (va_up X 1 S)) := by
  refine gmx_w (o := 1) (by omega) hd hm hi ?_
  rw [up_va]
  exact kk
theorem gmx_g {idx k : Nat} {fl : List (Option (Option Nat))} (hd : decode K.2.1 pc = .ok (.getfield idx, 3) ∧ pc + 3 = nx) (hf : lf_P K.1.cls idx 6 k) (hs : τ.2 m = .inr (.inr (6, fl))) (hk : fl[k]? = some none) (kk : gg_P Γ K Q cs sl nx L (.int (X 0 k) :: st) (τ, mv_N ν m X)) : gg_P Γ K Q cs sl pc L (.ref m :: st) (τ, mv_N ν m X) := by
  refine gx_geti hd hf hs hk ?_
  have e := mv_at (ν := ν) (m := m) (o := 0) (X := X) (by omega)
  rw [Nat.add_zero] at e
  rw [e]
  exact kk
theorem gmx_p {idx k : Nat} {v : Int32} {fl : List (Option (Option Nat))} (hd : decode K.2.1 pc = .ok (.putfield idx, 3) ∧ pc + 3 = nx) (hf : lp_P K.1.cls idx 6 k false) (hs : τ.2 m = .inr (.inr (6, fl))) (hk : fl[k]? = some none) (kk : gg_P Γ K Q cs sl nx L st (τ, mv_N ν m (up_2 X 0 k v))) : gg_P Γ K Q cs sl pc L (.int v :: .ref m :: st) (τ, mv_N ν m X) := by
  refine gg_puti hd hf hs hk ?_
  have e := mv_up (ν := ν) (m := m) (o := 0) (k := k) (X := X) (v := v) (by omega)
  rw [Nat.add_zero] at e
  rw [e]
  exact kk
theorem gmx_b {k : Nat} {i : Int32} (hd : decode K.2.1 pc = .ok (.baload, 1) ∧ pc + 1 = nx) (hm : sh_M τ.2 m) (hi : i = nI k ∧ k < 100) (kk : gg_P Γ K Q cs sl nx L (.int (X 5 k) :: st) (τ, mv_N ν m X)) : gg_P Γ K Q cs sl pc L (.int i :: .ref (m + 5) :: st) (τ, mv_N ν m X) := by
  obtain ⟨rfl, h1⟩ := hi
  refine gx_bald hd hm.2.2.2.2.2 (vp_in_nI h1 (by omega)) ?_
  rw [nI_clamp (by omega), mv_at (by omega)]
  exact kk
theorem gmx_bw {k : Nat} {i v : Int32} (hd : decode K.2.1 pc = .ok (.bastore, 1) ∧ pc + 1 = nx) (hm : sh_M τ.2 m) (hi : i = nI k ∧ k < 100) (kk : gg_P Γ K Q cs sl nx L st (τ, mv_N ν m (up_2 X 5 k v.toInt8.toInt32))) : gg_P Γ K Q cs sl pc L (.int v :: .int i :: .ref (m + 5) :: st) (τ, mv_N ν m X) := by
  obtain ⟨rfl, h1⟩ := hi
  refine gg_bast hd hm.2.2.2.2.2 (vp_in_nI h1 (by omega)) ?_
  rw [nI_clamp (by omega), mv_up (by omega)]
  exact kk
theorem gmx_s {S' : Nat → Int32} (h : gg_P Γ K Q cs sl pc L st (τ, mv_N ν m (va_up X 1 S))) (e : va_up X 1 S = va_up X 1 S') : gg_P Γ K Q cs sl pc L st (τ, mv_N ν m (va_up X 1 S')) := by rw [← e]; exact h
end RULES4
/-- a list of the row: how many, and that there are not too many -/
def LK (S : Nat → Int32) (b N : Nat) : Prop := ls_n S b ≤ N ∧ S b = nI (ls_n S b)
theorem ix_1 {b k : Nat} : nI b + 1 + 2 * nI k = nI (b + 1 + 2 * k) := by
  rw [show (1 : Int32) = nI 1 from rfl, show (2 : Int32) = nI 2 from rfl, pk_mul, nI_add, nI_add]
theorem ix_2 {b k : Nat} : nI b + 2 + 2 * nI k = nI (b + 2 + 2 * k) := by
  rw [show (2 : Int32) = nI 2 from rfl, pk_mul, nI_add, nI_add]
def in_I (x a b : Int32) : Int32 := if x < a ∨ b < x then 0 else 1
def sz_I (x : Int32) : Int32 := if 0 ≤ x then x else -x
def dn_I (x y : Int32) : Int32 := if x < 0 then -((y - 1 - x) / y) else x / y
set_option maxRecDepth 100000 in
set_option maxHeartbeats 4000000 in
theorem sp_M_in {Γ : cx_T} {τ : Nat × (Nat → sh_T)} {ν : Nat → Nat → Int32} {x a b : Int32} : mt_P Γ mk_M_in [.int x, .int a, .int b] (τ, ν) (fun v μ' => v = some (.int (in_I x a b)) ∧ μ' = (τ, ν)) := by
  refine mt_of (L := [some (.int x), some (.int a), some (.int b)]) (by decide +kernel) (by simp [Value.category]) (Nat.le_of_ble_eq_true rfl) (lc_3_3 ()) ?_
  refine gg_ildn dc_M_in_0 rfl rfl ?_
  refine gg_ildn dc_M_in_1 rfl rfl ?_
  refine gg_iclt dc_M_in_2 (fun c_2 => ?_) (fun c_2 => ?_)
  · refine gg_iconst (v := 0) dc_M_in_14 (by decide) ?_
    exact gg_zret dc_M_in_15 rfl (by first | exact Or.inl rfl | exact Or.inr rfl | assumption) ⟨Nat.le_of_ble_eq_true rfl, Nat.le_of_ble_eq_true rfl⟩ (⟨by unfold in_I; rw [if_pos (Or.inl c_2)], rfl⟩)
  · refine gg_ildn dc_M_in_5 rfl rfl ?_
    refine gg_ildn dc_M_in_6 rfl rfl ?_
    refine gg_icgt dc_M_in_7 (fun c_7 => ?_) (fun c_7 => ?_)
    · refine gg_iconst (v := 0) dc_M_in_14 (by decide) ?_
      exact gg_zret dc_M_in_15 rfl (by first | exact Or.inl rfl | exact Or.inr rfl | assumption) ⟨Nat.le_of_ble_eq_true rfl, Nat.le_of_ble_eq_true rfl⟩ (⟨by unfold in_I; rw [if_pos (Or.inr c_7)], rfl⟩)
    · refine gg_iconst (v := 1) dc_M_in_10 (by decide) ?_
      refine gg_goto dc_M_in_11 ?_
      exact gg_zret dc_M_in_15 rfl (by first | exact Or.inl rfl | exact Or.inr rfl | assumption) ⟨Nat.le_of_ble_eq_true rfl, Nat.le_of_ble_eq_true rfl⟩ (⟨by unfold in_I; rw [if_neg (fun h => h.elim c_2 c_7)], rfl⟩)
set_option maxRecDepth 100000 in
set_option maxHeartbeats 4000000 in
theorem sp_M_size {Γ : cx_T} {τ : Nat × (Nat → sh_T)} {ν : Nat → Nat → Int32} {x : Int32} : mt_P Γ mk_M_size [.int x] (τ, ν) (fun v μ' => v = some (.int (sz_I x)) ∧ μ' = (τ, ν)) := by
  refine mt_of (L := [some (.int x)]) (by decide +kernel) (by simp [Value.category]) (Nat.le_of_ble_eq_true rfl) (lc_1_1 ()) ?_
  refine gg_ildn dc_M_size_0 rfl rfl ?_
  refine gg_ifge dc_M_size_1 (fun c_1 => ?_) (fun c_1 => ?_)
  · refine gg_ildn dc_M_size_9 rfl rfl ?_
    exact gg_iret dc_M_size_10 rfl ⟨Nat.le_of_ble_eq_true rfl, Nat.le_of_ble_eq_true rfl⟩ (⟨by unfold sz_I; rw [if_pos c_1], rfl⟩)
  · refine gg_ildn dc_M_size_4 rfl rfl ?_
    refine gg_ineg dc_M_size_5 ?_
    refine gg_goto dc_M_size_6 ?_
    exact gg_iret dc_M_size_10 rfl ⟨Nat.le_of_ble_eq_true rfl, Nat.le_of_ble_eq_true rfl⟩ (⟨by unfold sz_I; rw [if_neg c_1], rfl⟩)
set_option maxRecDepth 100000 in
set_option maxHeartbeats 4000000 in
theorem sp_M_down {Γ : cx_T} {τ : Nat × (Nat → sh_T)} {ν : Nat → Nat → Int32} {x y : Int32} (hy : ¬ y = 0) : mt_P Γ mk_M_down [.int x, .int y] (τ, ν) (fun v μ' => v = some (.int (dn_I x y)) ∧ μ' = (τ, ν)) := by
  refine mt_of (L := [some (.int x), some (.int y)]) (by decide +kernel) (by simp [Value.category]) (Nat.le_of_ble_eq_true rfl) (lc_2_2 ()) ?_
  refine gg_ildn dc_M_down_0 rfl rfl ?_
  refine gg_iflt dc_M_down_1 (fun c_1 => ?_) (fun c_1 => ?_)
  · refine gg_ildn dc_M_down_10 rfl rfl ?_
    refine gg_iconst (v := 1) dc_M_down_11 (by decide) ?_
    refine gg_isub dc_M_down_12 ?_
    refine gg_ildn dc_M_down_13 rfl rfl ?_
    refine gg_isub dc_M_down_14 ?_
    refine gg_ildn dc_M_down_15 rfl rfl ?_
    refine gg_idiv dc_M_down_16 (hy) ?_
    refine gg_ineg dc_M_down_17 ?_
    exact gg_iret dc_M_down_18 rfl ⟨Nat.le_of_ble_eq_true rfl, Nat.le_of_ble_eq_true rfl⟩ (⟨by unfold dn_I; rw [if_pos c_1], rfl⟩)
  · refine gg_ildn dc_M_down_4 rfl rfl ?_
    refine gg_ildn dc_M_down_5 rfl rfl ?_
    refine gg_idiv dc_M_down_6 (hy) ?_
    refine gg_goto dc_M_down_7 ?_
    exact gg_iret dc_M_down_18 rfl ⟨Nat.le_of_ble_eq_true rfl, Nat.le_of_ble_eq_true rfl⟩ (⟨by unfold dn_I; rw [if_neg c_1], rfl⟩)
set_option maxRecDepth 100000 in
set_option maxHeartbeats 4000000 in
theorem sp_M_placeAt {Γ : cx_T} {τ : Nat × (Nat → sh_T)} {ν : Nat → Nat → Int32} {X : Nat → Nat → Int32} {S : Nat → Int32} {m : Nat} (hm : sh_M τ.2 m) {b i9 : Int32} {b0 k0 : Nat} (hb : b = nI b0) (hi9 : i9 = nI k0) (hlt : b0 + 2 + 2 * k0 < 80) : mt_P Γ mk_M_placeAt [.ref m, .int b, .int i9] (τ, mv_N ν m (va_up X 1 S)) (fun v μ' => v = some (.int (ls_P S b0 k0)) ∧ μ' = (τ, mv_N ν m (va_up X 1 (S)))) := by
  refine mt_of (L := [some (.ref m), some (.int b), some (.int i9)]) (by decide +kernel) (by simp [Value.category]) (Nat.le_of_ble_eq_true rfl) (lc_3_3 ()) ?_
  refine gg_aldn dc_M_placeAt_0 rfl rfl ?_
  refine gg_getr dc_M_placeAt_1 lf_M_7 hm.1 rfl ?_
  refine gg_ildn dc_M_placeAt_4 rfl rfl ?_
  refine gg_iconst (v := 1) dc_M_placeAt_5 (by decide) ?_
  refine gg_iadd dc_M_placeAt_6 ?_
  refine gg_iconst (v := 2) dc_M_placeAt_7 (by decide) ?_
  refine gg_ildn dc_M_placeAt_8 rfl rfl ?_
  refine gg_imul dc_M_placeAt_9 ?_
  refine gg_iadd dc_M_placeAt_10 ?_
  refine gms_r (k := b0 + 1 + 2 * k0) dc_M_placeAt_11 hm (⟨by rw [hb, hi9]; exact ix_1, by omega⟩) ?_
  exact gg_iret dc_M_placeAt_12 rfl ⟨Nat.le_of_ble_eq_true rfl, Nat.le_of_ble_eq_true rfl⟩ (⟨rfl, rfl⟩)
set_option maxRecDepth 100000 in
set_option maxHeartbeats 4000000 in
theorem sp_M_valueAt {Γ : cx_T} {τ : Nat × (Nat → sh_T)} {ν : Nat → Nat → Int32} {X : Nat → Nat → Int32} {S : Nat → Int32} {m : Nat} (hm : sh_M τ.2 m) {b i9 : Int32} {b0 k0 : Nat} (hb : b = nI b0) (hi9 : i9 = nI k0) (hlt : b0 + 2 + 2 * k0 < 80) : mt_P Γ mk_M_valueAt [.ref m, .int b, .int i9] (τ, mv_N ν m (va_up X 1 S)) (fun v μ' => v = some (.int (ls_V S b0 k0)) ∧ μ' = (τ, mv_N ν m (va_up X 1 (S)))) := by
  refine mt_of (L := [some (.ref m), some (.int b), some (.int i9)]) (by decide +kernel) (by simp [Value.category]) (Nat.le_of_ble_eq_true rfl) (lc_3_3 ()) ?_
  refine gg_aldn dc_M_valueAt_0 rfl rfl ?_
  refine gg_getr dc_M_valueAt_1 lf_M_7 hm.1 rfl ?_
  refine gg_ildn dc_M_valueAt_4 rfl rfl ?_
  refine gg_iconst (v := 2) dc_M_valueAt_5 (by decide) ?_
  refine gg_iadd dc_M_valueAt_6 ?_
  refine gg_iconst (v := 2) dc_M_valueAt_7 (by decide) ?_
  refine gg_ildn dc_M_valueAt_8 rfl rfl ?_
  refine gg_imul dc_M_valueAt_9 ?_
  refine gg_iadd dc_M_valueAt_10 ?_
  refine gms_r (k := b0 + 2 + 2 * k0) dc_M_valueAt_11 hm (⟨by rw [hb, hi9]; exact ix_2, by omega⟩) ?_
  exact gg_iret dc_M_valueAt_12 rfl ⟨Nat.le_of_ble_eq_true rfl, Nat.le_of_ble_eq_true rfl⟩ (⟨rfl, rfl⟩)
set_option maxRecDepth 100000 in
set_option maxHeartbeats 4000000 in
theorem sp_M_upTo {Γ : cx_T} {τ : Nat × (Nat → sh_T)} {ν : Nat → Nat → Int32} {X : Nat → Nat → Int32} {S : Nat → Int32} {m : Nat} (hm : sh_M τ.2 m) {b x : Int32} {b0 N : Nat} (hb : b = nI b0) (hL : LK S b0 N) (hN : b0 + 2 + 2 * N < 80) : mt_P Γ mk_M_upTo [.ref m, .int b, .int x] (τ, mv_N ν m (va_up X 1 S)) (fun v μ' => v = some (.int (nI (ut_N (ls_P S b0) x (ls_n S b0) 0))) ∧ μ' = (τ, mv_N ν m (va_up X 1 (S)))) := by
  refine mt_of (L := [some (.ref m), some (.int b), some (.int x), none]) (by decide +kernel) (by simp [Value.category]) (Nat.le_of_ble_eq_true rfl) (lc_3_4 ()) ?_
  obtain ⟨n, hn⟩ : ∃ n, ls_n S b0 = n := ⟨_, rfl⟩
  have loop : ∀ (d i : Nat), i + d = ls_n S b0 → ut_N (ls_P S b0) x d i = ut_N (ls_P S b0) x (ls_n S b0) 0 → gg_P Γ mk_M_upTo (fun v μ' => v = some (.int (nI (ut_N (ls_P S b0) x (ls_n S b0) 0))) ∧ μ' = (τ, mv_N ν m (va_up X 1 (S)))) 0 0 2 [some (.ref m), some (.int b), some (.int x), some (.int (nI i))] [] (τ, mv_N ν m (va_up X 1 S)) := by
    intro d
    induction d with
    | zero =>
      intro i hi hu
      have hi : ls_n S b0 = i := by omega
      refine gg_ildn dc_M_upTo_2 rfl rfl ?_
      refine gg_aldn dc_M_upTo_3 rfl rfl ?_
      refine gg_getr dc_M_upTo_4 lf_M_7 hm.1 rfl ?_
      refine gg_ildn dc_M_upTo_7 rfl rfl ?_
      refine gms_r (k := b0) dc_M_upTo_8 hm (⟨hb, by omega⟩) ?_
      refine gx_top (hL.2) ?_
      refine gg_icge dc_M_upTo_9 (fun c_9 => ?_) (fun c_9 => ?_)
      · refine gg_ildn dc_M_upTo_28 rfl rfl ?_
        exact gg_iret dc_M_upTo_29 rfl ⟨Nat.le_of_ble_eq_true rfl, Nat.le_of_ble_eq_true rfl⟩ (⟨by rw [← hu]; rfl, rfl⟩)
      · exact absurd (by rw [hi]; exact Int32.le_refl _) c_9
    | succ d ih =>
      intro i hi hu
      refine gg_ildn dc_M_upTo_2 rfl rfl ?_
      refine gg_aldn dc_M_upTo_3 rfl rfl ?_
      refine gg_getr dc_M_upTo_4 lf_M_7 hm.1 rfl ?_
      refine gg_ildn dc_M_upTo_7 rfl rfl ?_
      refine gms_r (k := b0) dc_M_upTo_8 hm (⟨hb, by omega⟩) ?_
      refine gx_top (hL.2) ?_
      refine gg_icge dc_M_upTo_9 (fun c_9 => ?_) (fun c_9 => ?_)
      · exact absurd c_9 (nI_ge (by omega) (by have := hL.1; omega))
      · refine gg_aldn dc_M_upTo_12 rfl rfl ?_
        refine gg_ildn dc_M_upTo_13 rfl rfl ?_
        refine gg_ildn dc_M_upTo_14 rfl rfl ?_
        refine gg_okV (sp_M_placeAt hm hb rfl (by have := hL.1; omega)) dc_M_upTo_15 ml_M_35 ce_M_placeAt ⟨Nat.le_of_ble_eq_true rfl, Nat.le_of_ble_eq_true rfl⟩ hm.1 rfl rfl (Nat.le_of_ble_eq_true rfl) ⟨rfl, rfl⟩ ⟨Nat.le_of_ble_eq_true rfl, Nat.le_of_ble_eq_true rfl⟩ ?_
        refine gg_ildn dc_M_upTo_18 rfl rfl ?_
        refine gg_icgt dc_M_upTo_19 (fun c_19 => ?_) (fun c_19 => ?_)
        · refine gg_ildn dc_M_upTo_28 rfl rfl ?_
          exact gg_iret dc_M_upTo_29 rfl ⟨Nat.le_of_ble_eq_true rfl, Nat.le_of_ble_eq_true rfl⟩ (⟨by rw [← hu, ut_e (Int32.not_le.mpr c_19)], rfl⟩)
        · refine gg_iinc (i := 3) dc_M_upTo_22 rfl (Nat.le_of_ble_eq_true rfl) rfl ?_
          dsimp only [List.set]
          rw [show Int32.ofInt 1 = 1 from by decide]
          refine gg_goto dc_M_upTo_25 ?_
          refine gg_e (ih (i + 1) (by omega) (by rw [← hu, ut_s (Int32.not_lt.mp c_19)])) (by rw [nI_1]) rfl rfl
  refine gg_iconst (v := 0) dc_M_upTo_0 (by decide) ?_
  refine gg_istn (i := 3) dc_M_upTo_1 rfl (Nat.le_of_ble_eq_true rfl) rfl ?_
  dsimp only [List.set]
  exact loop (ls_n S b0) 0 (by omega) rfl
set_option maxRecDepth 100000 in
set_option maxHeartbeats 4000000 in
theorem sp_M_has {Γ : cx_T} {τ : Nat × (Nat → sh_T)} {ν : Nat → Nat → Int32} {X : Nat → Nat → Int32} {S : Nat → Int32} {m : Nat} (hm : sh_M τ.2 m) {b x : Int32} {b0 N : Nat} (hb : b = nI b0) (hL : LK S b0 N) (hN : b0 + 2 + 2 * N < 80) : mt_P Γ mk_M_has [.ref m, .int b, .int x] (τ, mv_N ν m (va_up X 1 S)) (fun v μ' => v = some (.int (ha_N (ut_N (ls_P S b0) x (ls_n S b0) 0) (ls_P S b0) x)) ∧ μ' = (τ, mv_N ν m (va_up X 1 (S)))) := by
  refine mt_of (L := [some (.ref m), some (.int b), some (.int x), none]) (by decide +kernel) (by simp [Value.category]) (Nat.le_of_ble_eq_true rfl) (lc_3_4 ()) ?_
  rcases hu : ut_N (ls_P S b0) x (ls_n S b0) 0 with _ | k
  · refine gg_aldn dc_M_has_0 rfl rfl ?_
    refine gg_ildn dc_M_has_1 rfl rfl ?_
    refine gg_ildn dc_M_has_2 rfl rfl ?_
    refine gg_okV (sp_M_upTo hm hb hL hN) dc_M_has_3 ml_M_39 ce_M_upTo ⟨Nat.le_of_ble_eq_true rfl, Nat.le_of_ble_eq_true rfl⟩ hm.1 rfl rfl (Nat.le_of_ble_eq_true rfl) ⟨rfl, rfl⟩ ⟨Nat.le_of_ble_eq_true rfl, Nat.le_of_ble_eq_true rfl⟩ ?_
    rw [hu]
    refine gg_istn (i := 3) dc_M_has_6 rfl (Nat.le_of_ble_eq_true rfl) rfl ?_
    dsimp only [List.set]
    refine gg_ildn dc_M_has_7 rfl rfl ?_
    refine gg_ifle dc_M_has_8 (fun c_8 => ?_) (fun c_8 => ?_)
    · refine gg_iconst (v := 0) dc_M_has_27 (by decide) ?_
      exact gg_zret dc_M_has_28 rfl (by first | exact Or.inl rfl | exact Or.inr rfl | assumption) ⟨Nat.le_of_ble_eq_true rfl, Nat.le_of_ble_eq_true rfl⟩ (⟨rfl, rfl⟩)
    · exact absurd (by decide) c_8
  · have hle := (ut_le (ls_P S b0) x (ls_n S b0) 0).2
    have hL1 := hL.1
    refine gg_aldn dc_M_has_0 rfl rfl ?_
    refine gg_ildn dc_M_has_1 rfl rfl ?_
    refine gg_ildn dc_M_has_2 rfl rfl ?_
    refine gg_okV (sp_M_upTo hm hb hL hN) dc_M_has_3 ml_M_39 ce_M_upTo ⟨Nat.le_of_ble_eq_true rfl, Nat.le_of_ble_eq_true rfl⟩ hm.1 rfl rfl (Nat.le_of_ble_eq_true rfl) ⟨rfl, rfl⟩ ⟨Nat.le_of_ble_eq_true rfl, Nat.le_of_ble_eq_true rfl⟩ ?_
    rw [hu]
    refine gg_istn (i := 3) dc_M_has_6 rfl (Nat.le_of_ble_eq_true rfl) rfl ?_
    dsimp only [List.set]
    refine gg_ildn dc_M_has_7 rfl rfl ?_
    refine gg_ifle dc_M_has_8 (fun c_8 => ?_) (fun c_8 => ?_)
    · exact absurd c_8 (nI_nle (by omega) (by omega))
    · refine gg_aldn dc_M_has_11 rfl rfl ?_
      refine gg_ildn dc_M_has_12 rfl rfl ?_
      refine gg_ildn dc_M_has_13 rfl rfl ?_
      refine gg_iconst (v := 1) dc_M_has_14 (by decide) ?_
      refine gg_isub dc_M_has_15 ?_
      refine gg_okV (sp_M_placeAt hm hb (nI_pred k) (by omega)) dc_M_has_16 ml_M_35 ce_M_placeAt ⟨Nat.le_of_ble_eq_true rfl, Nat.le_of_ble_eq_true rfl⟩ hm.1 rfl rfl (Nat.le_of_ble_eq_true rfl) ⟨rfl, rfl⟩ ⟨Nat.le_of_ble_eq_true rfl, Nat.le_of_ble_eq_true rfl⟩ ?_
      refine gg_ildn dc_M_has_19 rfl rfl ?_
      refine gg_icne dc_M_has_20 (fun c_20 => ?_) (fun c_20 => ?_)
      · refine gg_iconst (v := 0) dc_M_has_27 (by decide) ?_
        exact gg_zret dc_M_has_28 rfl (by first | exact Or.inl rfl | exact Or.inr rfl | assumption) ⟨Nat.le_of_ble_eq_true rfl, Nat.le_of_ble_eq_true rfl⟩ (⟨by rw [ha_s, if_neg c_20], rfl⟩)
      · refine gg_iconst (v := 1) dc_M_has_23 (by decide) ?_
        refine gg_goto dc_M_has_24 ?_
        exact gg_zret dc_M_has_28 rfl (by first | exact Or.inl rfl | exact Or.inr rfl | assumption) ⟨Nat.le_of_ble_eq_true rfl, Nat.le_of_ble_eq_true rfl⟩ (⟨by rw [ha_s, if_pos (by first | exact c_20 | exact Classical.not_not.mp c_20)], rfl⟩)
