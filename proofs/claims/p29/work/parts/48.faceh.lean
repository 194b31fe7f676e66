theorem nt_va {X : Nat → Nat → Int32} : va_up (nt_X X) 1 (X 1) = nt_X X := by
  have e : nt_X X 1 = X 1 := nt_o (by omega) (by omega)
  have h := va_id (ν := nt_X X) (r := 1)
  rw [e] at h
  exact h
theorem RF.eq {ν0 ν X : Nat → Nat → Int32} {f : Nat} {S T : Nat → Int32} (h : RF ν0 f (va_up X 1 S) ν) (e : ∀ j : Nat, j < 80 → T j = S j) : RF ν0 f (va_up X 1 T) ν := by
  obtain ⟨⟨h1, h2, h3, h4, h5⟩, h6⟩ := h
  exact ⟨⟨AX.eq h1 e, h2, h3, h4, h5⟩, h6⟩
theorem kb_T : ∀ j : Nat, j < 4 → ∀ q : Nat, q < 2 → (∃ z : Nat, z < 4 ∧ nI j ||| 1 <<< (nI q &&& 31) = nI z) ∧ (nI j &&& 1 <<< (nI q &&& 31) = 0 ↔ nI j >>> (nI q &&& 31) &&& 1 = 0) ∧ ∀ i : Nat, i < 2 → i ≠ q → (nI j ||| 1 <<< (nI q &&& 31)) >>> (nI i &&& 31) &&& 1 = nI j >>> (nI i &&& 31) &&& 1 := by decide +kernel
theorem RF.kp {ν0 ν ν' X : Nat → Nat → Int32} {f q : Nat} (h : RF ν0 f X ν) (hq : q < 2) (hA : AX ν' (f + 26 + 12 * q) (X 1)) (hF : ∀ c : Nat, c ≠ f → (c < f + 26 + 12 * q ∨ f + 38 + 12 * q ≤ c) → ν' c = ν c) (h3 : ν' f 3 = X 0 4 ||| 1 <<< (nI q &&& 31)) : RF ν0 f (up_2 (va_up X 3 (pa_N (X 3) (80 * q) (X 1) 80)) 0 4 (X 0 4 ||| 1 <<< (nI q &&& 31))) ν' := by
  obtain ⟨⟨h1, ⟨h2, z, hz, ez⟩, h4, ⟨k, n, hk, g1, g2, g3, g4⟩, L, hL, hT⟩, h6⟩ := h
  have hkb := kb_T z hz q hq
  rw [ez] at h3 h4 ⊢
  refine ⟨⟨h1.fr (a := 0) fun c p q => hF c (by omega) (by omega), ⟨h3, ?_⟩, fun i hi hb => ?_, ⟨k, n, hk, by rw [hF _ (by omega) (by omega)]; exact g1, by rw [hF _ (by omega) (by omega)]; exact g2, g3, fun j hj => (g4 j hj).fr (a := 0) fun c p q => hF c (by omega) (by omega)⟩, L, by rw [hF _ (by omega) (by omega)]; exact hL, by rw [hF _ (by omega) (by omega)]; exact hT⟩, fun c hc => by rw [hF c (by omega) (by omega)]; exact h6 c hc⟩
  · obtain ⟨y, hy, ey⟩ := hkb.1
    exact ⟨y, hy, ey⟩
  · by_cases e : i = q
    · subst e
      refine hA.eq fun j hj => ?_
      show pa_N (X 3) (80 * i) (X 1) 80 (80 * i + j) = X 1 j
      unfold pa_N
      rw [if_pos (by omega), show 80 * i + j - 80 * i = j by omega]
    · have hb2 : ¬ nI z >>> (nI i &&& 31) &&& 1 = 0 := fun y => hb ((hkb.2.2 i hi e).trans y)
      refine ((h4 i hi hb2).fr (a := 0) fun c p r => hF c (by omega) (by omega)).eq fun j hj => ?_
      show pa_N (X 3) (80 * q) (X 1) 80 (80 * i + j) = X 3 (80 * i + j)
      unfold pa_N
      rw [if_neg (by omega)]
theorem RF.un {ν0 ν ν' X : Nat → Nat → Int32} {f k n : Nat} {S : Nat → Int32} (h : RF ν0 f X ν) (hk : k < 6) (hn : n < 6) (g4 : ∀ j : Nat, j < n + 1 → AX ν (f + 52 + 12 * ((k + 6 - (n + 1) + j) % 6)) (fun i => X 2 (80 * j + i))) (hA : AX ν' (f + 1) S) (e1 : ν' (f + 50) 1 = nI ((k + 5) % 6)) (e2 : ν' (f + 50) 2 = nI n) (hF : ∀ c : Nat, c ≠ f + 50 → (c < f + 1 ∨ f + 13 ≤ c) → ν' c = ν c) : RF ν0 f (va_up (up_2 X 0 2 (nI n)) 1 S) ν' := by
  obtain ⟨⟨h1, h2, h3, _, L, hL, hT⟩, h6⟩ := h
  refine ⟨⟨hA, by rw [hF f (by omega) (by omega)]; exact h2, fun i hi hb => (h3 i hi hb).fr (a := 0) fun c p q => hF c (by omega) (by omega), ⟨(k + 5) % 6, n, ⟨by omega, by omega⟩, e1, e2, rfl, fun j hj => ?_⟩, L, by rw [hF _ (by omega) (by omega)]; exact hL, by rw [hF _ (by omega) (by omega)]; exact hT⟩, fun c hc => by rw [hF c (by omega) (by omega)]; exact h6 c hc⟩
  have h9 := g4 j (by omega)
  rw [show (k + 6 - (n + 1) + j) % 6 = ((k + 5) % 6 + 6 - n + j) % 6 by omega] at h9
  exact h9.fr (a := 0) fun c p q => hF c (by omega) (by omega)
set_option maxRecDepth 100000 in
set_option maxHeartbeats 4000000 in
theorem sp_F_run {Γ : cx_T} {τ : Nat × (Nat → sh_T)} {ν : Nat → Nat → Int32} {f : Nat} {X : Nat → Nat → Int32} (hf : sh_F τ.2 f) (h : RL ν f X) {c : Int32} {K : Int} {Q : Option Value → mm_T → Prop} (hI : IV (X 1) K) (hK : K ≤ 360000000) (hB : in_I c 1 8 = 0 → Q (some (.int (-1000001))) (τ, ν)) (hE : ¬ in_I c 1 8 = 0 → X 1 63 = 0 → Q (some (.int (-1000002))) (τ, ν)) (hN : ∀ c8 : Nat, c8 ≤ 8 → c = nI c8 → ¬ in_I c 1 8 = 0 → ¬ X 1 63 = 0 → ∀ ν' : Nat → Nat → Int32, RF ν f (va_up (nt_X X) 1 (rn_S c8 (X 1))) ν' → Q (some (.int (rn_S c8 (X 1) 63))) (τ, ν')) : mt_P Γ mk_F_run [.ref f, .int c] (τ, ν) (Q) := by
  refine mt_of (L := [some (.ref f), some (.int c), none]) (by decide +kernel) (by simp [Value.category]) (Nat.le_of_ble_eq_true rfl) (lc_2_3 ()) ?_
  obtain ⟨f0, hx, hy, ⟨g, hg, hgi⟩, him, hv, ht⟩ := id hf
  have hX := h.1
  have loop : ∀ (c8 : Nat), ∀ (d i : Nat) (T : Nat → Int32) (K9 : Int) (ν9 : Nat → Nat → Int32), (∀ (T : Nat → Int32) (ν9 : Nat → Nat → Int32), RF ν f (va_up (nt_X X) 1 T) ν9 → T = rn_S c8 (X 1) → Q (some (.int (T 63))) (τ, ν9)) → (i + d = c8 ∧ c8 ≤ 8) → IV T K9 → K9 + 41000 * d ≤ 400000000 → RF ν f (va_up (nt_X X) 1 T) ν9 → rn_S d T = rn_S c8 (X 1) → gg_P Γ mk_F_run Q 0 0 43 [some (.ref f), some (.int (nI c8)), some (.int (nI i))] [] (τ, ν9) := by
    intro c8 d
    induction d with
    | zero =>
      intro i T K9 ν9 hex hi hI9 hK9 h9 e9
      have hX : AX ν9 (f + 1) T := h9.ax
      have hF : fr_P ν9 ν9 (f + 1) := fr_rf
      have hi := (show i = c8 by omega)
      have e9 : T = rn_S c8 (X 1) := e9
      refine gg_ildn dc_F_run_43 rfl rfl ?_
      refine gg_ildn dc_F_run_44 rfl rfl ?_
      refine gg_icge dc_F_run_45 (fun c_45 => ?_) (fun c_45 => ?_)
      · refine gg_aldn dc_F_run_74 rfl rfl ?_
        refine gg_getr dc_F_run_75 lf_F_10 f0 rfl ?_
        refine gg_getr dc_F_run_78 lf_F_107 hx.1 rfl ?_
        refine gx_geti dc_F_run_81 lf_F_120 hx.2.2.2.2.2.1 rfl ?_
        refine gx_top (hX.2.2.2.2.2.2.c) ?_
        exact gg_iret dc_F_run_84 rfl ⟨Nat.le_of_ble_eq_true rfl, Nat.le_of_ble_eq_true rfl⟩ ((hex _ _ h9 e9))
      · exact absurd (by rw [hi]; exact Int32.le_refl _) c_45
    | succ d ih =>
      intro i T K9 ν9 hex hi hI9 hK9 h9 e9
      have hX : AX ν9 (f + 1) T := h9.ax
      have hF : fr_P ν9 ν9 (f + 1) := fr_rf
      have hC9 := hX.2.2.2.2.2.2.n (by omega)
      refine gg_ildn dc_F_run_43 rfl rfl ?_
      refine gg_ildn dc_F_run_44 rfl rfl ?_
      refine gg_icge dc_F_run_45 (fun c_45 => ?_) (fun c_45 => ?_)
      · exact absurd c_45 (nI_ge (by omega) (by omega))
      · refine gg_aldn dc_F_run_48 rfl rfl ?_
        refine gg_getr dc_F_run_49 lf_F_10 f0 rfl ?_
        refine gg_getr dc_F_run_52 lf_F_107 hx.1 rfl ?_
        refine gx_geti dc_F_run_55 lf_F_120 hx.2.2.2.2.2.1 rfl ?_
        refine gx_top (hX.2.2.2.2.2.2.c) ?_
        refine gg_ifle dc_F_run_58 (fun c_58 => ?_) (fun c_58 => ?_)
        · have e0 : ls_n T 63 = 0 := by
            rcases Nat.eq_zero_or_pos (ls_n T 63) with z | z
            · exact z
            · rw [hC9.2.2.1] at c_58
              exact absurd c_58 (nI_nle z (by omega))
          have e9 : T = rn_S c8 (X 1) := by rw [← e9]; exact (if_pos e0).symm
          refine gg_aldn dc_F_run_74 rfl rfl ?_
          refine gg_getr dc_F_run_75 lf_F_10 f0 rfl ?_
          refine gg_getr dc_F_run_78 lf_F_107 hx.1 rfl ?_
          refine gx_geti dc_F_run_81 lf_F_120 hx.2.2.2.2.2.1 rfl ?_
          refine gx_top (hX.2.2.2.2.2.2.c) ?_
          exact gg_iret dc_F_run_84 rfl ⟨Nat.le_of_ble_eq_true rfl, Nat.le_of_ble_eq_true rfl⟩ ((hex _ _ h9 e9))
        · have hn0 : 0 < ls_n T 63 := by
            rcases Nat.eq_zero_or_pos (ls_n T 63) with z | z
            · exact absurd (by rw [hC9.2.2.1, z]; exact Int32.le_refl _) c_58
            · exact z
          refine gg_aldn dc_F_run_61 rfl rfl ?_
          refine gg_getr dc_F_run_62 lf_F_10 f0 rfl ?_
          refine gx_callA (sp_A_carryM hx hX hI9 (by omega) hn0) hF dc_F_run_65 ml_F_123 ce_A_carryOutNext ⟨Nat.le_of_ble_eq_true rfl, Nat.le_of_ble_eq_true rfl⟩ hx.1 rfl rfl (Nat.le_of_ble_eq_true rfl) ⟨rfl, rfl⟩ ⟨Nat.le_of_ble_eq_true rfl, Nat.le_of_ble_eq_true rfl⟩ (fun ν hX hF => ?_)
          dsimp only [Option.toList, List.cons_append, List.nil_append]
          refine gg_iinc (i := 2) dc_F_run_68 rfl (Nat.le_of_ble_eq_true rfl) rfl ?_
          dsimp only [List.set]
          rw [show Int32.ofInt 1 = 1 from by decide]
          refine gg_goto dc_F_run_71 ?_
          rw [show nI i + 1 = nI (i + 1) from nI_1 i]
          refine ih (i + 1) (ro_S T) (K9 + 41000) _ hex (by omega) (hI9.ro (by omega) hn0).1 (by omega) ?_ (by rw [← e9]; exact (if_neg (by omega)).symm)
          have h8 := h9.row hX hF
          rw [va_vv] at h8
          exact h8
  refine gg_ildn dc_F_run_0 rfl rfl ?_
  refine gg_iconst (v := 1) dc_F_run_1 (by decide) ?_
  refine gg_iclt dc_F_run_2 (fun c_2 => ?_) (fun c_2 => ?_)
  · refine gg_ldc dc_F_run_11 lk_F_45 ?_
    exact gg_iret dc_F_run_13 rfl ⟨Nat.le_of_ble_eq_true rfl, Nat.le_of_ble_eq_true rfl⟩ (hB (in_lo c_2))
  · refine gg_ildn dc_F_run_5 rfl rfl ?_
    refine gg_bipush (v := 8) dc_F_run_6 (by decide) ?_
    refine gg_icle dc_F_run_8 (fun c_8 => ?_) (fun c_8 => ?_)
    · refine gg_aldn dc_F_run_14 rfl rfl ?_
      refine gg_getr dc_F_run_15 lf_F_10 f0 rfl ?_
      refine gg_getr dc_F_run_18 lf_F_107 hx.1 rfl ?_
      refine gx_geti dc_F_run_21 lf_F_120 hx.2.2.2.2.2.1 rfl ?_
      refine gx_top (hX.2.2.2.2.2.2.c) ?_
      refine gg_ifne dc_F_run_24 (fun c_24 => ?_) (fun c_24 => ?_)
      · refine gg_aldn dc_F_run_30 rfl rfl ?_
        refine gg_getr dc_F_run_31 lf_F_30 f0 rfl ?_
        refine gg_aldn dc_F_run_34 rfl rfl ?_
        refine gg_getr dc_F_run_35 lf_F_10 f0 rfl ?_
        refine gg_callV (sp_F_push hf (RF.id h)) dc_F_run_38 ml_F_50 ce_S_push ⟨Nat.le_of_ble_eq_true rfl, Nat.le_of_ble_eq_true rfl⟩ hv.1 rfl rfl (Nat.le_of_ble_eq_true rfl) ⟨Nat.le_of_ble_eq_true rfl, Nat.le_of_ble_eq_true rfl⟩ ?_
        rintro v μ9 ⟨ν2, rfl, rfl, h2, hk2⟩
        dsimp only [Option.toList, List.cons_append, List.nil_append]
        have hX : AX ν2 (f + 1) (X 1) := by
          have := h2.ax
          rw [nt_o (by omega) (by omega)] at this
          exact this
        have h2v : RF ν f (va_up (nt_X X) 1 (X 1)) ν2 := by rw [nt_va]; exact h2
        obtain ⟨c8, hc8, rfl⟩ := nI_of2 (x := c) (M := 8) (n := 8) rfl (fun z => c_2 (by rw [ti_lt] at z ⊢; have z : c.toInt < 0 := z; show _ < (1 : Int); omega)) c_8
        refine gg_iconst (v := 0) dc_F_run_41 (by decide) ?_
        refine gg_istn (i := 2) dc_F_run_42 rfl (Nat.le_of_ble_eq_true rfl) rfl ?_
        dsimp only [List.set]
        refine gg_c (loop c8 c8 0 (X 1) K ν2 ?_ (by omega) hI (by omega) h2v rfl) rfl rfl
        exact fun T ν9 h9 e9 => by
          have z := hN c8 hc8 rfl (in_no c_2 (Int32.not_lt.mpr c_8)) c_24 ν9 (by rw [← e9]; exact h9)
          rw [← e9] at z
          exact z
      · refine gg_ldc dc_F_run_27 lk_F_100 ?_
        exact gg_iret dc_F_run_29 rfl ⟨Nat.le_of_ble_eq_true rfl, Nat.le_of_ble_eq_true rfl⟩ ((hE (in_no c_2 (Int32.not_lt.mpr c_8)) c_24))
    · refine gg_ldc dc_F_run_11 lk_F_45 ?_
      exact gg_iret dc_F_run_13 rfl ⟨Nat.le_of_ble_eq_true rfl, Nat.le_of_ble_eq_true rfl⟩ ((hB (in_hi (Int32.not_le.mp c_8))))
theorem is_2 {w : Int32} (h0 : ¬ w = 0) (h1 : ¬ w = 1) : in_I w 0 1 = 0 := by
  have o1 : (1 : Int32).toInt = 1 := rfl
  rw [ti_eq, t0] at h0
  rw [ti_eq, o1] at h1
  by_cases c : w < 0
  · exact in_lo c
  · refine in_hi ?_
    rw [ti_lt, t0] at c
    rw [ti_lt, o1]
    omega
theorem iz_0 {p : Prop} {d : Decidable p} (h : (if p then (0 : Int32) else 1) = 0) : p := Classical.not_not.mp fun q => by rw [if_neg q] at h; exact absurd h (by decide)
theorem iz_1 {p : Prop} {d : Decidable p} (h : ¬ (if p then (0 : Int32) else 1) = 0) : ¬ p := fun q => h (if_pos q)
set_option maxRecDepth 100000 in
set_option maxHeartbeats 4000000 in
theorem sp_F_isSide {Γ : cx_T} {τ : Nat × (Nat → sh_T)} {ν : Nat → Nat → Int32} {w : Int32} : mt_P Γ mk_F_isSide [.int w] (τ, ν) (fun v μ' => v = some (.int (if in_I w 0 1 = 0 then 0 else 1)) ∧ μ' = (τ, ν)) := by
  refine mt_of (L := [some (.int w)]) (by decide +kernel) (by simp [Value.category]) (Nat.le_of_ble_eq_true rfl) (lc_1_1 ()) ?_
  refine gg_ildn dc_F_isSide_0 rfl rfl ?_
  refine gg_ifeq dc_F_isSide_1 (fun c_1 => ?_) (fun c_1 => ?_)
  · refine gg_iconst (v := 1) dc_F_isSide_9 (by decide) ?_
    refine gg_goto dc_F_isSide_10 ?_
    exact gg_zret dc_F_isSide_14 rfl (by first | exact Or.inl rfl | exact Or.inr rfl | assumption) ⟨Nat.le_of_ble_eq_true rfl, Nat.le_of_ble_eq_true rfl⟩ (⟨by rw [if_neg (by rw [c_1]; decide)], rfl⟩)
  · refine gg_ildn dc_F_isSide_4 rfl rfl ?_
    refine gg_iconst (v := 1) dc_F_isSide_5 (by decide) ?_
    refine gg_icne dc_F_isSide_6 (fun c_6 => ?_) (fun c_6 => ?_)
    · refine gg_iconst (v := 0) dc_F_isSide_13 (by decide) ?_
      exact gg_zret dc_F_isSide_14 rfl (by first | exact Or.inl rfl | exact Or.inr rfl | assumption) ⟨Nat.le_of_ble_eq_true rfl, Nat.le_of_ble_eq_true rfl⟩ (⟨by rw [if_pos (is_2 c_1 c_6)], rfl⟩)
    · refine gg_iconst (v := 1) dc_F_isSide_9 (by decide) ?_
      refine gg_goto dc_F_isSide_10 ?_
      exact gg_zret dc_F_isSide_14 rfl (by first | exact Or.inl rfl | exact Or.inr rfl | assumption) ⟨Nat.le_of_ble_eq_true rfl, Nat.le_of_ble_eq_true rfl⟩ (⟨by rw [if_neg (by rw [show w = 1 by first | exact c_6 | exact Classical.not_not.mp c_6]; decide)], rfl⟩)
set_option maxRecDepth 100000 in
set_option maxHeartbeats 4000000 in
theorem sp_F_home {Γ : cx_T} {τ : Nat × (Nat → sh_T)} {ν : Nat → Nat → Int32} {f : Nat} {X : Nat → Nat → Int32} (hf : sh_F τ.2 f) (h : RL ν f X) {w : Int32} {Q : Option Value → mm_T → Prop}  (hB : in_I w 0 1 = 0 → Q (some (.int (-1000001))) (τ, ν)) (hI : ¬ in_I w 0 1 = 0 → X 1 18 = 0 → Q (some (.int (-1000002))) (τ, ν)) (hE : ¬ in_I w 0 1 = 0 → ¬ X 1 18 = 0 → (sk_S (X 1) w).2 = 0 → ∀ ν' : Nat → Nat → Int32, RF ν f X ν' → Q (some (.int (-1000009))) (τ, ν')) (hN : ¬ in_I w 0 1 = 0 → ¬ X 1 18 = 0 → ¬ (sk_S (X 1) w).2 = 0 → ∀ ν' : Nat → Nat → Int32, RF ν f (va_up (nt_X X) 1 (upd (upd (sk_S (X 1) w).1 6 ((sk_S (X 1) w).1 6 + ((if w = 0 then (sk_S (X 1) w).1 19 + (sk_S (X 1) w).1 5 else (sk_S (X 1) w).1 20) - (sk_S (X 1) w).1 6))) 11 ((sk_S (X 1) w).1 11 + ((if w = 0 then (sk_S (X 1) w).1 19 + (sk_S (X 1) w).1 5 else (sk_S (X 1) w).1 20) - (sk_S (X 1) w).1 6)))) ν' → Q (some (.int (((if w = 0 then (sk_S (X 1) w).1 19 + (sk_S (X 1) w).1 5 else (sk_S (X 1) w).1 20) - (sk_S (X 1) w).1 6)))) (τ, ν')) : mt_P Γ mk_F_home [.ref f, .int w] (τ, ν) (Q) := by
  refine mt_of (L := [some (.ref f), some (.int w), none]) (by decide +kernel) (by simp [Value.category]) (Nat.le_of_ble_eq_true rfl) (lc_2_3 ()) ?_
  obtain ⟨f0, hx, hy, ⟨g, hg, hgi⟩, him, hv, ht⟩ := id hf
  have hX := h.1
  refine gg_ildn dc_F_home_0 rfl rfl ?_
  refine gg_okS (sp_F_isSide) dc_F_home_1 ml_F_126 ce_F_isSide ⟨Nat.le_of_ble_eq_true rfl, Nat.le_of_ble_eq_true rfl⟩ rfl (Nat.le_of_ble_eq_true rfl) ⟨rfl, rfl⟩ ⟨Nat.le_of_ble_eq_true rfl, Nat.le_of_ble_eq_true rfl⟩ ?_
  refine gg_ifne dc_F_home_4 (fun c_4 => ?_) (fun c_4 => ?_)
  · refine gg_aldn dc_F_home_10 rfl rfl ?_
    refine gg_getr dc_F_home_11 lf_F_10 f0 rfl ?_
    refine gx_axi (k := 5) (s := 18) dc_F_home_14 lf_F_73 hx.1 hX rfl ⟨Nat.le_of_ble_eq_true rfl, Nat.le_of_ble_eq_true rfl⟩ rfl ?_
    refine gg_ifne dc_F_home_17 (fun c_17 => ?_) (fun c_17 => ?_)
    · refine gg_aldn dc_F_home_23 rfl rfl ?_
      refine gg_getr dc_F_home_24 lf_F_16 f0 rfl ?_
      refine gg_aldn dc_F_home_27 rfl rfl ?_
      refine gg_getr dc_F_home_28 lf_F_10 f0 rfl ?_
      refine gg_callV (sp_A_copyFrom hy hx hX (by omega)) dc_F_home_31 ml_F_87 ce_A_copyFrom ⟨Nat.le_of_ble_eq_true rfl, Nat.le_of_ble_eq_true rfl⟩ hy.1 rfl rfl (Nat.le_of_ble_eq_true rfl) ⟨Nat.le_of_ble_eq_true rfl, Nat.le_of_ble_eq_true rfl⟩ ?_
      rintro v μ9 ⟨ν2, rfl, rfl, hY2, hF2⟩
      dsimp only [Option.toList, List.cons_append, List.nil_append]
      have h2 := (RF.id h).tr hF2
      refine gg_aldn dc_F_home_34 rfl rfl ?_
      refine gg_getr dc_F_home_35 lf_F_16 f0 rfl ?_
      refine gg_ildn dc_F_home_38 rfl rfl ?_
      refine gg_callV (sp_A_seek hy hY2) dc_F_home_39 ml_F_129 ce_A_seek ⟨Nat.le_of_ble_eq_true rfl, Nat.le_of_ble_eq_true rfl⟩ hy.1 rfl rfl (Nat.le_of_ble_eq_true rfl) ⟨Nat.le_of_ble_eq_true rfl, Nat.le_of_ble_eq_true rfl⟩ ?_
      rintro v μ9 ⟨ν3, rfl, rfl, hY3, hF3⟩
      dsimp only [Option.toList, List.cons_append, List.nil_append]
      have h3 := h2.tr hF3
      have hY := hY3
      refine gg_ifne dc_F_home_42 (fun c_42 => ?_) (fun c_42 => ?_)
      · refine gg_aldn dc_F_home_48 rfl rfl ?_
        refine gg_getr dc_F_home_49 lf_F_16 f0 rfl ?_
        refine gg_ildn dc_F_home_52 rfl rfl ?_
        refine gg_okV (sp_A_counterDue hy hY) dc_F_home_53 ml_F_133 ce_A_counterDue ⟨Nat.le_of_ble_eq_true rfl, Nat.le_of_ble_eq_true rfl⟩ hy.1 rfl rfl (Nat.le_of_ble_eq_true rfl) ⟨rfl, rfl⟩ ⟨Nat.le_of_ble_eq_true rfl, Nat.le_of_ble_eq_true rfl⟩ ?_
        refine gg_aldn dc_F_home_56 rfl rfl ?_
        refine gg_getr dc_F_home_57 lf_F_16 f0 rfl ?_
        refine gx_axi (k := 8) (s := 6) dc_F_home_60 lf_F_136 hy.1 hY rfl ⟨Nat.le_of_ble_eq_true rfl, Nat.le_of_ble_eq_true rfl⟩ rfl ?_
        refine gg_isub dc_F_home_63 ?_
        refine gg_istn (i := 2) dc_F_home_64 rfl (Nat.le_of_ble_eq_true rfl) rfl ?_
        dsimp only [List.set]
        refine gg_aldn dc_F_home_65 rfl rfl ?_
        refine gg_getr dc_F_home_66 lf_F_16 f0 rfl ?_
        refine gg_ildn dc_F_home_69 rfl rfl ?_
        refine gg_callV (sp_A_moveCounterAlone hy hY3) dc_F_home_70 ml_F_139 ce_A_moveCounterAlone ⟨Nat.le_of_ble_eq_true rfl, Nat.le_of_ble_eq_true rfl⟩ hy.1 rfl rfl (Nat.le_of_ble_eq_true rfl) ⟨Nat.le_of_ble_eq_true rfl, Nat.le_of_ble_eq_true rfl⟩ ?_
        rintro v μ9 ⟨ν4, rfl, rfl, hY4, hF4⟩
        dsimp only [Option.toList, List.cons_append, List.nil_append]
        have h4 := h3.tr hF4
        refine gg_aldn dc_F_home_73 rfl rfl ?_
        refine gg_callV (sp_F_adoptTrial hf h4 hY4) dc_F_home_74 ml_F_94 ce_F_adoptTrial ⟨Nat.le_of_ble_eq_true rfl, Nat.le_of_ble_eq_true rfl⟩ f0 rfl rfl (Nat.le_of_ble_eq_true rfl) ⟨Nat.le_of_ble_eq_true rfl, Nat.le_of_ble_eq_true rfl⟩ ?_
        rintro v μ9 ⟨ν5, rfl, rfl, h5⟩
        dsimp only [Option.toList, List.cons_append, List.nil_append]
        refine gg_ildn dc_F_home_77 rfl rfl ?_
        exact gg_iret dc_F_home_78 rfl ⟨Nat.le_of_ble_eq_true rfl, Nat.le_of_ble_eq_true rfl⟩ ((hN (iz_1 c_4) c_17 c_42 ν5 h5))
      · refine gg_ldc dc_F_home_45 lk_F_132 ?_
        exact gg_iret dc_F_home_47 rfl ⟨Nat.le_of_ble_eq_true rfl, Nat.le_of_ble_eq_true rfl⟩ ((hE (iz_1 c_4) c_17 (by first | exact c_42 | exact Classical.not_not.mp c_42) ν3 h3))
    · refine gg_ldc dc_F_home_20 lk_F_100 ?_
      exact gg_iret dc_F_home_22 rfl ⟨Nat.le_of_ble_eq_true rfl, Nat.le_of_ble_eq_true rfl⟩ ((hI (iz_1 c_4) (by first | exact c_17 | exact Classical.not_not.mp c_17)))
  · refine gg_ldc dc_F_home_7 lk_F_45 ?_
    exact gg_iret dc_F_home_9 rfl ⟨Nat.le_of_ble_eq_true rfl, Nat.le_of_ble_eq_true rfl⟩ ((hB (iz_0 (by first | exact c_4 | exact Classical.not_not.mp c_4))))
set_option maxRecDepth 100000 in
set_option maxHeartbeats 4000000 in
theorem sp_F_check {Γ : cx_T} {τ : Nat × (Nat → sh_T)} {ν : Nat → Nat → Int32} {f : Nat} {X : Nat → Nat → Int32} (hf : sh_F τ.2 f) (h : RL ν f X) {w : Int32} {Q : Option Value → mm_T → Prop}  (hB : in_I w 0 1 = 0 → Q (some (.int (-1000001))) (τ, ν)) (hI : ¬ in_I w 0 1 = 0 → X 1 18 = 0 → Q (some (.int (-1000002))) (τ, ν)) (hE : ¬ in_I w 0 1 = 0 → ¬ X 1 18 = 0 → (sk_S (X 1) w).2 = 0 → ∀ ν' : Nat → Nat → Int32, RF ν f X ν' → Q (some (.int (-1000009))) (τ, ν')) (hN : ¬ in_I w 0 1 = 0 → ¬ X 1 18 = 0 → ¬ (sk_S (X 1) w).2 = 0 → ∀ ν' : Nat → Nat → Int32, RF ν f (va_up (nt_X X) 1 ((sk_S (X 1) w).1)) ν' → Q (some (.int ((sk_S (X 1) w).1 6 - (if w = 0 then (sk_S (X 1) w).1 19 + (sk_S (X 1) w).1 5 else (sk_S (X 1) w).1 20)))) (τ, ν')) : mt_P Γ mk_F_check [.ref f, .int w] (τ, ν) (Q) := by
  refine mt_of (L := [some (.ref f), some (.int w)]) (by decide +kernel) (by simp [Value.category]) (Nat.le_of_ble_eq_true rfl) (lc_2_2 ()) ?_
  obtain ⟨f0, hx, hy, ⟨g, hg, hgi⟩, him, hv, ht⟩ := id hf
  have hX := h.1
  refine gg_ildn dc_F_check_0 rfl rfl ?_
  refine gg_okS (sp_F_isSide) dc_F_check_1 ml_F_126 ce_F_isSide ⟨Nat.le_of_ble_eq_true rfl, Nat.le_of_ble_eq_true rfl⟩ rfl (Nat.le_of_ble_eq_true rfl) ⟨rfl, rfl⟩ ⟨Nat.le_of_ble_eq_true rfl, Nat.le_of_ble_eq_true rfl⟩ ?_
  refine gg_ifne dc_F_check_4 (fun c_4 => ?_) (fun c_4 => ?_)
  · refine gg_aldn dc_F_check_10 rfl rfl ?_
    refine gg_getr dc_F_check_11 lf_F_10 f0 rfl ?_
    refine gx_axi (k := 5) (s := 18) dc_F_check_14 lf_F_73 hx.1 hX rfl ⟨Nat.le_of_ble_eq_true rfl, Nat.le_of_ble_eq_true rfl⟩ rfl ?_
    refine gg_ifne dc_F_check_17 (fun c_17 => ?_) (fun c_17 => ?_)
    · refine gg_aldn dc_F_check_23 rfl rfl ?_
      refine gg_getr dc_F_check_24 lf_F_16 f0 rfl ?_
      refine gg_aldn dc_F_check_27 rfl rfl ?_
      refine gg_getr dc_F_check_28 lf_F_10 f0 rfl ?_
      refine gg_callV (sp_A_copyFrom hy hx hX (by omega)) dc_F_check_31 ml_F_87 ce_A_copyFrom ⟨Nat.le_of_ble_eq_true rfl, Nat.le_of_ble_eq_true rfl⟩ hy.1 rfl rfl (Nat.le_of_ble_eq_true rfl) ⟨Nat.le_of_ble_eq_true rfl, Nat.le_of_ble_eq_true rfl⟩ ?_
      rintro v μ9 ⟨ν2, rfl, rfl, hY2, hF2⟩
      dsimp only [Option.toList, List.cons_append, List.nil_append]
      have h2 := (RF.id h).tr hF2
      refine gg_aldn dc_F_check_34 rfl rfl ?_
      refine gg_getr dc_F_check_35 lf_F_16 f0 rfl ?_
      refine gg_ildn dc_F_check_38 rfl rfl ?_
      refine gg_callV (sp_A_seek hy hY2) dc_F_check_39 ml_F_129 ce_A_seek ⟨Nat.le_of_ble_eq_true rfl, Nat.le_of_ble_eq_true rfl⟩ hy.1 rfl rfl (Nat.le_of_ble_eq_true rfl) ⟨Nat.le_of_ble_eq_true rfl, Nat.le_of_ble_eq_true rfl⟩ ?_
      rintro v μ9 ⟨ν3, rfl, rfl, hY3, hF3⟩
      dsimp only [Option.toList, List.cons_append, List.nil_append]
      have h3 := h2.tr hF3
      have hY := hY3
      refine gg_ifne dc_F_check_42 (fun c_42 => ?_) (fun c_42 => ?_)
      · refine gg_aldn dc_F_check_48 rfl rfl ?_
        refine gg_callV (sp_F_adoptTrial hf h3 hY3) dc_F_check_49 ml_F_94 ce_F_adoptTrial ⟨Nat.le_of_ble_eq_true rfl, Nat.le_of_ble_eq_true rfl⟩ f0 rfl rfl (Nat.le_of_ble_eq_true rfl) ⟨Nat.le_of_ble_eq_true rfl, Nat.le_of_ble_eq_true rfl⟩ ?_
        rintro v μ9 ⟨ν4, rfl, rfl, h4⟩
        dsimp only [Option.toList, List.cons_append, List.nil_append]
        have hX : AX ν4 (f + 1) (sk_S (X 1) w).1 := h4.ax
        refine gg_aldn dc_F_check_52 rfl rfl ?_
        refine gg_getr dc_F_check_53 lf_F_10 f0 rfl ?_
        refine gx_axi (k := 8) (s := 6) dc_F_check_56 lf_F_136 hx.1 hX rfl ⟨Nat.le_of_ble_eq_true rfl, Nat.le_of_ble_eq_true rfl⟩ rfl ?_
        refine gg_aldn dc_F_check_59 rfl rfl ?_
        refine gg_getr dc_F_check_60 lf_F_10 f0 rfl ?_
        refine gg_ildn dc_F_check_63 rfl rfl ?_
        refine gg_okV (sp_A_counterDue hx hX) dc_F_check_64 ml_F_133 ce_A_counterDue ⟨Nat.le_of_ble_eq_true rfl, Nat.le_of_ble_eq_true rfl⟩ hx.1 rfl rfl (Nat.le_of_ble_eq_true rfl) ⟨rfl, rfl⟩ ⟨Nat.le_of_ble_eq_true rfl, Nat.le_of_ble_eq_true rfl⟩ ?_
        refine gg_isub dc_F_check_67 ?_
        exact gg_iret dc_F_check_68 rfl ⟨Nat.le_of_ble_eq_true rfl, Nat.le_of_ble_eq_true rfl⟩ ((hN (iz_1 c_4) c_17 c_42 ν4 h4))
      · refine gg_ldc dc_F_check_45 lk_F_132 ?_
        exact gg_iret dc_F_check_47 rfl ⟨Nat.le_of_ble_eq_true rfl, Nat.le_of_ble_eq_true rfl⟩ ((hE (iz_1 c_4) c_17 (by first | exact c_42 | exact Classical.not_not.mp c_42) ν3 h3))
    · refine gg_ldc dc_F_check_20 lk_F_100 ?_
      exact gg_iret dc_F_check_22 rfl ⟨Nat.le_of_ble_eq_true rfl, Nat.le_of_ble_eq_true rfl⟩ ((hI (iz_1 c_4) (by first | exact c_17 | exact Classical.not_not.mp c_17)))
  · refine gg_ldc dc_F_check_7 lk_F_45 ?_
    exact gg_iret dc_F_check_9 rfl ⟨Nat.le_of_ble_eq_true rfl, Nat.le_of_ble_eq_true rfl⟩ ((hB (iz_0 (by first | exact c_4 | exact Classical.not_not.mp c_4))))
