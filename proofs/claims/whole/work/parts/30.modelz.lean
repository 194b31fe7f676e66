/-! the reference reads a whole text -/
theorem mp_o {S : Nat → Int32} {b j : Nat} {x v : Int32} (hr : ¬ ha_S S b x = 0 ∨ ls_n S b < 10) (hn : ls_n S b ≤ 10) (hj : j < b ∨ b + 20 < j) : mp_S S b x v j = S j := by
  have hle : ut_S S b x ≤ ls_n S b := by
    have := (ut_le (ls_P S b) x (ls_n S b) 0).2
    unfold ut_S
    omega
  unfold mp_S
  by_cases c : ha_S S b x = 0
  · have h1 := hr.resolve_left (fun q => q c)
    rw [if_pos c, ud_ne (by omega), ud_ne (by omega), ud_ne (by omega)]
    unfold sf_S; rw [if_neg (by omega)]
  · rw [if_neg c]
    obtain ⟨k, hk, _⟩ := ha_1 c
    rw [ud_ne (by omega), ud_ne (by omega)]
theorem mp_b {S : Nat → Int32} {b : Nat} {x v : Int32} (hr : ¬ ha_S S b x = 0 ∨ ls_n S b < 10) (hL : LK S b 10) : LK (mp_S S b x v) b 10 := by
  have hn := hL.1
  by_cases c : ha_S S b x = 0
  · have h1 := hr.resolve_left (fun q => q c)
    have e : mp_S S b x v b = nI (ls_n S b + 1) := by unfold mp_S; rw [if_pos c, ud_ne (by omega), ud_ne (by omega), ud_eq]
    have e2 : ls_n (mp_S S b x v) b = ls_n S b + 1 := by
      show (mp_S S b x v b).toNatClampNeg = _
      rw [e, nI_clamp (by omega)]
    exact ⟨by omega, by rw [e2]; exact e⟩
  · exact hL.of (by unfold mp_S; rw [if_neg c, ud_ne (by omega), ud_ne (by omega)])
/-- an item that goes well: its kind, and room for it -/
theorem it_k {c : Nat → Int32} {L o : Nat} {S : Nat → Int32} (ho : o ≤ 100) (h : (it_F c L S o).1.2 = -1) : nx_I c L o = 102 ∨ ((nx_I c L o = 108 ∨ nx_I c L o = 99) ∧ ¬ hr_I S (kb_N (nx_I c L o)) (i1_F c L o).1 = 0) := by
  by_cases hk : nx_I c L o = 108 ∨ nx_I c L o = 99 ∨ nx_I c L o = 102
  · by_cases h4 : (i4_F c L (nx_I c L o) o).2 = -1
    · rw [it_b hk h4] at h
      dsimp only at h
      by_cases h2 : nx_I c L o = 102
      · exact Or.inl h2
      · right
        refine ⟨hk.elim Or.inl fun q => q.elim Or.inr fun q => absurd q h2, fun q => ?_⟩
        rw [si_e h2 q] at h
        exact nI_m1 (by omega) h
    · rw [it_a hk h4] at h
      exact absurd h h4
  · rw [it_c hk] at h
    exact absurd h (nI_m1 (by omega))
theorem im_k {c : Nat → Int32} {L o : Nat} {S : Nat → Int32} (ho : o ≤ 100) (h1 : LK S 21 10) (h2 : LK S 42 10) (h : (it_F c L S o).1.2 = -1) : LK (im_S c L S o) 21 10 ∧ LK (im_S c L S o) 42 10 ∧ ∀ j : Nat, 63 ≤ j → im_S c L S o j = S j := by
  unfold im_S sm_S
  rcases it_k ho h with hk | ⟨hk, hr⟩
  · rw [if_pos hk]
    exact ⟨h1.of (by rw [ud_ne (by omega), ud_ne (by omega), ud_ne (by omega)]), h2.of (by rw [ud_ne (by omega), ud_ne (by omega), ud_ne (by omega)]), fun j hj => by rw [ud_ne (by omega), ud_ne (by omega), ud_ne (by omega)]⟩
  · rw [if_neg (fun q => by rw [q] at hk; exact hk.elim (fun z => absurd z (by decide)) (fun z => absurd z (by decide)))]
    have hr := hr_o hr
    by_cases hb : nx_I c L o = 108
    · rw [show kb_N (nx_I c L o) = 21 from if_pos hb] at hr ⊢
      exact ⟨mp_b hr h1, h2.of (mp_o hr h1.1 (by omega)), fun j hj => mp_o hr h1.1 (by omega)⟩
    · rw [show kb_N (nx_I c L o) = 42 from if_neg hb] at hr ⊢
      exact ⟨h1.of (mp_o hr h2.1 (by omega)), mp_b hr h2, fun j hj => mp_o hr h2.1 (by omega)⟩
def rm_F (c : Nat → Int32) (L : Nat) : Nat → Nat → Nat × Int32 → (Nat → Int32) → Nat × (Nat × Int32) × (Nat → Int32)
  | 0, i, p, S => (i, p, S)
  | f + 1, i, p, S => if p.1 < L ∧ p.2 = -1 then rm_F c L f (i + 1) (so c L (it_F c L S p.1).1.1, (it_F c L S p.1).1.2) (im_S c L S p.1) else (i, p, S)
theorem rm_x {c : Nat → Int32} {L i : Nat} {p : Nat × Int32} {S : Nat → Int32} : ∀ f : Nat, ¬ (p.1 < L ∧ p.2 = -1) → rm_F c L f i p S = (i, p, S)
  | 0, _ => rfl
  | _ + 1, h => if_neg h
/-- the same reference: what is put aside and where the reading is may differ -/
def sm_M (Y Z : Nat → Nat → Int32) : Prop := (∀ j : Nat, j < 80 → Y 1 j = Z 1 j) ∧ Y 2 = Z 2 ∧ Y 3 = Z 3 ∧ Y 5 = Z 5 ∧ ∀ j : Nat, j ≠ 8 → j ≠ 9 → Y 0 j = Z 0 j
def lt_X (X : Nat → Nat → Int32) (S : Nat → Int32) (R : Nat × (Nat × Int32) × (Nat → Int32)) : Nat → Nat → Int32 := if R.2.1.2 = -1 then up_2 (va_up (nt_X (va_up X 1 S)) 1 R.2.2) 0 7 0 else va_up X 1 S
theorem rx_0 {X : Nat → Nat → Int32} {S : Nat → Int32} : va_up X 1 S = va_up (rx_N X (X 0 8) (X 0 9)) 1 S := by
  congr 1
  funext a j
  unfold rx_N up_2
  by_cases h : a = 0
  · subst h
    by_cases h8 : j = 8
    · subst h8; simp
    · by_cases h9 : j = 9
      · subst h9; simp
      · simp [h8, h9]
  · simp [h]
theorem sm_e {X : Nat → Nat → Int32} {S T : Nat → Int32} {e n : Int32} : sm_M (va_up (va_up (rx_N (va_up X 4 (cp_N S (X 4) 80)) e n) 4 (cp_N T (rx_N (va_up X 4 (cp_N S (X 4) 80)) e n 4) 80)) 1 (cp_N (rx_N (va_up X 4 (cp_N S (X 4) 80)) e n 4) T 80)) (va_up X 1 S) := by
  refine ⟨fun j hj => ?_, ?_, ?_, ?_, fun j h8 h9 => ?_⟩
  · simp [va_up, rx_N, up_2, cp_N, hj]
  · funext j; simp [va_up, rx_N, up_2]
  · funext j; simp [va_up, rx_N, up_2]
  · funext j; simp [va_up, rx_N, up_2]
  · simp [va_up, rx_N, up_2, h8, h9]
theorem sm_t {X : Nat → Nat → Int32} {S T B : Nat → Int32} {e n : Int32} : sm_M (up_2 (va_up (va_up (nt_X (va_up (rx_N (va_up X 4 B) e n) 1 S)) 4 B) 1 T) 0 7 0) (up_2 (va_up (nt_X (va_up X 1 S)) 1 T) 0 7 0) := by
  have e2 : va_up (rx_N (va_up X 4 B) e n) 1 S 0 2 = X 0 2 := by simp [va_up, rx_N, up_2]
  have e3 : va_up X 1 S 0 2 = X 0 2 := by simp [va_up]
  have r2 : rx_N (va_up X 4 B) e n 2 = X 2 := by funext j; simp [rx_N, up_2, va_up]
  unfold nt_X
  rw [e2, e3]
  by_cases c : X 0 2 = 6
  · rw [if_pos c, if_pos c]
    refine ⟨fun j hj => ?_, ?_, ?_, ?_, fun j h8 h9 => ?_⟩
    · simp [va_up, rx_N, up_2]
    · funext j; simp [va_up, up_2, r2]
    · funext j; simp [va_up, rx_N, up_2]
    · funext j; simp [va_up, rx_N, up_2]
    · simp [va_up, rx_N, up_2, h8, h9]
  · rw [if_neg c, if_neg c]
    refine ⟨fun j hj => ?_, ?_, ?_, ?_, fun j h8 h9 => ?_⟩
    · simp [va_up, rx_N, up_2]
    · funext j; simp [va_up, up_2, r2]
    · funext j; simp [va_up, rx_N, up_2]
    · funext j; simp [va_up, rx_N, up_2]
    · simp [va_up, rx_N, up_2, h8, h9]
set_option maxRecDepth 100000 in
set_option maxHeartbeats 4000000 in
theorem sp_M_load {Γ : cx_T} {τ : Nat × (Nat → sh_T)} {ν : Nat → Nat → Int32} {X : Nat → Nat → Int32} {S : Nat → Int32} {m L : Nat} {c : Nat → Int32} (hm : sh_M τ.2 m) (hT : TR X c L) (hp : PS X) (h21 : LK S 21 10) (h42 : LK S 42 10) : mt_P Γ mk_M_load [.ref m] (τ, mv_N ν m (va_up X 1 S)) (fun v μ' => ∃ Y : Nat → Nat → Int32, v = some (.int (re_I (rm_F c L 100 0 (so c L 0, -1) S))) ∧ μ' = (τ, mv_N ν m Y) ∧ sm_M Y (lt_X X S (rm_F c L 100 0 (so c L 0, -1) S))) := by
  refine mt_of (L := [some (.ref m), none, none]) (by decide +kernel) (by simp [Value.category]) (Nat.le_of_ble_eq_true rfl) (lc_1_3 ()) ?_
  have hT1 : TR (va_up X 4 (cp_N S (X 4) 80)) c L := hT
  have tb : ∀ (R : Nat × (Nat × Int32) × (Nat → Int32)) (i : Nat) (e n : Int32) (T : Nat → Int32), ¬ e = -1 → R.2.1.2 = e → gg_P Γ mk_M_load (fun v μ' => ∃ Y : Nat → Nat → Int32, v = some (.int (re_I R)) ∧ μ' = (τ, mv_N ν m Y) ∧ sm_M Y (lt_X X S R)) 0 0 35 [some (.ref m), some (.int (nI i)), some (.int 0)] [] (τ, mv_N ν m (va_up (rx_N (va_up X 4 (cp_N S (X 4) 80)) (e) (n)) 1 (T))) := by
    intro R i e n T he hRe
    refine gg_aldn dc_M_load_35 rfl rfl ?_
    refine gg_okVv (sp_M_swapsS hm) dc_M_load_36 ml_M_106 ce_M_swaps ⟨Nat.le_of_ble_eq_true rfl, Nat.le_of_ble_eq_true rfl⟩ hm.1 rfl rfl (Nat.le_of_ble_eq_true rfl) ⟨rfl, rfl⟩ ⟨Nat.le_of_ble_eq_true rfl, Nat.le_of_ble_eq_true rfl⟩ ?_
    refine gg_ildn dc_M_load_39 rfl rfl ?_
    refine gg_ifne dc_M_load_40 (fun c_40 => ?_) (fun c_40 => ?_)
    · exact absurd rfl c_40
    · refine gg_ldc dc_M_load_43 lk_M_109 ?_
      refine gg_aldn dc_M_load_45 rfl rfl ?_
      refine gmx_g (k := 8) dc_M_load_46 lf_M_79 hm.1 rfl ?_
      refine gx_top (show _ = e from rfl) ?_
      refine gg_isub dc_M_load_49 ?_
      exact gg_iret dc_M_load_50 rfl ⟨Nat.le_of_ble_eq_true rfl, Nat.le_of_ble_eq_true rfl⟩ (⟨_, by unfold re_I; rw [if_neg (by rw [hRe]; exact he), hRe], rfl, by unfold lt_X; rw [if_neg (by rw [hRe]; exact he)]; exact sm_e⟩)
  have tbad : ∀ (R : Nat × (Nat × Int32) × (Nat → Int32)) (i : Nat) (e n : Int32) (T : Nat → Int32), ¬ e = -1 → R.2.1.2 = e → gg_P Γ mk_M_load (fun v μ' => ∃ Y : Nat → Nat → Int32, v = some (.int (re_I R)) ∧ μ' = (τ, mv_N ν m Y) ∧ sm_M Y (lt_X X S R)) 0 0 13 [some (.ref m), some (.int (nI i)), some (.int 0)] [] (τ, mv_N ν m (va_up (rx_N (va_up X 4 (cp_N S (X 4) 80)) (e) (n)) 1 (T))) := by
    intro R i e n T he hRe
    have tb := tb R
    refine gg_ildn dc_M_load_13 rfl rfl ?_
    refine gg_ifeq dc_M_load_14 (fun c_14 => ?_) (fun c_14 => ?_)
    · exact tb i e n T he hRe
    · exact absurd rfl c_14
  have t35 : ∀ (R : Nat × (Nat × Int32) × (Nat → Int32)) (i o : Nat) (n : Int32) (T : Nat → Int32), (∀ j : Nat, 80 ≤ j → T j = S j) → (i, (o, -1), T) = R → gg_P Γ mk_M_load (fun v μ' => ∃ Y : Nat → Nat → Int32, v = some (.int (re_I R)) ∧ μ' = (τ, mv_N ν m Y) ∧ sm_M Y (lt_X X S R)) 0 0 35 [some (.ref m), some (.int (nI i)), some (.int 1)] [] (τ, mv_N ν m (va_up (rx_N (va_up X 4 (cp_N S (X 4) 80)) (nI o) (n)) 1 (T))) := by
    intro R i o n T h80 hR
    refine gg_aldn dc_M_load_35 rfl rfl ?_
    refine gg_okVv (sp_M_swapsS hm) dc_M_load_36 ml_M_106 ce_M_swaps ⟨Nat.le_of_ble_eq_true rfl, Nat.le_of_ble_eq_true rfl⟩ hm.1 rfl rfl (Nat.le_of_ble_eq_true rfl) ⟨rfl, rfl⟩ ⟨Nat.le_of_ble_eq_true rfl, Nat.le_of_ble_eq_true rfl⟩ ?_
    rw [show cp_N ((rx_N (va_up X 4 (cp_N S (X 4) 80)) (nI o) n) 4) T 80 = S from cp_pc.trans (cp_eq h80)]
    refine gg_ildn dc_M_load_39 rfl rfl ?_
    refine gg_ifne dc_M_load_40 (fun c_40 => ?_) (fun c_40 => ?_)
    · refine gg_aldn dc_M_load_51 rfl rfl ?_
      refine gg_okVv (sp_M_notesS hm (show PS _ from hp)) dc_M_load_52 ml_M_47 ce_M_notes ⟨Nat.le_of_ble_eq_true rfl, Nat.le_of_ble_eq_true rfl⟩ hm.1 rfl rfl (Nat.le_of_ble_eq_true rfl) ⟨rfl, rfl⟩ ⟨Nat.le_of_ble_eq_true rfl, Nat.le_of_ble_eq_true rfl⟩ ?_
      rw [show nt_X (va_up (va_up (rx_N (va_up X 4 (cp_N S (X 4) 80)) (nI o) n) 4 (cp_N T ((rx_N (va_up X 4 (cp_N S (X 4) 80)) (nI o) n) 4) 80)) 1 S) = va_up (nt_X (va_up (rx_N (va_up X 4 (cp_N S (X 4) 80)) (nI o) n) 1 S)) 4 (cp_N T ((rx_N (va_up X 4 (cp_N S (X 4) 80)) (nI o) n) 4) 80) from nt_4]
      refine gg_aldn dc_M_load_55 rfl rfl ?_
      refine gg_okVv (sp_M_swapsS hm) dc_M_load_56 ml_M_106 ce_M_swaps ⟨Nat.le_of_ble_eq_true rfl, Nat.le_of_ble_eq_true rfl⟩ hm.1 rfl rfl (Nat.le_of_ble_eq_true rfl) ⟨rfl, rfl⟩ ⟨Nat.le_of_ble_eq_true rfl, Nat.le_of_ble_eq_true rfl⟩ ?_
      rw [va_vv, va_up_self, show cp_N (cp_N T ((rx_N (va_up X 4 (cp_N S (X 4) 80)) (nI o) n) 4) 80) S 80 = T from cp_pc.trans (cp_eq fun j hj => (h80 j hj).symm)]
      refine gg_aldn dc_M_load_59 rfl rfl ?_
      refine gg_iconst (v := 0) dc_M_load_60 (by decide) ?_
      refine gmx_p (k := 7) dc_M_load_61 lp_M_76 hm.1 rfl ?_
      refine gg_ildn dc_M_load_64 rfl rfl ?_
      refine gg_iret dc_M_load_65 rfl ⟨Nat.le_of_ble_eq_true rfl, Nat.le_of_ble_eq_true rfl⟩ ?_
      refine ⟨_, by unfold re_I; rw [← hR, if_pos rfl], rfl, ?_⟩
      unfold lt_X
      rw [← hR, if_pos rfl]
      exact sm_t
    · exact absurd c_40 (by decide)
  have loop : ∀ (R : Nat × (Nat × Int32) × (Nat → Int32)) (f i o : Nat) (n : Int32) (T : Nat → Int32), o ≤ L → LK T 21 10 → LK T 42 10 → (∀ j : Nat, 80 ≤ j → T j = S j) → L ≤ so c L o + f → rm_F c L f i (so c L o, -1) T = R → gg_P Γ mk_M_load (fun v μ' => ∃ Y : Nat → Nat → Int32, v = some (.int (re_I R)) ∧ μ' = (τ, mv_N ν m Y) ∧ sm_M Y (lt_X X S R)) 0 0 13 [some (.ref m), some (.int (nI i)), some (.int 1)] [] (τ, mv_N ν m (va_up (rx_N (va_up X 4 (cp_N S (X 4) 80)) (nI o) (n)) 1 (T))) := by
    intro R f
    have t35 := t35 R
    have tbad := tbad R
    induction f with
    | zero =>
      intro i o n T ho h21 h42 h80 hf hR
      refine gg_ildn dc_M_load_13 rfl rfl ?_
      refine gg_ifeq dc_M_load_14 (fun c_14 => ?_) (fun c_14 => ?_)
      · exact absurd c_14 (by decide)
      · refine gg_aldn dc_M_load_17 rfl rfl ?_
        refine gg_okV (sp_M_here hm hT1 ho) dc_M_load_18 ml_M_82 ce_M_here ⟨Nat.le_of_ble_eq_true rfl, Nat.le_of_ble_eq_true rfl⟩ hm.1 rfl rfl (Nat.le_of_ble_eq_true rfl) ⟨rfl, rfl⟩ ⟨Nat.le_of_ble_eq_true rfl, Nat.le_of_ble_eq_true rfl⟩ ?_
        refine gg_iflt dc_M_load_21 (fun c_21 => ?_) (fun c_21 => ?_)
        · exact t35 i _ n T h80 (by rw [← hR]; rfl)
        · exact absurd (by rw [nx_e (by omega)]; decide) c_21
    | succ f ih =>
      intro i o n T ho h21 h42 h80 hf hR
      refine gg_ildn dc_M_load_13 rfl rfl ?_
      refine gg_ifeq dc_M_load_14 (fun c_14 => ?_) (fun c_14 => ?_)
      · exact absurd c_14 (by decide)
      · refine gg_aldn dc_M_load_17 rfl rfl ?_
        refine gg_okV (sp_M_here hm hT1 ho) dc_M_load_18 ml_M_82 ce_M_here ⟨Nat.le_of_ble_eq_true rfl, Nat.le_of_ble_eq_true rfl⟩ hm.1 rfl rfl (Nat.le_of_ble_eq_true rfl) ⟨rfl, rfl⟩ ⟨Nat.le_of_ble_eq_true rfl, Nat.le_of_ble_eq_true rfl⟩ ?_
        refine gg_iflt dc_M_load_21 (fun c_21 => ?_) (fun c_21 => ?_)
        · exact t35 i _ n T h80 (by rw [← hR]; exact (rm_x _ (fun q => absurd c_21 (by rw [nx_i q.1]; obtain ⟨j, hj, e⟩ := (hT.2.2 _ q.1).2; rw [e]; exact (bt_T j hj).2.2.2))).symm)
        · have hlt : so c L o < L := Classical.not_not.mp fun q => c_21 (by rw [nx_e (by omega)]; decide)
          refine gg_aldn dc_M_load_24 rfl rfl ?_
          refine gg_callV (sp_M_readsItem hm hT1 hlt so_so h21 h42) dc_M_load_25 ml_M_102 ce_M_readsItem ⟨Nat.le_of_ble_eq_true rfl, Nat.le_of_ble_eq_true rfl⟩ hm.1 rfl rfl (Nat.le_of_ble_eq_true rfl) ⟨Nat.le_of_ble_eq_true rfl, Nat.le_of_ble_eq_true rfl⟩ ?_
          rintro v μ9 ⟨n9, T9, rfl, rfl, hT9⟩
          dsimp only [Option.toList, List.cons_append, List.nil_append]
          refine gg_istn (i := 2) dc_M_load_28 rfl (Nat.le_of_ble_eq_true rfl) rfl ?_
          dsimp only [List.set]
          refine gg_iinc (i := 1) dc_M_load_29 rfl (Nat.le_of_ble_eq_true rfl) rfl ?_
          dsimp only [List.set]
          rw [show Int32.ofInt 1 = 1 from by decide]
          refine gg_goto dc_M_load_32 ?_
          by_cases he : (it_F c L T (so c L o)).1.2 = -1
          · rw [if_pos he, if_pos he, hT9 he]
            have hk := im_k (by have := hT.2.1; omega) h21 h42 he
            have hL9 := it_L (c := c) (S := T) hT.2.1 hlt
            have hg9 := so_g (c := c) (L := L) (o := (it_F c L T (so c L o)).1.1)
            have h19 := hL9.2 he
            refine gg_e (ih (i + 1) _ _ _ hL9.1 hk.1 hk.2.1 (fun j hj => (hk.2.2 j (by omega)).trans (h80 j hj)) (by omega) ?_) (by rw [nI_1]) rfl rfl
            rw [← hR, show rm_F c L (f + 1) i (so c L o, -1) T = rm_F c L f (i + 1) (so c L (it_F c L T (so c L o)).1.1, (it_F c L T (so c L o)).1.2) (im_S c L T (so c L o)) from if_pos ⟨hlt, rfl⟩, he]
          · rw [if_neg he, if_neg he]
            refine gg_e (tbad (i + 1) _ _ _ he ?_) (by rw [nI_1]) rfl rfl
            rw [← hR, show rm_F c L (f + 1) i (so c L o, -1) T = rm_F c L f (i + 1) (so c L (it_F c L T (so c L o)).1.1, (it_F c L T (so c L o)).1.2) (im_S c L T (so c L o)) from if_pos ⟨hlt, rfl⟩, rm_x (p := (so c L (it_F c L T (so c L o)).1.1, (it_F c L T (so c L o)).1.2)) f (fun q => he q.2)]
  refine gg_aldn dc_M_load_0 rfl rfl ?_
  refine gg_okVv (sp_M_putAsideS hm) dc_M_load_1 ml_M_99 ce_M_putAside ⟨Nat.le_of_ble_eq_true rfl, Nat.le_of_ble_eq_true rfl⟩ hm.1 rfl rfl (Nat.le_of_ble_eq_true rfl) ⟨rfl, rfl⟩ ⟨Nat.le_of_ble_eq_true rfl, Nat.le_of_ble_eq_true rfl⟩ ?_
  refine gg_aldn dc_M_load_4 rfl rfl ?_
  rw [rx_0]
  refine gg_iconst (v := 0) dc_M_load_5 (by decide) ?_
  refine grx_p8 dc_M_load_6 lp_M_79 hm ?_
  refine gg_iconst (v := 0) dc_M_load_9 (by decide) ?_
  refine gg_istn (i := 1) dc_M_load_10 rfl (Nat.le_of_ble_eq_true rfl) rfl ?_
  dsimp only [List.set]
  refine gg_iconst (v := 1) dc_M_load_11 (by decide) ?_
  refine gg_istn (i := 2) dc_M_load_12 rfl (Nat.le_of_ble_eq_true rfl) rfl ?_
  dsimp only [List.set]
  exact loop _ 100 0 0 _ S (Nat.zero_le _) h21 h42 (fun _ _ => rfl) (by have := hT.2.1; have := so_g (c := c) (L := L) (o := 0); omega) rfl
