/-! each call on both sides: the same answer, the same state -/
def FQ (τ : Nat × (Nat → sh_T)) (ν0 : Nat → Nat → Int32) (f : Nat) (r : Int32) (X1 : Nat → Nat → Int32) : Option Value → mm_T → Prop := fun v μ' => ∃ ν' : Nat → Nat → Int32, v = some (.int r) ∧ μ' = (τ, ν') ∧ RF ν0 f X1 ν'
theorem FQ.rd {τ : Nat × (Nat → sh_T)} {ν X : Nat → Nat → Int32} {f : Nat} {r : Int32} (h : RL ν f X) : FQ τ ν f r X (some (.int r)) (τ, ν) := ⟨ν, rfl, rfl, RF.id h⟩
theorem FQ.up {τ : Nat × (Nat → sh_T)} {ν ν' X : Nat → Nat → Int32} {f : Nat} {r : Int32} (h : RF ν f X ν') : FQ τ ν f r X (some (.int r)) (τ, ν') := ⟨ν', rfl, rfl, h⟩
theorem FQ.ue {τ : Nat × (Nat → sh_T)} {ν ν' X : Nat → Nat → Int32} {f : Nat} {r r' : Int32} (h : RF ν f X ν') (e : r' = r) : FQ τ ν f r X (some (.int r')) (τ, ν') := ⟨ν', by rw [e], rfl, h⟩
theorem in20 {x : Int32} (h : ¬ in_I x (-20000) 20000 = 0) : -20000 ≤ x.toInt ∧ x.toInt ≤ 20000 := by
  have z := in_rg h
  rw [show (-20000 : Int32).toInt = -20000 by decide, show (20000 : Int32).toInt = 20000 by decide] at z
  exact z
theorem EV.r {S T : Nat → Int32} (h : ls_n S 21 ≤ 10 ∧ ls_n S 42 ≤ 10 ∧ ls_n S 63 ≤ 8) (e : ∀ j : Nat, j < 80 → T j = S j) : EV T S :=
  ⟨fun j hj => e j (by omega), EL.of h.1 fun j h1 h2 => e j (by omega), EL.of h.2.1 fun j h1 h2 => e j (by omega), EL.of h.2.2 fun j h1 h2 => e j (by omega)⟩
theorem IV.eq {S T : Nat → Int32} {K : Int} (h : IV S K) (e : ∀ j : Nat, j < 80 → T j = S j) : IV T K := h.ev (EV.r ⟨h.lk.1.1, h.lk.2.1.1, h.lk.2.2.1⟩ e).sy
/-- every state that is held anywhere is sound -/
def GI (X : Nat → Nat → Int32) (K : Int) : Prop := IV (X 1) K ∧ (∀ i : Nat, i < 2 → ¬ X 0 4 >>> (nI i &&& 31) &&& 1 = 0 → IV (fun j => X 3 (80 * i + j)) K) ∧ ∀ n : Nat, n ≤ 6 → X 0 2 = nI n → ∀ j : Nat, j < n → IV (fun i => X 2 (80 * j + i)) K
theorem GI.w {X : Nat → Nat → Int32} {K K' : Int} (h : GI X K) (hK : K ≤ K') : GI X K' := ⟨h.1.w hK, fun i hi hb => (h.2.1 i hi hb).w hK, fun n hn e j hj => (h.2.2 n hn e j hj).w hK⟩
theorem GI.sm {X Y : Nat → Nat → Int32} {K : Int} (h : GI X K) (hs : sm_M Y X) : GI Y K := by
  obtain ⟨s1, s2, s3, s5, s0⟩ := hs
  obtain ⟨h1, h2, h3⟩ := h
  refine ⟨h1.eq s1, ?_, ?_⟩
  · rw [s0 4 (by omega) (by omega), s3]; exact h2
  · rw [s0 2 (by omega) (by omega), s2]; exact h3
theorem RL.sm {ν X Y : Nat → Nat → Int32} {f : Nat} (h : RL ν f X) (hs : sm_M Y X) : RL ν f Y := by
  obtain ⟨s1, s2, s3, s5, s0⟩ := hs
  obtain ⟨h1, h2, h3, ⟨k, n, hk, g1, g2, g3, g4⟩, L, hL, hT⟩ := h
  refine ⟨h1.eq s1, by rw [s0 4 (by omega) (by omega)]; exact h2, by rw [s0 4 (by omega) (by omega), s3]; exact h3, ⟨k, n, hk, g1, g2, by rw [s0 2 (by omega) (by omega)]; exact g3, by rw [s2]; exact g4⟩, L, hL, ?_⟩
  exact ⟨by rw [s0 7 (by omega) (by omega)]; exact hT.1, hT.2.1, fun i hi => by rw [s5]; exact hT.2.2 i hi⟩
theorem GI.nx {X : Nat → Nat → Int32} {T : Nat → Int32} {K K' : Int} (h : GI X K) (hp : PS X) (hK : K ≤ K') (hT : IV T K') : GI (va_up (nt_X X) 1 T) K' := by
  obtain ⟨n0, hn0, e0⟩ := hp
  have e3 : nt_X X 3 = X 3 := nt_o (by omega) (by omega)
  have e04 : nt_X X 0 4 = X 0 4 := nt_j (by omega)
  refine ⟨hT, ?_, fun n hn e j hj => ?_⟩
  · show ∀ i : Nat, i < 2 → ¬ nt_X X 0 4 >>> (nI i &&& 31) &&& 1 = 0 → IV (fun j => nt_X X 3 (80 * i + j)) K'
    rw [e3, e04]
    exact fun i hi hb => (h.2.1 i hi hb).w hK
  · have e : nt_X X 0 2 = nI n := e
    show IV (fun i => nt_X X 2 (80 * j + i)) K'
    by_cases c : X 0 2 = 6
    · have hn6 : n0 = 6 := (nI_eq (b := 6) (by omega) (by omega)).mp (e0.symm.trans c)
      subst hn6
      have ex : nt_X X = up_2 (va_up X 2 (pa_N (cp_N (fun k => X 2 (k + 80)) (X 2) 400) 400 (X 1) 80)) 0 2 (nI 6) := if_pos c
      rw [ex] at e ⊢
      have en : n = 6 := (nI_eq (b := 6) (by omega) (by omega)).mp e.symm
      by_cases hj5 : j = 5
      · subst hj5
        refine (h.1.w hK).eq fun i hi => ?_
        show pa_N _ 400 (X 1) 80 (80 * 5 + i) = X 1 i
        unfold pa_N
        rw [if_pos (by omega), show 80 * 5 + i - 400 = i by omega]
      · refine ((h.2.2 6 (by omega) e0 (j + 1) (by omega)).w hK).eq fun i hi => ?_
        show pa_N (cp_N (fun k => X 2 (k + 80)) (X 2) 400) 400 (X 1) 80 (80 * j + i) = X 2 (80 * (j + 1) + i)
        unfold pa_N cp_N
        rw [if_neg (by omega), if_pos (by omega)]
        show X 2 (80 * j + i + 80) = _
        rw [show 80 * j + i + 80 = 80 * (j + 1) + i by omega]
    · have hn6 : ¬ n0 = 6 := fun q => c (by rw [e0, q]; rfl)
      have ex : nt_X X = up_2 (va_up X 2 (pa_N (X 2) (80 * (X 0 2).toNatClampNeg) (X 1) 80)) 0 2 (X 0 2 + 1) := if_neg c
      rw [ex] at e ⊢
      have e : X 0 2 + 1 = nI n := e
      rw [e0, nI_1] at e
      have en : n = n0 + 1 := (nI_eq (by omega) (by omega)).mp e.symm
      have hcl : (X 0 2).toNatClampNeg = n0 := by rw [e0, nI_clamp (by omega)]
      by_cases hjn : j = n0
      · subst hjn
        refine (h.1.w hK).eq fun i hi => ?_
        show pa_N (X 2) (80 * (X 0 2).toNatClampNeg) (X 1) 80 (80 * j + i) = X 1 i
        rw [hcl]
        unfold pa_N
        rw [if_pos (by omega), show 80 * j + i - 80 * j = i by omega]
      · refine ((h.2.2 n0 hn0 e0 j (by omega)).w hK).eq fun i hi => ?_
        show pa_N (X 2) (80 * (X 0 2).toNatClampNeg) (X 1) 80 (80 * j + i) = X 2 (80 * j + i)
        rw [hcl]
        unfold pa_N
        rw [if_neg (by omega)]
theorem GI.tx {X X' : Nat → Nat → Int32} {K : Int} (h : GI X K) (e1 : X' 1 = X 1) (e2 : X' 2 = X 2) (e3 : X' 3 = X 3) (e02 : X' 0 2 = X 0 2) (e04 : X' 0 4 = X 0 4) : GI X' K := ⟨by rw [e1]; exact h.1, by rw [e3, e04]; exact h.2.1, by rw [e2, e02]; exact h.2.2⟩
theorem sm_a {X Y : Nat → Nat → Int32} (e : Y = X) : sm_M Y X := by subst e; exact ⟨fun _ _ => rfl, rfl, rfl, rfl, fun _ _ _ => rfl⟩
theorem sm_4 {X Z : Nat → Nat → Int32} {S B : Nat → Int32} (e : Z = X) : sm_M (va_up (va_up Z 4 B) 1 S) (va_up X 1 S) := by subst e; exact ⟨fun _ _ => rfl, rfl, rfl, rfl, fun _ _ _ => rfl⟩
theorem mt_mem {Γ : cx_T} {K : mt_K} {av : List Value} {μ μ' : mm_T} {Q : Option Value → mm_T → Prop} (h : mt_P Γ K av μ Q) (e : μ = μ') : mt_P Γ K av μ' Q := by subst e; exact h
/-- one call on both sides -/
def BO (Γ : cx_T) (τ : Nat × (Nat → sh_T)) (ν : Nat → Nat → Int32) (f m : Nat) (X : Nat → Nat → Int32) (KF KM : mt_K) (As : List Value) (K : Int) : Prop := ∃ (r : Int32) (X1 : Nat → Nat → Int32), GI X1 (K + 700000) ∧ mt_P Γ KF (.ref f :: As) (τ, ν) (FQ τ ν f r X1) ∧ ∀ ν1 : Nat → Nat → Int32, mt_P Γ KM (.ref m :: As) (τ, mv_N ν1 m X) (fun v μ' => ∃ Y : Nat → Nat → Int32, v = some (.int r) ∧ μ' = (τ, mv_N ν1 m Y) ∧ sm_M Y X1)
theorem BO.mk {Γ : cx_T} {τ : Nat × (Nat → sh_T)} {ν : Nat → Nat → Int32} {f m : Nat} {X : Nat → Nat → Int32} {KF KM : mt_K} {As : List Value} {K : Int} (r : Int32) (X1 Y : Nat → Nat → Int32) (hG : GI X1 (K + 700000)) (hF : mt_P Γ KF (.ref f :: As) (τ, ν) (FQ τ ν f r X1)) (hM : ∀ ν1 : Nat → Nat → Int32, mt_P Γ KM (.ref m :: As) (τ, mv_N ν1 m (va_up X 1 (X 1))) (fun v μ' => v = some (.int r) ∧ μ' = (τ, mv_N ν1 m Y))) (hs : sm_M Y X1) : BO Γ τ ν f m X KF KM As K :=
  ⟨r, X1, hG, hF, fun ν1 => mt_imp (mt_mem (hM ν1) (by rw [va_id])) fun _ _ q => ⟨Y, q.1, q.2, hs⟩⟩
theorem BO.mx {Γ : cx_T} {τ : Nat × (Nat → sh_T)} {ν : Nat → Nat → Int32} {f m : Nat} {X : Nat → Nat → Int32} {KF KM : mt_K} {As : List Value} {K : Int} (r : Int32) (X1 Y : Nat → Nat → Int32) (hG : GI X1 (K + 700000)) (hF : mt_P Γ KF (.ref f :: As) (τ, ν) (FQ τ ν f r X1)) (hM : ∀ ν1 : Nat → Nat → Int32, mt_P Γ KM (.ref m :: As) (τ, mv_N ν1 m X) (fun v μ' => v = some (.int r) ∧ μ' = (τ, mv_N ν1 m Y))) (hs : sm_M Y X1) : BO Γ τ ν f m X KF KM As K :=
  ⟨r, X1, hG, hF, fun ν1 => mt_imp (hM ν1) fun _ _ q => ⟨Y, q.1, q.2, hs⟩⟩
theorem bo_counter {Γ : cx_T} {τ : Nat × (Nat → sh_T)} {ν : Nat → Nat → Int32} {f m : Nat} {X : Nat → Nat → Int32} {K : Int} (hf : sh_F τ.2 f) (hm : sh_M τ.2 m) (h : RL ν f X) (hG : GI X K) (hK : K ≤ 360000000) (hs : st_P Γ τ ν) {w : Int32} : BO Γ τ ν f m X mk_F_counter mk_M_counter [.int w] K := by
  have hI := hG.1
  have hp := (RF.id h).PS
  by_cases c : in_I w 0 1 = 0
  · exact BO.mk (-1000001) X (va_up X 1 (X 1)) (hG.w (by omega)) (sp_F_counter hf h (fun _ => FQ.rd h) (fun q => absurd c q)) (fun ν1 => sp_M_counterB hm c) (sm_a va_id)
  · exact BO.mk (if w = 0 then X 1 6 else X 1 7 + X 1 9 + X 1 10 + X 1 11) X (va_up X 1 (X 1)) (hG.w (by omega)) (sp_F_counter hf h (fun q => absurd q c) (fun _ => FQ.rd h)) (fun ν1 => sp_M_counter hm c) (sm_a va_id)
theorem bo_flag {Γ : cx_T} {τ : Nat × (Nat → sh_T)} {ν : Nat → Nat → Int32} {f m : Nat} {X : Nat → Nat → Int32} {K : Int} (hf : sh_F τ.2 f) (hm : sh_M τ.2 m) (h : RL ν f X) (hG : GI X K) (hK : K ≤ 360000000) (hs : st_P Γ τ ν) {w : Int32} : BO Γ τ ν f m X mk_F_flag mk_M_flag [.int w] K := by
  have hI := hG.1
  have hp := (RF.id h).PS
  have h18 := hI.2.2.2.1.1
  by_cases c : in_I w 0 1 = 0
  · exact BO.mk (-1000001) X (va_up X 1 (X 1)) (hG.w (by omega)) (sp_F_flag hf h (fun _ => FQ.rd h) (fun q => absurd c q) (fun _ _ _ q => absurd c q)) (fun ν1 => sp_M_flagB hm c) (sm_a va_id)
  · by_cases d : X 1 18 = 0
    · exact BO.mk (-1000009) X (va_up X 1 (X 1)) (hG.w (by omega)) (sp_F_flag hf h (fun q => absurd q c) (fun _ _ => FQ.rd h) (fun _ _ _ _ q => absurd d q)) (fun ν1 => sp_M_flagN hm c (by rw [d]; decide)) (sm_a va_id)
    · obtain ⟨k, hk, rfl⟩ := in_nI (x := w) (k := 1) c (by decide)
      exact BO.mk (X 1 (19 + k)) X (va_up X 1 (X 1)) (hG.w (by omega)) (sp_F_flag hf h (fun q => absurd q c) (fun _ q => absurd q d) (fun j hj e _ _ => by rw [show j = k from ((nI_eq (by omega) (by omega)).mp e).symm]; exact FQ.rd h)) (fun ν1 => sp_M_flag hm rfl (by omega) c (h18.resolve_left d)) (sm_a va_id)
theorem bo_loadAt {Γ : cx_T} {τ : Nat × (Nat → sh_T)} {ν : Nat → Nat → Int32} {f m : Nat} {X : Nat → Nat → Int32} {K : Int} (hf : sh_F τ.2 f) (hm : sh_M τ.2 m) (h : RL ν f X) (hG : GI X K) (hK : K ≤ 360000000) (hs : st_P Γ τ ν) {x : Int32} : BO Γ τ ν f m X mk_F_loadAt mk_M_loadAt [.int x] K := by
  have hI := hG.1
  have hp := (RF.id h).PS
  by_cases c : in_I x (-20000) 20000 = 0
  · exact BO.mk (-1000001) X (va_up X 1 (X 1)) (hG.w (by omega)) (sp_F_loadAt hf h (fun _ => FQ.rd h) (fun q => absurd c q)) (fun ν1 => sp_M_loadAtB hm c) (sm_a va_id)
  · exact BO.mk (lo_S (X 1) x) X (va_up X 1 (X 1)) (hG.w (by omega)) (sp_F_loadAt hf h (fun q => absurd q c) (fun _ => FQ.rd h)) (fun ν1 => sp_M_loadAt hm c hI.lk.1) (sm_a va_id)
theorem bo_errorAt {Γ : cx_T} {τ : Nat × (Nat → sh_T)} {ν : Nat → Nat → Int32} {f m : Nat} {X : Nat → Nat → Int32} {K : Int} (hf : sh_F τ.2 f) (hm : sh_M τ.2 m) (h : RL ν f X) (hG : GI X K) (hK : K ≤ 360000000) (hs : st_P Γ τ ν) {x : Int32} : BO Γ τ ν f m X mk_F_errorAt mk_M_errorAt [.int x] K := by
  have hI := hG.1
  have hp := (RF.id h).PS
  by_cases c : in_I x (-20000) 20000 = 0
  · exact BO.mk (-1000001) X (va_up X 1 (X 1)) (hG.w (by omega)) (sp_F_errorAt hf h (fun _ => FQ.rd h) (fun q => absurd c q)) (fun ν1 => sp_M_errorAtB hm c) (sm_a va_id)
  · exact BO.mk (em_S (X 1) x) X (va_up X 1 (X 1)) (hG.w (by omega)) (sp_F_errorAt hf h (fun q => absurd q c) (fun _ => by rw [er_em hI.2.2.2.2.2.1 (in20 c)]; exact FQ.rd h)) (fun ν1 => sp_M_errorAt hm c hI.lk.2.1 hI.RI.2.2.2.1) (sm_a va_id)
theorem bo_account {Γ : cx_T} {τ : Nat × (Nat → sh_T)} {ν : Nat → Nat → Int32} {f m : Nat} {X : Nat → Nat → Int32} {K : Int} (hf : sh_F τ.2 f) (hm : sh_M τ.2 m) (h : RL ν f X) (hG : GI X K) (hK : K ≤ 360000000) (hs : st_P Γ τ ν) {i : Int32} : BO Γ τ ν f m X mk_F_account mk_M_account [.int i] K := by
  have hI := hG.1
  have hp := (RF.id h).PS
  by_cases c : in_I i 0 5 = 0
  · exact BO.mk (-1000001) X (va_up X 1 (X 1)) (hG.w (by omega)) (sp_F_account hf h (fun _ => FQ.rd h) (fun _ _ _ q => absurd c q)) (fun ν1 => sp_M_accountB hm c) (sm_a va_id)
  · obtain ⟨k, hk, rfl⟩ := in_nI (x := i) (k := 5) c (by decide)
    exact BO.mk (X 1 (12 + k)) X (va_up X 1 (X 1)) (hG.w (by omega)) (sp_F_account hf h (fun q => absurd q c) (fun j hj e _ => by rw [show j = k from ((nI_eq (by omega) (by omega)).mp e).symm]; exact FQ.rd h)) (fun ν1 => sp_M_account hm rfl (by omega) c) (sm_a va_id)
theorem bo_command {Γ : cx_T} {τ : Nat × (Nat → sh_T)} {ν : Nat → Nat → Int32} {f m : Nat} {X : Nat → Nat → Int32} {K : Int} (hf : sh_F τ.2 f) (hm : sh_M τ.2 m) (h : RL ν f X) (hG : GI X K) (hK : K ≤ 360000000) (hs : st_P Γ τ ν) {i w : Int32} : BO Γ τ ν f m X mk_F_command mk_M_command [.int i, .int w] K := by
  have hI := hG.1
  have hp := (RF.id h).PS
  have h63 := hI.lk.2.2
  by_cases c : i < 0 ∨ in_I w 0 1 = 0
  · exact BO.mk (-1000001) X (va_up X 1 (X 1)) (hG.w (by omega)) (sp_F_command hf h (fun _ => FQ.rd h) (fun a b => absurd c (fun q => q.elim a b)) (fun _ _ _ _ _ _ b d => absurd c (fun q => q.elim (fun z => by rename_i e _ _ _; rw [e] at z; exact nI_pos (by have := h63.1; omega) z) b))) (fun ν1 => sp_M_commandB hm c) (sm_a va_id)
  · have c0 : ¬ i < 0 := fun q => c (Or.inl q)
    have c1 : ¬ in_I w 0 1 = 0 := fun q => c (Or.inr q)
    by_cases d : i < X 1 63
    · obtain ⟨k, hk, rfl⟩ := nI_of (x := i) c0
      obtain ⟨z, hz, rfl⟩ := in_nI (x := w) (k := 1) c1 (by decide)
      have hk8 : k < 8 := by
        have y := d
        rw [h63.2] at y
        have := (nI_ltI hk (by have := h63.1; omega)).mp y
        have := h63.1
        omega
      exact BO.mk (X 1 (64 + 2 * k + z)) X (va_up X 1 (X 1)) (hG.w (by omega)) (sp_F_command hf h (fun q => absurd q c) (fun _ _ q => absurd d q) (fun j y e1 e2 hj hy _ _ => by rw [show j = k from ((nI_eq hk (by have := h63.1; omega)).mp e1).symm, show y = z from ((nI_eq (by omega) (by omega)).mp e2).symm]; exact FQ.rd h)) (fun ν1 => sp_M_command hm rfl rfl hk8 (by omega) c1 d) (sm_a va_id)
    · exact BO.mk (-1000009) X (va_up X 1 (X 1)) (hG.w (by omega)) (sp_F_command hf h (fun q => absurd q c) (fun _ _ _ => FQ.rd h) (fun _ _ _ _ _ _ _ q => absurd q d)) (fun ν1 => sp_M_commandN hm c0 c1 d) (sm_a va_id)
theorem cc_cm {X : Nat → Nat → Int32} {k : Nat} (hk : k < 21) (hF : FL (X 1)) : cc_N X k = cm_N X (X 1) k := by
  match k, hk with
  | 0, _ => rfl
  | 1, _ => rfl
  | 2, _ => rfl
  | 3, _ => rfl
  | 4, _ => rfl
  | 5, _ => rfl
  | 6, _ => rfl
  | 7, _ => rfl
  | 8, _ => rfl
  | 9, _ => rfl
  | 10, _ => rfl
  | 11, _ => rfl
  | 12, _ => exact to_to
  | 13, _ => rfl
  | 14, _ =>
    show (if ¬ X 1 18 = 0 ∧ ¬ X 1 8 < X 1 19 ∧ ¬ X 1 20 < X 1 8 then (1 : Int32) else 0) = if X 1 18 = 1 ∧ ¬ in_I (X 1 8) (X 1 19) (X 1 20) = 0 then 1 else 0
    by_cases c : X 1 18 = 0
    · rw [if_neg (fun q => q.1 c), if_neg (fun q => by have z := q.1; rw [c] at z; exact absurd z (by decide))]
    · by_cases d : in_I (X 1 8) (X 1 19) (X 1 20) = 0
      · rw [if_neg (fun q => in_no q.2.1 q.2.2 d), if_neg (fun q => q.2 d)]
      · rw [if_pos ⟨c, in_ok d⟩, if_pos ⟨hF.1.resolve_left c, d⟩]
  | 15, _ => rfl
  | 16, _ => rfl
  | 17, _ => rfl
  | 18, _ => rfl
  | 19, _ => rfl
  | 20, _ => rfl
  | n + 21, h => exact absurd h (by omega)
theorem bo_count {Γ : cx_T} {τ : Nat × (Nat → sh_T)} {ν : Nat → Nat → Int32} {f m : Nat} {X : Nat → Nat → Int32} {K : Int} (hf : sh_F τ.2 f) (hm : sh_M τ.2 m) (h : RL ν f X) (hG : GI X K) (hK : K ≤ 360000000) (hs : st_P Γ τ ν) {i : Int32} : BO Γ τ ν f m X mk_F_count mk_M_count [.int i] K := by
  have hI := hG.1
  have hp := (RF.id h).PS
  by_cases c : i < 0 ∨ 20 < i
  · exact BO.mk (-1000001) X (va_up X 1 (X 1)) (hG.w (by omega)) (sp_F_count hf h (fun _ => FQ.rd h) (fun j hj e => absurd c (fun q => q.elim (fun z => nI_pos (n := j) (by omega) (by rw [← e]; exact z)) (fun z => nI_nlt (a := 20) (b := j) (by omega) (by omega) (by rw [← e]; exact z))))) (fun ν1 => sp_M_countB hm c) (sm_a va_id)
  · obtain ⟨k, hk, rfl⟩ := nI_of2 (x := i) (M := 20) (n := 20) rfl (fun q => c (Or.inl q)) (Int32.not_lt.mp fun q => c (Or.inr q))
    exact BO.mk (cm_N X (X 1) k) X (va_up X 1 (X 1)) (hG.w (by omega)) (sp_F_count hf h (fun q => absurd q c) (fun j hj e => by rw [show j = k from ((nI_eq (by omega) (by omega)).mp e).symm, cc_cm (by omega) hI.2.2.2.1]; exact FQ.rd h)) (fun ν1 => sp_M_count hm rfl (by omega) hI.lk.1) (sm_a va_id)
theorem bo_why {Γ : cx_T} {τ : Nat × (Nat → sh_T)} {ν : Nat → Nat → Int32} {f m : Nat} {X : Nat → Nat → Int32} {K : Int} (hf : sh_F τ.2 f) (hm : sh_M τ.2 m) (h : RL ν f X) (hG : GI X K) (hK : K ≤ 360000000) (hs : st_P Γ τ ν) {x : Int32} : BO Γ τ ν f m X mk_F_why mk_M_why [.int x] K := by
  have hI := hG.1
  have hp := (RF.id h).PS
  by_cases c : in_I x (-20000) 20000 = 0
  · exact BO.mk (-1000001) X (va_up X 1 (X 1)) (hG.w (by omega)) (sp_F_why hf h (fun _ => FQ.rd h) (fun q => absurd c q) (fun q => absurd c q)) (fun ν1 => sp_M_whyB hm c) (sm_a va_id)
  · have ea := hI.ai (in20 c)
    by_cases d : in_I (am_S (X 1) x) (-20000) 20000 = 0
    · exact BO.mk 1 X (va_up X 1 (X 1)) (hG.w (by omega)) (sp_F_why hf h (fun q => absurd q c) (fun _ _ => FQ.rd h) (fun _ q => absurd d (by rw [← ea]; exact q))) (fun ν1 => sp_M_whyI hm hI.RI c d) (sm_a va_id)
    · have hv := (hI.mv (by omega) (in20 c) d).2
      exact BO.mk (wy_I (mo_S (X 1) x) (am_S (X 1) x)) X (va_up (va_up X 4 (cp_N (mo_S (X 1) x) (X 4) 80)) 1 (X 1)) (hG.w (by omega)) (sp_F_why hf h (fun q => absurd q c) (fun _ q => absurd (by rw [← ea]; exact q) d) (fun _ _ ν' r => by rw [hv, ea]; exact FQ.up r)) (fun ν1 => sp_M_why hm hI.RI c d) (by have z := sm_4 (X := X) (Z := X) (S := X 1) (B := cp_N (mo_S (X 1) x) (X 4) 80) rfl; rw [va_id] at z; exact z)
theorem bo_losses {Γ : cx_T} {τ : Nat × (Nat → sh_T)} {ν : Nat → Nat → Int32} {f m : Nat} {X : Nat → Nat → Int32} {K : Int} (hf : sh_F τ.2 f) (hm : sh_M τ.2 m) (h : RL ν f X) (hG : GI X K) (hK : K ≤ 360000000) (hs : st_P Γ τ ν) {x y : Int32} : BO Γ τ ν f m X mk_F_losses mk_M_losses [.int x, .int y] K := by
  have hI := hG.1
  have hp := (RF.id h).PS
  by_cases c : in_I x (-20000) 20000 = 0 ∨ in_I y 1 1000 = 0
  · exact BO.mk (-1000001) X (va_up X 1 (X 1)) (hG.w (by omega)) (sp_F_losses hf h hs (fun _ => FQ.rd h) (fun a b => absurd c (fun q => q.elim a b)) (fun a b => absurd c (fun q => q.elim a b))) (fun ν1 => sp_M_lossesB hm c) (sm_a va_id)
  · have c0 : ¬ in_I x (-20000) 20000 = 0 := fun q => c (Or.inl q)
    have c1 : ¬ in_I y 1 1000 = 0 := fun q => c (Or.inr q)
    have ea := hI.ai (in20 c0)
    by_cases d : in_I (am_S (X 1) x) (-20000) 20000 = 0
    · exact BO.mk (-1000009) X (va_up X 1 (X 1)) (hG.w (by omega)) (sp_F_losses hf h hs (fun q => absurd q c) (fun _ _ _ => FQ.rd h) (fun _ _ q => absurd d (by rw [← ea]; exact q))) (fun ν1 => sp_M_lossesN hm hI.RI c0 c1 d) (sm_a va_id)
    · have hI2 : IV (upd (X 1) 2 y) K := hI.nu (by omega) c1
      have e2 : am_S (upd (X 1) 2 y) x = am_S (X 1) x := am_cg fun j hj => ud_ne (by omega)
      have hv := (hI2.mv (by omega) (in20 c0) (by rw [e2]; exact d)).2
      exact BO.mk (mo_S (upd (X 1) 2 y) x 10 - X 1 10) X (va_up (va_up X 4 (cp_N (mo_S (upd (X 1) 2 y) x) (X 4) 80)) 1 (X 1)) (hG.w (by omega)) (sp_F_losses hf h hs (fun q => absurd q c) (fun _ _ q => absurd (by rw [← ea]; exact q) d) (fun _ _ _ ν' r => by rw [hv]; exact FQ.up r)) (fun ν1 => sp_M_losses hm hI.RI c0 c1 d) (by have z := sm_4 (X := X) (Z := X) (S := X 1) (B := cp_N (mo_S (upd (X 1) 2 y) x) (X 4) 80) rfl; rw [va_id] at z; exact z)
theorem bo_fastest {Γ : cx_T} {τ : Nat × (Nat → sh_T)} {ν : Nat → Nat → Int32} {f m : Nat} {X : Nat → Nat → Int32} {K : Int} (hf : sh_F τ.2 f) (hm : sh_M τ.2 m) (h : RL ν f X) (hG : GI X K) (hK : K ≤ 360000000) (hs : st_P Γ τ ν) {x : Int32} : BO Γ τ ν f m X mk_F_fastest mk_M_fastest [.int x] K := by
  have hI := hG.1
  have hp := (RF.id h).PS
  by_cases c : in_I x (-20000) 20000 = 0
  · exact BO.mk (-1000001) X (va_up X 1 (X 1)) (hG.w (by omega)) (sp_F_fastest hf h (fun _ => FQ.rd h) (fun q => absurd c q) (fun q => absurd c q)) (fun ν1 => sp_M_fastestB hm c) (sm_a va_id)
  · have ea := hI.ai (in20 c)
    by_cases d : in_I (am_S (X 1) x) (-20000) 20000 = 0
    · exact BO.mk (-1000009) X (va_up X 1 (X 1)) (hG.w (by omega)) (sp_F_fastest hf h (fun q => absurd q c) (fun _ _ => FQ.rd h) (fun _ q => absurd d (by rw [← ea]; exact q))) (fun ν1 => sp_M_fastestN hm hI.RI c d) (sm_a va_id)
    · have hv := hI.fs (by omega) (in20 c) d 20
      refine ⟨if fs_N (X 1) x 20 = 0 then (-1000009) else nI (50 * fs_N (X 1) x 20), X, hG.w (by omega), sp_F_fastest hf h (fun q => absurd q c) (fun _ q => absurd (by rw [← ea]; exact q) d) (fun _ _ ν' r => by rw [← hv]; exact FQ.up r), fun ν1 => mt_imp (mt_mem (sp_M_fastest (ν := ν1) (X := X) (S := X 1) hm hI.RI c d) (by rw [va_id])) ?_⟩
      rintro v μ' ⟨rfl, B, rfl⟩
      refine ⟨_, rfl, rfl, ?_⟩
      have z := sm_4 (X := X) (Z := X) (S := X 1) (B := B) rfl
      rw [va_id] at z
      exact z
