def rw_S (S : Nat → Int32) (b n : Nat) (P V : Nat → Int32) : Nat → Int32 := fun j => if j = b then nI n else if b < j ∧ j ≤ b + 2 * n then (if (j - b) % 2 = 1 then P ((j - b - 1) / 2) else V ((j - b - 2) / 2)) else S j
theorem rw_b {S : Nat → Int32} {b n : Nat} {P V : Nat → Int32} : rw_S S b n P V b = nI n := by unfold rw_S; rw [if_pos rfl]
theorem rw_P {S : Nat → Int32} {b n i : Nat} {P V : Nat → Int32} (h : i < n) : ls_P (rw_S S b n P V) b i = P i := by
  unfold ls_P rw_S
  rw [if_neg (by omega), if_pos (by omega), if_pos (by omega), show (b + 1 + 2 * i - b - 1) / 2 = i by omega]
theorem rw_V {S : Nat → Int32} {b n i : Nat} {P V : Nat → Int32} (h : i < n) : ls_V (rw_S S b n P V) b i = V i := by
  unfold ls_V rw_S
  rw [if_neg (by omega), if_pos (by omega), if_neg (by omega), show (b + 2 + 2 * i - b - 2) / 2 = i by omega]
theorem rw_o {S : Nat → Int32} {b n j : Nat} {P V : Nat → Int32} (h : j < b ∨ b + 2 * n < j) : rw_S S b n P V j = S j := by
  unfold rw_S
  rw [if_neg (by omega), if_neg (by omega)]
theorem rw_n {S : Nat → Int32} {b n : Nat} {P V : Nat → Int32} (h : n < 2 ^ 31) : ls_n (rw_S S b n P V) b = n := by unfold ls_n; rw [rw_b, nI_clamp h]
theorem pt_o {ν : Nat → Nat → Int32} {q c : Nat} {s : Int32} {P V : Nat → Int32} (h0 : c ≠ q) (h1 : c ≠ q + 1) (h2 : c ≠ q + 2) : pt_set ν q s P V c = ν c := by
  unfold pt_set
  rw [va_up_ne _ _ h2, va_up_ne _ _ h1, u2_ne h0]
theorem pt_P {ν : Nat → Nat → Int32} {q : Nat} {s : Int32} {P V : Nat → Int32} : pt_set ν q s P V (q + 1) = P := by
  unfold pt_set
  rw [va_up_ne _ _ (by omega), va_up_self]
theorem pt_V {ν : Nat → Nat → Int32} {q : Nat} {s : Int32} {P V : Nat → Int32} : pt_set ν q s P V (q + 2) = V := by
  unfold pt_set
  rw [va_up_self]
theorem pt_s {ν : Nat → Nat → Int32} {q : Nat} {s : Int32} {P V : Nat → Int32} : pt_set ν q s P V q 2 = s := by
  unfold pt_set
  rw [va_up_ne _ _ (by omega), va_up_ne _ _ (by omega), u2_eq, ud_eq]
theorem pr_set {ν : Nat → Nat → Int32} {q b n N : Nat} {S P V P' V' : Nat → Int32} (hn : n ≤ N) (h : ∀ i : Nat, i < n → P' i = P i ∧ V' i = V i) : PR (pt_set ν q (nI n) P' V') q (rw_S S b n P V) b N :=
  ⟨n, hn, pt_s, rw_b, fun i hi => ⟨by rw [pt_P, rw_P hi]; exact (h i hi).1, by rw [pt_V, rw_V hi]; exact (h i hi).2⟩⟩
theorem AX.ld {ν ν' : Nat → Nat → Int32} {a : Nat} {S S' : Nat → Int32} (h : AX ν a S) (hR : PR ν' (a + 3) S' 21 10) (ho : ∀ c : Nat, c ≠ a + 3 → c ≠ a + 3 + 1 → c ≠ a + 3 + 2 → ν' c = ν c) (hS : ∀ j : Nat, (j < 21 ∨ 41 < j) → S' j = S j) : AX ν' a S' := by
  obtain ⟨g1, g2, g3, g4, g5, g6, g7⟩ := h
  refine ⟨fun j hj => ?_, fun j hj => ?_, fun j hj hj' => ?_, by rw [hS 18 (by omega)]; exact g4, hR, ?_, ?_⟩
  · rw [ho _ (by omega) (by omega) (by omega), hS _ (by omega)]; exact g1 j hj
  · rw [ho _ (by omega) (by omega) (by omega), hS _ (by omega)]; exact g2 j hj
  · have := ax_ix_lt hj hj'
    rw [ho _ (by omega) (by omega) (by omega), hS _ (by omega)]; exact g3 j hj hj'
  · exact g6.kept (by rw [ho _ (by omega) (by omega) (by omega)]) (ho _ (by omega) (by omega) (by omega)) (ho _ (by omega) (by omega) (by omega)) (fun j _ _ => hS j (by omega))
  · exact g7.kept (by rw [ho _ (by omega) (by omega) (by omega)]) (ho _ (by omega) (by omega) (by omega)) (ho _ (by omega) (by omega) (by omega)) (fun j _ _ => hS j (by omega))
theorem AX.cb {ν ν' : Nat → Nat → Int32} {a : Nat} {S S' : Nat → Int32} (h : AX ν a S) (hR : PR ν' (a + 6) S' 42 10) (ho : ∀ c : Nat, c ≠ a + 6 → c ≠ a + 6 + 1 → c ≠ a + 6 + 2 → ν' c = ν c) (hS : ∀ j : Nat, (j < 42 ∨ 62 < j) → S' j = S j) : AX ν' a S' := by
  obtain ⟨g1, g2, g3, g4, g5, g6, g7⟩ := h
  refine ⟨fun j hj => ?_, fun j hj => ?_, fun j hj hj' => ?_, by rw [hS 18 (by omega)]; exact g4, ?_, hR, ?_⟩
  · rw [ho _ (by omega) (by omega) (by omega), hS _ (by omega)]; exact g1 j hj
  · rw [ho _ (by omega) (by omega) (by omega), hS _ (by omega)]; exact g2 j hj
  · have := ax_ix_lt hj hj'
    rw [ho _ (by omega) (by omega) (by omega), hS _ (by omega)]; exact g3 j hj hj'
  · exact g5.kept (by rw [ho _ (by omega) (by omega) (by omega)]) (ho _ (by omega) (by omega) (by omega)) (ho _ (by omega) (by omega) (by omega)) (fun j _ _ => hS j (by omega))
  · exact g7.kept (by rw [ho _ (by omega) (by omega) (by omega)]) (ho _ (by omega) (by omega) (by omega)) (ho _ (by omega) (by omega) (by omega)) (fun j _ _ => hS j (by omega))
theorem AX.cm {ν ν' : Nat → Nat → Int32} {a : Nat} {S S' : Nat → Int32} (h : AX ν a S) (hR : PR ν' (a + 9) S' 63 8) (ho : ∀ c : Nat, c ≠ a + 9 → c ≠ a + 9 + 1 → c ≠ a + 9 + 2 → ν' c = ν c) (hS : ∀ j : Nat, (j < 63 ∨ 79 < j) → S' j = S j) : AX ν' a S' := by
  obtain ⟨g1, g2, g3, g4, g5, g6, g7⟩ := h
  refine ⟨fun j hj => ?_, fun j hj => ?_, fun j hj hj' => ?_, by rw [hS 18 (by omega)]; exact g4, ?_, ?_, hR⟩
  · rw [ho _ (by omega) (by omega) (by omega), hS _ (by omega)]; exact g1 j hj
  · rw [ho _ (by omega) (by omega) (by omega), hS _ (by omega)]; exact g2 j hj
  · have := ax_ix_lt hj hj'
    rw [ho _ (by omega) (by omega) (by omega), hS _ (by omega)]; exact g3 j hj hj'
  · exact g5.kept (by rw [ho _ (by omega) (by omega) (by omega)]) (ho _ (by omega) (by omega) (by omega)) (ho _ (by omega) (by omega) (by omega)) (fun j _ _ => hS j (by omega))
  · exact g6.kept (by rw [ho _ (by omega) (by omega) (by omega)]) (ho _ (by omega) (by omega) (by omega)) (ho _ (by omega) (by omega) (by omega)) (fun j _ _ => hS j (by omega))
theorem fr_pt {ν ν' : Nat → Nat → Int32} {a q : Nat} (ho : ∀ c : Nat, c ≠ q → c ≠ q + 1 → c ≠ q + 2 → ν' c = ν c) (hq : a ≤ q ∧ q + 2 < a + 12) : fr_P ν ν' a := fun c hc => ho c (by omega) (by omega) (by omega)
/-- the row without its first command -/
def ct_S (S : Nat → Int32) : Nat → Int32 := rw_S S 63 (ls_n S 63 - 1) (fun i => ls_P S 63 (i + 1)) (fun i => ls_V S 63 (i + 1))
/-- with one command more -/
def ci_S (S : Nat → Int32) (x y : Int32) : Nat → Int32 := rw_S S 63 (ls_n S 63 + 1) (in_F (ls_P S 63) (pr_N (ls_V S 63) y (ls_n S 63) 0) (ls_n S 63) x) (in_F (ls_V S 63) (pr_N (ls_V S 63) y (ls_n S 63) 0) (ls_n S 63) y)
def ut_S (S : Nat → Int32) (b : Nat) (x : Int32) : Nat := ut_N (ls_P S b) x (ls_n S b) 0
def ha_S (S : Nat → Int32) (b : Nat) (x : Int32) : Int32 := ha_N (ut_S S b x) (ls_P S b) x
def pp_S (S : Nat → Int32) (b : Nat) (x v : Int32) : Nat → Int32 := if ha_S S b x = 0 then rw_S S b (ls_n S b + 1) (in_F (ls_P S b) (ut_S S b x) (ls_n S b) x) (in_F (ls_V S b) (ut_S S b x) (ls_n S b) v) else upd S (b + 2 + 2 * (ut_S S b x - 1)) v
def rp_S (S : Nat → Int32) (b : Nat) (x : Int32) : Nat → Int32 := rw_S S b (ls_n S b - 1) (cg_I (ls_P S b) (ut_S S b x - 1) (ls_n S b - 1)) (cg_I (ls_V S b) (ut_S S b x - 1) (ls_n S b - 1))
theorem pr_cg {R R' : Nat → Int32} {p : Int32} : ∀ (d i : Nat), (∀ j : Nat, i ≤ j → j < i + d → R j = R' j) → pr_N R p d i = pr_N R' p d i
  | 0, i, _ => rfl
  | d + 1, i, h => by
    show (if R i < p then i else pr_N R p d (i + 1)) = (if R' i < p then i else pr_N R' p d (i + 1))
    rw [h i (by omega) (by omega), pr_cg d (i + 1) (fun j h1 h2 => h j (by omega) (by omega))]
theorem in_cg {g g' : Nat → Int32} {u n i : Nat} {x : Int32} (h : ∀ j : Nat, j < n → g j = g' j) (hi : i < n + 1) (hu : u ≤ n) : in_F g u n x i = in_F g' u n x i := by
  unfold in_F og_I upd
  by_cases e : i = u
  · rw [if_pos e, if_pos e]
  · rw [if_neg e, if_neg e]
    dsimp only
    by_cases e2 : u < i ∧ i ≤ n
    · rw [if_pos e2, if_pos e2, h _ (by omega)]
    · rw [if_neg e2, if_neg e2, h _ (by omega)]
theorem cg_cg {g g' : Nat → Int32} {k n i : Nat} (h : ∀ j : Nat, j < n + 1 → g j = g' j) (hi : i < n) : cg_I g k n i = cg_I g' k n i := by
  unfold cg_I
  by_cases e2 : k ≤ i ∧ i < n
  · rw [if_pos e2, if_pos e2, h _ (by omega)]
  · rw [if_neg e2, if_neg e2, h _ (by omega)]
theorem ha_1 {u : Nat} {P : Nat → Int32} {x : Int32} (h : ¬ ha_N u P x = 0) : ∃ k, u = k + 1 ∧ P k = x := by
  cases u with
  | zero => exact absurd rfl h
  | succ k =>
    rw [ha_s] at h
    by_cases e : P k = x
    · exact ⟨k, rfl, e⟩
    · rw [if_neg e] at h; exact absurd rfl h
/-- a post of a call on points or commands -/
def pt_Q (τ : Nat × (Nat → sh_T)) (ν : Nat → Nat → Int32) (q b N : Nat) (r : Option Value) (S' : Nat → Int32) : Option Value → mm_T → Prop := fun v μ' => ∃ ν' : Nat → Nat → Int32, v = r ∧ μ' = (τ, ν') ∧ PR ν' q S' b N ∧ ∀ c : Nat, c ≠ q → c ≠ q + 1 → c ≠ q + 2 → ν' c = ν c
theorem mt_imp {Γ : cx_T} {K : mt_K} {av : List Value} {μ : mm_T} {Q Q' : Option Value → mm_T → Prop} (h : mt_P Γ K av μ Q) (hq : ∀ v μ', Q v μ' → Q' v μ') : mt_P Γ K av μ Q' := by
  intro p e ha hc hk s m args below hf happ hP hK
  obtain ⟨n, o, h1, h2, h3, ⟨⟨v, μ', e1, e2, e3⟩, h4⟩, h5⟩ := h p e ha hc hk s m args below hf happ hP hK
  exact ⟨n, o, h1, h2, h3, ⟨⟨v, μ', e1, hq _ _ e2, e3⟩, h4⟩, h5⟩
theorem sp_P_putR {Γ : cx_T} {τ : Nat × (Nat → sh_T)} {ν : Nat → Nat → Int32} {q b : Nat} {S : Nat → Int32} {x d : Int32} (hq : sh_Pt τ.2 q) (hR : PR ν q S b 10) (hr : ¬ ha_S S b x = 0 ∨ ls_n S b < 10) : mt_P Γ mk_P_put [.ref q, .int x, .int d] (τ, ν) (pt_Q τ ν q b 10 none (pp_S S b x d)) := by
  have h := hR.n (by omega)
  have hu := hR.ut (x := x) (by omega)
  have hh := hR.ha (x := x) (by omega)
  have hle := (ut_le (ls_P S b) x (ls_n S b) 0).2
  by_cases c : ha_S S b x = 0
  · have hlt : ls_n S b < 10 := hr.resolve_left (fun e => e c)
    have c' : ha_N (ut_N (ν (q + 1)) x (ls_n S b) 0) (ν (q + 1)) x = 0 := by rw [hh]; exact c
    refine mt_imp (sp_P_putN hq h.2.1 h.1 c' hlt) ?_
    rintro v μ' ⟨rfl, rfl⟩
    refine ⟨_, rfl, rfl, ?_, fun c h0 h1 h2 => pt_o h0 h1 h2⟩
    unfold pp_S
    rw [if_pos c, hu]
    exact pr_set (by omega) (fun i hi => ⟨in_cg (fun j hj => (h.2.2.2 j hj).1) hi (by show ut_N _ _ _ _ ≤ _; omega), in_cg (fun j hj => (h.2.2.2 j hj).2) hi (by show ut_N _ _ _ _ ≤ _; omega)⟩)
  · have c' : ¬ ha_N (ut_N (ν (q + 1)) x (ls_n S b) 0) (ν (q + 1)) x = 0 := by rw [hh]; exact c
    obtain ⟨k, hk, hp⟩ := ha_1 c'
    refine mt_imp (sp_P_putY hq h.2.1 h.1 hk hp) ?_
    rintro v μ' ⟨rfl, rfl⟩
    refine ⟨_, rfl, rfl, ?_, fun c h0 h1 h2 => u2_ne h2⟩
    have hk' : ut_S S b x = k + 1 := by unfold ut_S; rw [← hu]; exact hk
    have hkn : k < ls_n S b := by unfold ut_S at hk'; omega
    unfold pp_S
    rw [if_neg c, hk']
    refine ⟨ls_n S b, h.1, by rw [u2_ne (by omega)]; exact h.2.1, by rw [ud_ne (by omega)]; exact h.2.2.1, fun i hi => ⟨?_, ?_⟩⟩
    · rw [u2_ne (by omega)]
      unfold ls_P
      rw [ud_ne (by omega)]
      exact (h.2.2.2 i hi).1
    · rw [u2_eq]
      unfold ls_V
      by_cases e : i = k
      · subst e
        rw [ud_eq, show b + 2 + 2 * (i + 1 - 1) = b + 2 + 2 * i by omega, ud_eq]
      · rw [ud_ne e, ud_ne (by omega)]
        exact (h.2.2.2 i hi).2
theorem sp_P_removeR {Γ : cx_T} {τ : Nat × (Nat → sh_T)} {ν : Nat → Nat → Int32} {q b : Nat} {S : Nat → Int32} {x : Int32} (hq : sh_Pt τ.2 q) (hR : PR ν q S b 10) (hr : ¬ ha_S S b x = 0) : mt_P Γ mk_P_remove [.ref q, .int x] (τ, ν) (pt_Q τ ν q b 10 none (rp_S S b x)) := by
  have h := hR.n (by omega)
  have hu := hR.ut (x := x) (by omega)
  have hh := hR.ha (x := x) (by omega)
  have hle := (ut_le (ls_P S b) x (ls_n S b) 0).2
  have c' : ¬ ha_N (ut_N (ν (q + 1)) x (ls_n S b) 0) (ν (q + 1)) x = 0 := by rw [hh]; exact hr
  obtain ⟨k, hk, hp⟩ := ha_1 c'
  have hk' : ut_S S b x = k + 1 := by unfold ut_S; rw [← hu]; exact hk
  unfold ut_S at hk'
  obtain ⟨n, hn⟩ : ∃ n, ls_n S b = n + 1 := ⟨ls_n S b - 1, by omega⟩
  have h1 := h.1
  have h2 := h.2.1
  rw [hn] at h1 h2 hk
  refine mt_imp (sp_P_remove hq h2 h1 hk hp) ?_
  rintro v μ' ⟨rfl, rfl⟩
  refine ⟨_, rfl, rfl, ?_, fun c h0 h1 h2 => pt_o h0 h1 h2⟩
  unfold rp_S ut_S
  rw [hk', hn]
  exact pr_set (by omega) (fun i hi => ⟨cg_cg (fun j hj => (h.2.2.2 j (by omega)).1) hi, cg_cg (fun j hj => (h.2.2.2 j (by omega)).2) hi⟩)
theorem sp_P_haR {Γ : cx_T} {τ : Nat × (Nat → sh_T)} {ν : Nat → Nat → Int32} {q b : Nat} {S : Nat → Int32} {x : Int32} (hq : sh_Pt τ.2 q) (hR : PR ν q S b 10) : mt_P Γ mk_P_hasRoomFor [.ref q, .int x] (τ, ν) (fun v μ' => v = some (.int (if ls_n S b < 10 then 1 else ha_S S b x)) ∧ μ' = (τ, ν)) := by
  have h := hR.n (by omega)
  have h9 := sp_P_hasRoomFor (Γ := Γ) (x := x) hq h.2.1 h.1
  rw [hR.ha (by omega)] at h9
  exact h9
theorem sp_P_vaR {Γ : cx_T} {τ : Nat × (Nat → sh_T)} {ν : Nat → Nat → Int32} {q b : Nat} {S : Nat → Int32} {x d : Int32} (hq : sh_Pt τ.2 q) (hR : PR ν q S b 10) : mt_P Γ mk_P_valueAt [.ref q, .int x, .int d] (τ, ν) (fun v μ' => v = some (.int (if ha_S S b x = 0 then d else pk_I (ut_S S b x) (ls_V S b) d)) ∧ μ' = (τ, ν)) := by
  have h := hR.n (by omega)
  have h9 := sp_P_valueAt (Γ := Γ) (x := x) (d := d) hq h.2.1 h.1
  rw [hR.ha (by omega), hR.pk (by omega)] at h9
  exact h9
theorem sp_C_takeR {Γ : cx_T} {τ : Nat × (Nat → sh_T)} {ν : Nat → Nat → Int32} {q : Nat} {S : Nat → Int32} (hq : sh_Cm τ.2 q) (hR : PR ν q S 63 8) (hn0 : 0 < ls_n S 63) : mt_P Γ mk_C_takeNext [.ref q] (τ, ν) (pt_Q τ ν q 63 8 (some (.int (S 64))) (ct_S S)) := by
  have h := hR.n (by omega)
  obtain ⟨n, hn⟩ : ∃ n, ls_n S 63 = n + 1 := ⟨ls_n S 63 - 1, by omega⟩
  have h1 := h.1
  have h2 := h.2.1
  rw [hn] at h1 h2
  refine mt_imp (sp_C_takeNext hq h2 (by omega)) ?_
  rintro v μ' ⟨rfl, rfl⟩
  refine ⟨_, ?_, rfl, ?_, fun c h0 h1 h2 => pt_o h0 h1 h2⟩
  · rw [(h.2.2.2 0 (by omega)).1]; rfl
  · unfold ct_S
    rw [hn]
    refine pr_set (by omega) (fun i hi => ?_)
    have e1 : cg_I (ν (q + 1)) 0 n i = ν (q + 1) (i + 1) := by unfold cg_I; rw [if_pos ⟨by omega, hi⟩]
    have e2 : cg_I (ν (q + 2)) 0 n i = ν (q + 2) (i + 1) := by unfold cg_I; rw [if_pos ⟨by omega, hi⟩]
    rw [e1, e2]
    exact h.2.2.2 (i + 1) (by omega)
theorem sp_C_insR {Γ : cx_T} {τ : Nat × (Nat → sh_T)} {ν : Nat → Nat → Int32} {q : Nat} {S : Nat → Int32} {x y : Int32} (hq : sh_Cm τ.2 q) (hR : PR ν q S 63 8) (hn8 : ls_n S 63 < 8) : mt_P Γ mk_C_insert [.ref q, .int x, .int y] (τ, ν) (pt_Q τ ν q 63 8 none (ci_S S x y)) := by
  have h := hR.n (by omega)
  have hu : pr_N (ν (q + 2)) y (ls_n S 63) 0 = pr_N (ls_V S 63) y (ls_n S 63) 0 := pr_cg _ _ (fun j _ hj => (h.2.2.2 j (by omega)).2)
  have hle := (pr_le (ls_V S 63) y (ls_n S 63) 0).2
  refine mt_imp (sp_C_insert hq h.2.1 hn8) ?_
  rintro v μ' ⟨rfl, rfl⟩
  refine ⟨_, rfl, rfl, ?_, fun c h0 h1 h2 => pt_o h0 h1 h2⟩
  unfold ci_S
  rw [hu]
  exact pr_set (by omega) (fun i hi => ⟨in_cg (fun j hj => (h.2.2.2 j hj).1) hi (by omega), in_cg (fun j hj => (h.2.2.2 j hj).2) hi (by omega)⟩)
