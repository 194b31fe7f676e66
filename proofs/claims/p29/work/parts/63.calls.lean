/-! p29: undo and keep; what is read; the greatest speed -/
section CALLS2
variable {Γ : cx_T} {τ : Nat × (Nat → sh_T)} {ν : Nat → Nat → Int32} {f : Nat} {X : Nat → Nat → Int32} {n : Nat}
/-- undo right behind a changing call -/
theorem da_undo {s : Nat} {T : Nat → Int32} (hf : sh_F τ.2 f) (hG : GP X n) (hs : s ≤ 6) (e0 : X 0 2 = nI s) (hT : WV T (n + 1)) (h : RL ν f (va_up (nt_X X) 1 T)) : mt_P Γ mk_F_undo [.ref f] (τ, ν) (fun v μ' => ∃ (m : Nat) (ν' Y : Nat → Nat → Int32), (m < 6 ∧ m + 1 = if s < 6 then s + 1 else 6) ∧ v = some (.int (nI m)) ∧ μ' = (τ, ν') ∧ RF ν f Y ν' ∧ Y 1 = X 1 ∧ Y 0 2 = nI m ∧ GP Y (n + 1)) := by
  obtain ⟨m, hm, e2, hl⟩ := nt_last hs e0
  have hG1 : GP (va_up (nt_X X) 1 T) (n + 1) := hG.w.nx ⟨s, hs, e0⟩ hT
  have e2' : va_up (nt_X X) 1 T 0 2 = nI (m + 1) := e2
  refine sp_F_undo hf h e2' hm.1 (fun ν' r => ?_)
  refine ⟨m, ν', va_up (up_2 (va_up (nt_X X) 1 T) 0 2 (nI m)) 1 (X 1), hm, rfl, rfl, r.eq fun j hj => (hl j hj).symm, va_up_self _ _ _, rfl, hG.1.w, hG1.2.1, fun m' hm' em j hj => ?_⟩
  have em : nI m = nI m' := em
  have e : m = m' := (nI_eq (by omega) (by omega)).mp em
  exact hG1.2.2 (m + 1) (by omega) e2' j (by omega)
theorem kb_2 : ∀ j : Nat, j < 4 → ∀ q : Nat, q < 2 → ¬ (nI j ||| 1 <<< (nI q &&& 31)) >>> (nI q &&& 31) &&& 1 = 0 := by decide +kernel
theorem da_keep {q : Nat} {i : Int32} (hf : sh_F τ.2 f) (h : RL ν f X) (hG : GP X n) (hi : i = nI q) (hq : q < 2) : mt_P Γ mk_F_keep [.ref f, .int i] (τ, ν) (fun v μ' => ∃ ν' Y : Nat → Nat → Int32, v = some (.int (X 1 6)) ∧ μ' = (τ, ν') ∧ RF ν f Y ν' ∧ Y 1 = X 1 ∧ Y 0 2 = X 0 2 ∧ GP Y n ∧ ¬ Y 0 4 >>> (nI q &&& 31) &&& 1 = 0) := by
  obtain ⟨z, hz, ez⟩ := h.2.1.2
  have hkb := kb_T z hz q hq
  have hk2 := kb_2 z hz q hq
  refine sp_F_keep hf h hi hq (fun ν' r => ?_)
  refine ⟨ν', _, rfl, rfl, r, rfl, rfl, ⟨hG.1, fun i hi hb => ?_, hG.2.2⟩, ?_⟩
  · show WV (fun j => pa_N (X 3) (80 * q) (X 1) 80 (80 * i + j)) _
    have hb : ¬ (X 0 4 ||| 1 <<< (nI q &&& 31)) >>> (nI i &&& 31) &&& 1 = 0 := hb
    rw [ez] at hb
    by_cases e : i = q
    · subst e
      refine hG.1.eq fun j hj => ?_
      unfold pa_N
      rw [if_pos (by omega), show 80 * i + j - 80 * i = j by omega]
    · refine (hG.2.1 i hi (by rw [ez]; exact fun y => hb ((hkb.2.2 i hi e).trans y))).eq fun j hj => ?_
      unfold pa_N
      rw [if_neg (by omega)]
  · show ¬ (X 0 4 ||| 1 <<< (nI q &&& 31)) >>> (nI q &&& 31) &&& 1 = 0
    rw [ez]; exact hk2
/-- what is read -/
theorem rc_count {k : Nat} {i : Int32} (hf : sh_F τ.2 f) (h : RL ν f X) (hi : i = nI k) (hk : k < 21) : mt_P Γ mk_F_count [.ref f, .int i] (τ, ν) (fun v μ' => v = some (.int (cc_N X k)) ∧ μ' = (τ, ν)) := by
  subst hi
  refine sp_F_count hf h (fun c => ?_) (fun j hj e => ?_)
  · rcases c with c | c
    · exact absurd c (nI_pos (by omega))
    · exact absurd c (nI_nlt (a := 20) (b := k) (by omega) (by omega))
  · rw [show j = k from ((nI_eq (by omega) (by omega)).mp e).symm]
    exact ⟨rfl, rfl⟩
theorem in_nIl {k a b : Nat} (hk : a ≤ k ∧ k ≤ b) (hb : b < 2 ^ 31) : ¬ in_I (nI k) (nI a) (nI b) = 0 := in_no (nI_nlt hk.1 (by omega)) (nI_nlt hk.2 hb)
theorem rc_account {k : Nat} {i : Int32} (hf : sh_F τ.2 f) (h : RL ν f X) (hi : i = nI k) (hk : k < 6) : mt_P Γ mk_F_account [.ref f, .int i] (τ, ν) (fun v μ' => v = some (.int (X 1 (12 + k))) ∧ μ' = (τ, ν)) := by
  subst hi
  refine sp_F_account hf h (fun c => absurd c (in_nIl (a := 0) (b := 5) (by omega) (by omega))) (fun j hj e _ => ?_)
  rw [show j = k from ((nI_eq (by omega) (by omega)).mp e).symm]
  exact ⟨rfl, rfl⟩
theorem rc_loadAt {x : Int32} (hf : sh_F τ.2 f) (h : RL ν f X) (hx : ¬ in_I x (-20000) 20000 = 0) : mt_P Γ mk_F_loadAt [.ref f, .int x] (τ, ν) (fun v μ' => v = some (.int (lo_S (X 1) x)) ∧ μ' = (τ, ν)) :=
  sp_F_loadAt hf h (fun c => absurd c hx) (fun _ => ⟨rfl, rfl⟩)
theorem rc_errorAt {x : Int32} (hf : sh_F τ.2 f) (h : RL ν f X) (hx : ¬ in_I x (-20000) 20000 = 0) : mt_P Γ mk_F_errorAt [.ref f, .int x] (τ, ν) (fun v μ' => v = some (.int (er_S (X 1) x)) ∧ μ' = (τ, ν)) :=
  sp_F_errorAt hf h (fun c => absurd c hx) (fun _ => ⟨rfl, rfl⟩)
def cd_V (S : Nat → Int32) (k z : Nat) : Int32 := if k < ls_n S 63 then S (64 + 2 * k + z) else -1000009
theorem rc_command {k z : Nat} {i w : Int32} (hf : sh_F τ.2 f) (h : RL ν f X) (hL : LK (X 1) 63 8) (hi : i = nI k) (hw : w = nI z) (hk : k < 1000) (hz : z < 2) : mt_P Γ mk_F_command [.ref f, .int i, .int w] (τ, ν) (fun v μ' => v = some (.int (cd_V (X 1) k z)) ∧ μ' = (τ, ν)) := by
  subst hi hw
  have h8 := hL.1
  refine sp_F_command hf h (fun c => ?_) (fun _ _ c => ?_) (fun j y e1 e2 hj hy _ c => ?_)
  · rcases c with c | c
    · exact absurd c (nI_pos (by omega))
    · exact absurd c (in_nIl (a := 0) (b := 1) (by omega) (by omega))
  · rw [hL.2] at c
    refine ⟨?_, rfl⟩
    unfold cd_V
    rw [if_neg (fun q => c (nI_lt q (by omega)))]
  · have ej : j = k := ((nI_eq (by omega) (by omega)).mp e1).symm
    have ey : y = z := ((nI_eq (by omega) (by omega)).mp e2).symm
    subst ej ey
    refine ⟨?_, rfl⟩
    unfold cd_V
    rw [if_pos hj]
def fg_V (S : Nat → Int32) (z : Nat) : Int32 := if S 18 = 0 then -1000009 else S (19 + z)
theorem rc_flag {z : Nat} {w : Int32} (hf : sh_F τ.2 f) (h : RL ν f X) (hw : w = nI z) (hz : z < 2) : mt_P Γ mk_F_flag [.ref f, .int w] (τ, ν) (fun v μ' => v = some (.int (fg_V (X 1) z)) ∧ μ' = (τ, ν)) := by
  subst hw
  refine sp_F_flag hf h (fun c => absurd c (in_nIl (a := 0) (b := 1) (by omega) (by omega))) (fun _ c => ?_) (fun j hj e _ c => ?_)
  · refine ⟨?_, rfl⟩
    unfold fg_V
    rw [if_pos c]
  · have ej : j = z := ((nI_eq (by omega) (by omega)).mp e).symm
    subst ej
    refine ⟨?_, rfl⟩
    unfold fg_V
    rw [if_neg c]
theorem rc_counter0 (hf : sh_F τ.2 f) (h : RL ν f X) : mt_P Γ mk_F_counter [.ref f, .int 0] (τ, ν) (fun v μ' => v = some (.int (X 1 6)) ∧ μ' = (τ, ν)) :=
  sp_F_counter hf h (fun c => absurd c (by decide)) (fun _ => ⟨rfl, rfl⟩)
theorem rc_counter1 (hf : sh_F τ.2 f) (h : RL ν f X) : mt_P Γ mk_F_counter [.ref f, .int 1] (τ, ν) (fun v μ' => v = some (.int (X 1 7 + X 1 9 + X 1 10 + X 1 11)) ∧ μ' = (τ, ν)) :=
  sp_F_counter hf h (fun c => absurd c (by decide)) (fun _ => ⟨rfl, rfl⟩)
/-- without a stall nothing is lost -/
theorem ms_10n {S : Nat → Int32} {d : Int32} (h : ¬ St S) : ms_S S d 10 = S 10 := by rw [ms_n h]; rfl
theorem fi_10 {d : Int32} : ∀ (k : Nat) (S : Nat → Int32), 0 ≤ (S 13).toInt → (S 13).toInt + k ≤ 2147483647 → (fi_S d k S 13).toInt ≤ (S 13).toInt → fi_S d k S 10 = S 10
  | 0, S, _, _, _ => rfl
  | k + 1, S, h0, h1, h2 => by
    rw [fi_s] at h2 ⊢
    by_cases h : St S
    · have e : (ms_S S d 13).toInt = (S 13).toInt + 1 := by
        rw [ms_13y h, ti_add (by show _ ≤ _ + (1 : Int) ∧ _ + (1 : Int) ≤ _; omega)]; rfl
      have := fi_13 (d := d) k (ms_S S d) (by omega) (by omega)
      omega
    · have e : (ms_S S d 13).toInt = (S 13).toInt := by rw [ms_13n h]
      rw [fi_10 k (ms_S S d) (by omega) (by omega) (by omega), ms_10n h]
theorem fs_sa {S : Nat → Int32} {x : Int32} : ∀ k : Nat, ¬ fs_N S x k = 0 → sa_I S x (nI (50 * fs_N S x k)) = 0
  | 0, h => absurd rfl h
  | k + 1, h => by
    unfold fs_N at h ⊢
    by_cases c : sa_I S x (nI (50 * (k + 1))) = 0
    · rw [if_pos c]; exact c
    · rw [if_neg c] at h ⊢
      exact fs_sa k h
def FS (S : Nat → Int32) (x r : Int32) : Prop := ¬ in_I (am_S S x) (-20000) 20000 = 0 ∧ ¬ in_I r 1 1000 = 0 ∧ mo_S (upd S 2 r) x 10 = S 10
theorem da_fastest (hf : sh_F τ.2 f) (h : RL ν f X) (hG : WV (X 1) n) (hn : n ≤ 40) {x : Int32} (hx : -400 ≤ x.toInt ∧ x.toInt ≤ 400) : mt_P Γ mk_F_fastest [.ref f, .int x] (τ, ν) (fun v μ' => ∃ (r : Int32) (ν' : Nat → Nat → Int32), v = some (.int r) ∧ μ' = (τ, ν') ∧ RF ν f X ν' ∧ (r ≤ 0 ∨ (r - r / 50 * 50 = 0 ∧ FS (X 1) x r))) := by
  have hI := hG.1.1
  have ea := hI.ai (x := x) (by omega)
  refine sp_F_fastest hf h (fun _ => ⟨_, ν, rfl, rfl, RF.id h, Or.inl (by decide)⟩) (fun _ _ => ⟨_, ν, rfl, rfl, RF.id h, Or.inl (by decide)⟩) (fun _ d ν' r => ⟨_, ν', rfl, rfl, r, ?_⟩)
  rw [ea] at d
  have hv := hI.fs (by omega) (by omega) d 20
  have hs := fs_sa (S := X 1) (x := x) 20
  rw [← hv]
  have hle := cf_le (S := X 1) (H := (tv_S (upd (upd (X 1) 1 200) 3 0) x).2) 20
  rw [← hv] at hle
  generalize fs_N (X 1) x 20 = c at hs hle ⊢
  by_cases z : c = 0
  · rw [if_pos z]; exact Or.inl (by decide)
  · rw [if_neg z]
    have hs := hs z
    refine Or.inr ⟨?_, d, ?_, ?_⟩
    · rw [show (50 : Int32) = nI 50 from rfl, pk_rem (by omega) (by omega) (by omega), show 50 * c % 50 = 0 by omega]; rfl
    · exact in_nIl (a := 1) (b := 1000) (by omega) (by omega)
    · have hr : ¬ in_I (nI (50 * c)) 1 1000 = 0 := in_nIl (a := 1) (b := 1000) (by omega) (by omega)
      generalize nI (50 * c) = v at hs hr ⊢
      have h13 : ¬ X 1 13 < mo_S (upd (X 1) 2 v) x 13 := fun q => by
        unfold sa_I at hs
        rw [if_pos q] at hs
        exact absurd hs (by decide)
      have hI2 : IV (upd (X 1) 2 v) (700000 * (n : Int)) := hI.nu (k := 2) (by omega) hr
      obtain ⟨c9, hb⟩ := hI2.2.2.1
      have hc : c9 ≤ 700000 * (n : Int) := by have := hb.2.2; omega
      have hc0 : 0 ≤ c9 := by have := hb.1; omega
      have e2 : am_S (upd (X 1) 2 v) x = am_S (X 1) x := am_cg fun j hj => ud_ne (by omega)
      have hE := hI2.ai (x := x) (by omega)
      obtain ⟨d9, k, s0, hd, h0, g1, g2, g3, g4⟩ := tv_mo (hI2.M hb) hE (by rw [hE, e2]; exact d) hb.1 (by omega)
      have hks : k ≤ k * s0 := Nat.le_mul_of_pos_right k (by omega)
      have e := g1 _ rfl rfl rfl
      rw [e] at h13 ⊢
      rw [ti_lt] at h13
      have j13 : 0 ≤ (X 1 13).toInt ∧ (X 1 13).toInt ≤ 3000000 * (n : Int) := by
        have := hG.1.2.1
        unfold JV at this
        omega
      exact fi_10 k _ j13.1 (by show (X 1 13).toInt + _ ≤ _; omega) (by show _ ≤ (X 1 13).toInt; omega)
theorem da_losses (hf : sh_F τ.2 f) (h : RL ν f X) (hG : WV (X 1) n) (hn : n ≤ 40) (hs : st_P Γ τ ν) {x r : Int32} (hx : -400 ≤ x.toInt ∧ x.toInt ≤ 400) (hr : FS (X 1) x r) : mt_P Γ mk_F_losses [.ref f, .int x, .int r] (τ, ν) (fun v μ' => ∃ ν' : Nat → Nat → Int32, v = some (.int 0) ∧ μ' = (τ, ν') ∧ RF ν f X ν') := by
  have hI := hG.1.1
  obtain ⟨r1, r2, r3⟩ := hr
  have ea := hI.ai (x := x) (by omega)
  have hin : ¬ in_I x (-20000) 20000 = 0 := in_no (by rw [ti_lt]; show ¬ _ < (-20000 : Int); omega) (by rw [ti_lt]; show ¬ (20000 : Int) < _; omega)
  refine sp_F_losses hf h hs (fun c => c.elim (fun c => absurd c hin) (fun c => absurd c r2)) (fun _ _ c => absurd (by rw [← ea]; exact c) r1) (fun _ _ _ ν' q => ⟨ν', ?_, rfl, q⟩)
  have hI2 : IV (upd (X 1) 2 r) (700000 * (n : Int)) := hI.nu (k := 2) (by omega) r2
  have e2 : am_S (upd (X 1) 2 r) x = am_S (X 1) x := am_cg fun j hj => ud_ne (by omega)
  have hv := (hI2.mv (x := x) (by omega) (by omega) (by rw [e2]; exact r1)).2
  rw [hv, r3, Int32.sub_self]
end CALLS2
