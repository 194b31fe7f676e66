/-! p29: the states that are held anywhere; what each changing call makes of them -/
theorem in20 {x : Int32} (h : ¬ in_I x (-20000) 20000 = 0) : -20000 ≤ x.toInt ∧ x.toInt ≤ 20000 := by
  have z := in_rg h
  rw [show (-20000 : Int32).toInt = -20000 by decide, show (20000 : Int32).toInt = 20000 by decide] at z
  exact z
theorem EV.r {S T : Nat → Int32} (h : ls_n S 21 ≤ 10 ∧ ls_n S 42 ≤ 10 ∧ ls_n S 63 ≤ 8) (e : ∀ j : Nat, j < 80 → T j = S j) : EV T S :=
  ⟨fun j hj => e j (by omega), EL.of h.1 fun j h1 h2 => e j (by omega), EL.of h.2.1 fun j h1 h2 => e j (by omega), EL.of h.2.2 fun j h1 h2 => e j (by omega)⟩
theorem IV.eq {S T : Nat → Int32} {K : Int} (h : IV S K) (e : ∀ j : Nat, j < 80 → T j = S j) : IV T K := h.ev (EV.r ⟨h.lk.1.1, h.lk.2.1.1, h.lk.2.2.1⟩ e).sy
theorem WQ.eq {S T : Nat → Int32} {K N M : Int} (h : WQ S K N M) (e : ∀ j : Nat, j < 80 → T j = S j) : WQ T K N M :=
  h.cg (h.1.eq e) (h.2.2.2.2.1.cg h.1.lk.2.2.1 fun j a b => e j (by omega)) fun j hj => e j (by omega)
def NU (S : Nat → Int32) : Prop := (S 1).toInt ≤ 1000 ∧ (S 2).toInt ≤ 1000 ∧ (S 3).toInt ≤ 1000
def WV (S : Nat → Int32) (n : Nat) : Prop := WQ S (700000 * (n : Int)) (3000000 * (n : Int)) (5000 * ((n : Int) + 1)) ∧ NU S
theorem WV.w {S : Nat → Int32} {n : Nat} (h : WV S n) : WV S (n + 1) := ⟨h.1.w (by omega) (by omega) (by omega), h.2⟩
theorem WV.eq {S T : Nat → Int32} {n : Nat} (h : WV S n) (e : ∀ j : Nat, j < 80 → T j = S j) : WV T n := ⟨h.1.eq e, by
  unfold NU at *
  rw [e 1 (by omega), e 2 (by omega), e 3 (by omega)]; exact h.2⟩
def GP (X : Nat → Nat → Int32) (n : Nat) : Prop := WV (X 1) n ∧ (∀ i : Nat, i < 2 → ¬ X 0 4 >>> (nI i &&& 31) &&& 1 = 0 → WV (fun j => X 3 (80 * i + j)) n) ∧ ∀ m : Nat, m ≤ 6 → X 0 2 = nI m → ∀ j : Nat, j < m → WV (fun i => X 2 (80 * j + i)) n
theorem GP.w {X : Nat → Nat → Int32} {n : Nat} (h : GP X n) : GP X (n + 1) := ⟨h.1.w, fun i hi hb => (h.2.1 i hi hb).w, fun m hm e j hj => (h.2.2 m hm e j hj).w⟩
/-- a state saved, another one made -/
theorem GP.nx {X : Nat → Nat → Int32} {T : Nat → Int32} {n : Nat} (h : GP X n) (hp : PS X) (hT : WV T n) : GP (va_up (nt_X X) 1 T) n := by
  obtain ⟨n0, hn0, e0⟩ := hp
  have e3 : nt_X X 3 = X 3 := nt_o (by omega) (by omega)
  have e04 : nt_X X 0 4 = X 0 4 := nt_j (by omega)
  refine ⟨hT, ?_, fun n hn e j hj => ?_⟩
  · show ∀ i : Nat, i < 2 → ¬ nt_X X 0 4 >>> (nI i &&& 31) &&& 1 = 0 → WV (fun j => nt_X X 3 (80 * i + j)) _
    rw [e3, e04]
    exact fun i hi hb => h.2.1 i hi hb
  · have e : nt_X X 0 2 = nI n := e
    show WV (fun i => nt_X X 2 (80 * j + i)) _
    by_cases c : X 0 2 = 6
    · have hn6 : n0 = 6 := (nI_eq (b := 6) (by omega) (by omega)).mp (e0.symm.trans c)
      subst hn6
      have ex : nt_X X = up_2 (va_up X 2 (pa_N (cp_N (fun k => X 2 (k + 80)) (X 2) 400) 400 (X 1) 80)) 0 2 (nI 6) := if_pos c
      rw [ex] at e ⊢
      have en : n = 6 := (nI_eq (b := 6) (by omega) (by omega)).mp e.symm
      by_cases hj5 : j = 5
      · subst hj5
        refine h.1.eq fun i hi => ?_
        show pa_N _ 400 (X 1) 80 (80 * 5 + i) = X 1 i
        unfold pa_N
        rw [if_pos (by omega), show 80 * 5 + i - 400 = i by omega]
      · refine (h.2.2 6 (by omega) e0 (j + 1) (by omega)).eq fun i hi => ?_
        show pa_N (cp_N (fun k => X 2 (k + 80)) (X 2) 400) 400 (X 1) 80 (80 * j + i) = X 2 (80 * (j + 1) + i)
        unfold pa_N cp_N
        rw [if_neg (by omega), if_pos (by omega)]
        show X 2 (80 * j + i + 80) = _
        rw [show 80 * j + i + 80 = 80 * (j + 1) + i by omega]
    · have hn6 : ¬ n0 = 6 := fun q => c (by rw [e0, q]; rfl)
      have ex : nt_X X = up_2 (va_up X 2 (pa_N (X 2) (80 * (X 0 2).toNatClampNeg) (X 1) 80)) 0 2 (X 0 2 + 1) := if_neg c
      rw [ex] at e ⊢
      have e : X 0 2 + 1 = nI n := e
      rw [e0, nI_1] at e
      have en : n = n0 + 1 := (nI_eq (by omega) (by omega)).mp e.symm
      have hcl : (X 0 2).toNatClampNeg = n0 := by rw [e0, nI_clamp (by omega)]
      by_cases hjn : j = n0
      · subst hjn
        refine h.1.eq fun i hi => ?_
        show pa_N (X 2) (80 * (X 0 2).toNatClampNeg) (X 1) 80 (80 * j + i) = X 1 i
        rw [hcl]
        unfold pa_N
        rw [if_pos (by omega), show 80 * j + i - 80 * j = i by omega]
      · refine (h.2.2 n0 hn0 e0 j (by omega)).eq fun i hi => ?_
        show pa_N (X 2) (80 * (X 0 2).toNatClampNeg) (X 1) 80 (80 * j + i) = X 2 (80 * j + i)
        rw [hcl]
        unfold pa_N
        rw [if_neg (by omega)]
/-- how many states are saved then, and what the last of them is -/
theorem nt_last {X : Nat → Nat → Int32} {s : Nat} (hs : s ≤ 6) (e0 : X 0 2 = nI s) : ∃ m : Nat, (m < 6 ∧ m + 1 = if s < 6 then s + 1 else 6) ∧ nt_X X 0 2 = nI (m + 1) ∧ ∀ i : Nat, i < 80 → nt_X X 2 (80 * m + i) = X 1 i := by
  by_cases c : X 0 2 = 6
  · have hn6 : s = 6 := (nI_eq (b := 6) (by omega) (by omega)).mp (e0.symm.trans c)
    subst hn6
    have ex : nt_X X = up_2 (va_up X 2 (pa_N (cp_N (fun k => X 2 (k + 80)) (X 2) 400) 400 (X 1) 80)) 0 2 (nI 6) := if_pos c
    refine ⟨5, by decide, by rw [ex]; rfl, fun i hi => ?_⟩
    rw [ex]
    show pa_N _ 400 (X 1) 80 (80 * 5 + i) = X 1 i
    unfold pa_N
    rw [if_pos (by omega), show 80 * 5 + i - 400 = i by omega]
  · have hn6 : ¬ s = 6 := fun q => c (by rw [e0, q]; rfl)
    have ex : nt_X X = up_2 (va_up X 2 (pa_N (X 2) (80 * (X 0 2).toNatClampNeg) (X 1) 80)) 0 2 (X 0 2 + 1) := if_neg c
    have hcl : (X 0 2).toNatClampNeg = s := by rw [e0, nI_clamp (by omega)]
    refine ⟨s, ⟨by omega, by rw [if_pos (by omega)]⟩, ?_, fun i hi => ?_⟩
    · rw [ex]
      show X 0 2 + 1 = _
      rw [e0, nI_1]
    · rw [ex]
      show pa_N (X 2) (80 * (X 0 2).toNatClampNeg) (X 1) 80 (80 * s + i) = X 1 i
      rw [hcl]
      unfold pa_N
      rw [if_pos (by omega), show 80 * s + i - 80 * s = i by omega]
/-- what a changing call makes: an error and nothing else, or a state saved and another one made -/
def DR (X : Nat → Nat → Int32) (n : Nat) (r : Int32) (X1 : Nat → Nat → Int32) : Prop := (-1000009 ≤ r.toInt ∧ r.toInt ≤ -1000001 ∧ X1 = X) ∨ (-400000 ≤ r.toInt ∧ r.toInt ≤ 1000000 ∧ ∃ T : Nat → Int32, X1 = va_up (nt_X X) 1 T ∧ WV T (n + 1))
def DQ (τ : Nat × (Nat → sh_T)) (ν : Nat → Nat → Int32) (f : Nat) (X : Nat → Nat → Int32) (n : Nat) : Option Value → mm_T → Prop := fun v μ' => ∃ (r : Int32) (X1 ν' : Nat → Nat → Int32), v = some (.int r) ∧ μ' = (τ, ν') ∧ RF ν f X1 ν' ∧ DR X n r X1
theorem DQ.rd {τ : Nat × (Nat → sh_T)} {ν ν' X : Nat → Nat → Int32} {f n : Nat} {r : Int32} (h : RF ν f X ν') (hr : -1000009 ≤ r.toInt ∧ r.toInt ≤ -1000001) : DQ τ ν f X n (some (.int r)) (τ, ν') := ⟨r, X, ν', rfl, rfl, h, Or.inl ⟨hr.1, hr.2, rfl⟩⟩
theorem DQ.up {τ : Nat × (Nat → sh_T)} {ν ν' X : Nat → Nat → Int32} {f n : Nat} {T : Nat → Int32} {r : Int32} (h : RF ν f (va_up (nt_X X) 1 T) ν') (hr : -400000 ≤ r.toInt ∧ r.toInt ≤ 1000000) (hT : WV T (n + 1)) : DQ τ ν f X n (some (.int r)) (τ, ν') := ⟨r, _, ν', rfl, rfl, h, Or.inr ⟨hr.1, hr.2, T, rfl, hT⟩⟩
theorem e_1 : -1000009 ≤ (-1000001 : Int32).toInt ∧ (-1000001 : Int32).toInt ≤ -1000001 := by decide
theorem e_2 : -1000009 ≤ (-1000002 : Int32).toInt ∧ (-1000002 : Int32).toInt ≤ -1000001 := by decide
theorem e_3 : -1000009 ≤ (-1000003 : Int32).toInt ∧ (-1000003 : Int32).toInt ≤ -1000001 := by decide
theorem e_9 : -1000009 ≤ (-1000009 : Int32).toInt ∧ (-1000009 : Int32).toInt ≤ -1000001 := by decide
section CALLS
variable {Γ : cx_T} {τ : Nat × (Nat → sh_T)} {ν : Nat → Nat → Int32} {f : Nat} {X : Nat → Nat → Int32} {n : Nat}
theorem WV.nu {S : Nat → Int32} {k : Nat} {x : Int32} (h : WV S n) (hk : k < 6) (hx : ¬ nm_N k x = 0) : WV (upd S k x) n := by
  obtain ⟨⟨h1, h2, h3, h4, h5, h6⟩, h7⟩ := h
  have o : ∀ j : Nat, 6 ≤ j → upd S k x j = S j := fun j hj => ud_ne (by omega)
  refine ⟨⟨h1.nu hk hx, h2.cg fun j a b => o j (by omega), ?_, ?_, h5.cg h1.lk.2.2.1 fun j a b => o j (by omega), ?_⟩, ?_⟩
  · unfold LB at *
    rw [o 7 (by omega), o 10 (by omega), o 11 (by omega)]; exact h3
  · unfold FB at *
    rw [o 18 (by omega), o 19 (by omega), o 20 (by omega)]; exact h4
  · unfold NB at *
    match k, hk, hx with
    | 0, _, _ => exact h6
    | 1, _, hx =>
      have z := (in_rg (show ¬ in_I x 0 200 = 0 from hx)).1
      exact ⟨z, h6.2.1, h6.2.2⟩
    | 2, _, hx =>
      have z : (1 : Int) ≤ x.toInt := (in_rg (show ¬ in_I x 1 1000 = 0 from hx)).1
      exact ⟨h6.1, by show 0 ≤ x.toInt; omega, h6.2.2⟩
    | 3, _, hx =>
      have z := (in_rg (show ¬ in_I x 0 100 = 0 from hx)).1
      exact ⟨h6.1, h6.2.1, z⟩
    | 4, _, _ => exact h6
    | 5, _, _ => exact h6
  · unfold NU at *
    match k, hk, hx with
    | 0, _, _ => exact h7
    | 1, _, hx =>
      have z : x.toInt ≤ (200 : Int) := (in_rg (show ¬ in_I x 0 200 = 0 from hx)).2
      exact ⟨by show x.toInt ≤ 1000; omega, h7.2.1, h7.2.2⟩
    | 2, _, hx =>
      have z : x.toInt ≤ (1000 : Int) := (in_rg (show ¬ in_I x 1 1000 = 0 from hx)).2
      exact ⟨h7.1, z, h7.2.2⟩
    | 3, _, hx =>
      have z : x.toInt ≤ (100 : Int) := (in_rg (show ¬ in_I x 0 100 = 0 from hx)).2
      exact ⟨h7.1, h7.2.1, by show x.toInt ≤ 1000; omega⟩
    | 4, _, _ => exact h7
    | 5, _, _ => exact h7
theorem WV.rg {S : Nat → Int32} {k : Nat} (h : WV S n) (hk : k < 6) : 0 ≤ (S k).toInt ∧ (S k).toInt ≤ 1000 := by
  obtain ⟨⟨h1, h2, h3, h4, h5, h6⟩, h7⟩ := h
  have i1 := h1.1
  unfold NB at h6
  unfold NU at h7
  rcases (show k = 0 ∨ k = 1 ∨ k = 2 ∨ k = 3 ∨ k = 4 ∨ k = 5 by omega) with rfl | rfl | rfl | rfl | rfl | rfl <;> omega
theorem da_setNumber (hf : sh_F τ.2 f) (h : RL ν f X) (hG : WV (X 1) n) (hs : st_P Γ τ ν) {i x : Int32} : mt_P Γ mk_F_setNumber [.ref f, .int i, .int x] (τ, ν) (DQ τ ν f X n) :=
  sp_F_setNumber hf h hs (fun _ => DQ.rd (RF.id h) e_1) (fun k hk e c ν' r => by
    have z := hG.rg hk
    refine DQ.up r ⟨by omega, by omega⟩ (hG.nu hk ?_).w
    rw [← nm_k hk, ← e]; exact c)
theorem WV.o {S T : Nat → Int32} {K : Int} (h : WV S n) (hI : IV T K) (hK : K ≤ 700000 * (n : Int)) (hC : CB T) (e : ∀ j : Nat, (1 ≤ j ∧ j ≤ 3) ∨ (6 ≤ j ∧ j ≤ 20) → T j = S j) : WV T n := ⟨h.1.cg (hI.w hK) hC e, by
  have h7 := h.2
  unfold NU at *
  rw [e 1 (by omega), e 2 (by omega), e 3 (by omega)]; exact h7⟩
theorem WV.mp {S : Nat → Int32} {b : Nat} {x v : Int32} (h : WV S n) (hb : (b = 21 ∧ 0 ≤ v.toInt ∧ v.toInt ≤ 200) ∨ (b = 42 ∧ -99 ≤ v.toInt ∧ v.toInt ≤ 99)) (hx : -20000 ≤ x.toInt ∧ x.toInt ≤ 20000) (hr : ¬ ha_S S b x = 0 ∨ ls_n S b < 10) : WV (mp_S S b x v) n := by
  have hI := h.1.1
  have hn : ls_n S b ≤ 10 := by
    rcases hb with ⟨rfl, _⟩ | ⟨rfl, _⟩
    · exact hI.lk.1.1
    · exact hI.lk.2.1.1
  have o : ∀ j : Nat, (j < b ∨ b + 20 < j) → mp_S S b x v j = S j := fun j hj => mp_o hr hn hj
  exact h.o (hI.mp hb hx hr) (Int.le_refl _) (h.1.2.2.2.2.1.cg hI.lk.2.2.1 fun j a c => o j (by omega)) fun j hj => o j (by omega)
theorem WV.mr {S : Nat → Int32} {b : Nat} {x : Int32} (h : WV S n) (hb : b = 21 ∨ b = 42) : WV (mr_S S b x) n := by
  have hI := h.1.1
  have hn : ls_n S b ≤ 10 := by
    rcases hb with rfl | rfl
    · exact hI.lk.1.1
    · exact hI.lk.2.1.1
  have o : ∀ j : Nat, (j < b ∨ b + 20 < j) → mr_S S b x j = S j := fun j hj => mr_o hn hj
  exact h.o (hI.mr hb) (Int.le_refl _) (h.1.2.2.2.2.1.cg hI.lk.2.2.1 fun j a c => o j (by omega)) fun j hj => o j (by omega)
theorem pv_rg {S : Nat → Int32} {b : Nat} {x e : Int32} {lo hi : Int} (h : VL S b lo hi) (hl : -400000 ≤ lo) (hh : hi ≤ 1000000) (he : -400000 ≤ e.toInt ∧ e.toInt ≤ 1000000) : -400000 ≤ (if ha_S S b x = 0 then e else ls_V S b (ut_S S b x - 1)).toInt ∧ (if ha_S S b x = 0 then e else ls_V S b (ut_S S b x - 1)).toInt ≤ 1000000 := by
  by_cases c : ha_S S b x = 0
  · rw [if_pos c]; exact he
  · rw [if_neg c]
    obtain ⟨k, hk, _⟩ := ha_k c
    have hu : ut_S S b x ≤ ls_n S b := ut_S_le
    have := (h.2.2 (ut_S S b x - 1) (by omega)).2
    omega
theorem da_setLoad (hf : sh_F τ.2 f) (h : RL ν f X) (hG : WV (X 1) n) {x y : Int32} : mt_P Γ mk_F_setLoad [.ref f, .int x, .int y] (τ, ν) (DQ τ ν f X n) := by
  have hI := hG.1.1
  have hne : ∀ i : Nat, i < ls_n (X 1) 21 → ¬ ls_V (X 1) 21 i = -1 := fun i hi q => by
    have z := (hI.2.2.2.2.1.2.2 i hi).2
    rw [q] at z
    revert z
    decide
  have pv := pv_rg (x := x) (e := -1) hI.2.2.2.2.1 (by omega) (by omega) (by decide)
  refine sp_F_setLoad hf h hne (fun _ => DQ.rd (RF.id h) e_1) (fun _ _ _ _ => DQ.rd (RF.id h) e_2) (fun c0 c1 d a ν' r => DQ.up (r.ev (rp_EV (Or.inl rfl) hI.lk.1 hI.lk.2.1 hI.lk.2.2)) pv (hG.mr (Or.inl rfl)).w) (fun _ _ _ _ => DQ.rd (RF.id h) e_3) (fun c0 c1 d hr ν' r => ?_)
  have z := in_rg c1
  rw [show (-1 : Int32).toInt = -1 by decide, show (200 : Int32).toInt = 200 by decide] at z
  rw [ti_eq, show (-1 : Int32).toInt = -1 by decide] at d
  exact DQ.up (r.ev (pp_EV (Or.inl rfl) hI.lk.1 hI.lk.2.1 hI.lk.2.2 (hr_o hr))) pv (hG.mp (Or.inl ⟨rfl, by omega, by omega⟩) (in20 c0) (hr_o hr)).w
theorem da_setComb (hf : sh_F τ.2 f) (h : RL ν f X) (hG : WV (X 1) n) {x y : Int32} : mt_P Γ mk_F_setComb [.ref f, .int x, .int y] (τ, ν) (DQ τ ν f X n) := by
  have hI := hG.1.1
  have hne : ∀ i : Nat, i < ls_n (X 1) 42 → ¬ ls_V (X 1) 42 i = 100 := fun i hi q => by
    have z := (hI.2.2.2.2.2.1.2.2 i hi).2
    rw [q] at z
    revert z
    decide
  have pv := pv_rg (x := x) (e := 100) hI.2.2.2.2.2.1 (by omega) (by omega) (by decide)
  refine sp_F_setComb hf h hne (fun _ => DQ.rd (RF.id h) e_1) (fun _ _ _ _ => DQ.rd (RF.id h) e_2) (fun c0 c1 d a ν' r => DQ.up (r.ev (rp_EV (Or.inr rfl) hI.lk.1 hI.lk.2.1 hI.lk.2.2)) pv (hG.mr (Or.inr rfl)).w) (fun _ _ _ _ => DQ.rd (RF.id h) e_3) (fun c0 c1 d hr ν' r => ?_)
  have z := in_rg c1
  rw [show (-99 : Int32).toInt = -99 by decide, show (100 : Int32).toInt = 100 by decide] at z
  rw [ti_eq, show (100 : Int32).toInt = 100 by decide] at d
  exact DQ.up (r.ev (pp_EV (Or.inr rfl) hI.lk.1 hI.lk.2.1 hI.lk.2.2 (hr_o hr))) pv (hG.mp (Or.inr ⟨rfl, by omega, by omega⟩) (in20 c0) (hr_o hr)).w
theorem da_setFlag (hf : sh_F τ.2 f) (h : RL ν f X) (hG : WV (X 1) n) {x y : Int32} (hx : -500 ≤ x.toInt ∧ x.toInt ≤ 500) (hy : -500 ≤ y.toInt ∧ y.toInt ≤ 500) : mt_P Γ mk_F_setFlag [.ref f, .int x, .int y] (τ, ν) (DQ τ ν f X n) := by
  refine sp_F_setFlag hf h (fun _ => DQ.rd (RF.id h) e_1) (fun c0 c1 c2 ν' r => DQ.up r ?_ (WV.w ?_))
  · rcases hG.1.1.2.2.2.1.1 with e | e <;> rw [e] <;> decide
  · obtain ⟨⟨h1, h2, h3, h4, h5, h6⟩, h7⟩ := hG
    exact ⟨⟨h1.fl (in20 c0) (in20 c1), h2, h3, fun _ => ⟨hx, hy⟩, h5.cg h1.lk.2.2.1 fun j a b => by rw [ud_ne (by omega), ud_ne (by omega), ud_ne (by omega)], h6⟩, h7⟩
theorem da_moveTo (hf : sh_F τ.2 f) (h : RL ν f X) (hG : WV (X 1) n) (hn : n ≤ 33) {x : Int32} (hx : -400 ≤ x.toInt ∧ x.toInt ≤ 400) : mt_P Γ mk_F_moveTo [.ref f, .int x] (τ, ν) (DQ τ ν f X n) := by
  have hI := hG.1.1
  refine sp_F_moveTo hf h (fun _ => DQ.rd (RF.id h) e_1) (fun _ _ => DQ.rd (RF.id h) e_2) (fun c d ν' r => ?_)
  have ea := hI.ai (x := x) (by omega)
  rw [ea] at d
  have hv := hI.mv (by omega) (by omega) d
  rw [hv.2] at r ⊢
  have hm := hG.1.mv (by omega) (by omega) ⟨by omega, by omega⟩ hx d
  have e11 : mo_S (X 1) x 11 = X 1 11 := mo_o (by omega)
  have l1 := hm.2.2.1.2
  have l2 := hG.1.2.2.1.2
  have e : mo_S (X 1) x 10 - X 1 10 = (mo_S (X 1) x 10 + mo_S (X 1) x 11) - (X 1 10 + X 1 11) := by rw [e11]; grind
  refine DQ.up r ?_ ⟨hm.w (by omega) (by omega) (by omega), ?_⟩
  · rw [e, ti_sub (by omega)]; omega
  · have h7 := hG.2
    unfold NU at *
    rw [mo_o (by omega), mo_o (by omega), mo_o (by omega)]; exact h7
theorem CB.ci {S : Nat → Int32} {x y : Int32} (h : CB S) (hn : ls_n S 63 < 8) (hx : -400 ≤ x.toInt ∧ x.toInt ≤ 400) : CB (ci_S S x y) := by
  have hle := (pr_le (ls_V S 63) y (ls_n S 63) 0).2
  intro i hi
  have en : ls_n (ci_S S x y) 63 = ls_n S 63 + 1 := by
    unfold ci_S
    rw [rw_n (by omega)]
  rw [en] at hi
  unfold ci_S
  rw [rw_P hi]
  rcases in_cases (g := ls_P S 63) (x := x) (u := pr_N (ls_V S 63) y (ls_n S 63) 0) hi (by omega) with ⟨q, e⟩ | ⟨q, e⟩ | ⟨q, e⟩ <;> rw [e]
  · exact h i (by omega)
  · exact hx
  · exact h (i - 1) (by omega)
theorem da_addCommand (hf : sh_F τ.2 f) (h : RL ν f X) (hG : WV (X 1) n) {x y : Int32} (hx : -400 ≤ x.toInt ∧ x.toInt ≤ 400) : mt_P Γ mk_F_addCommand [.ref f, .int x, .int y] (τ, ν) (DQ τ ν f X n) := by
  have hI := hG.1.1
  refine sp_F_addCommand hf h (fun _ => DQ.rd (RF.id h) e_1) (fun _ _ _ => DQ.rd (RF.id h) e_3) (fun c0 c1 d ν' r => ?_)
  have ev := ci_EV (x := x) (y := y) hI.lk.1 hI.lk.2.1 hI.2.2.2.2.2.2 d
  have ec : ci_S (X 1) x y 63 = nI (ls_n (X 1) 63 + 1) := by unfold ci_S; rw [rw_b]
  refine DQ.up (r.ev ev) ?_ (WV.w ?_)
  · rw [ec, nI_toInt (by omega)]; omega
  · exact hG.o (hI.ca (in20 c0) d) (Int.le_refl _) ((hG.1.2.2.2.2.1.ci d hx).el ev.2.2.2) fun j hj => ca_o (pq_le _) (by omega)
theorem da_run (hf : sh_F τ.2 f) (h : RL ν f X) (hG : WV (X 1) n) (hn : n ≤ 33) {c : Int32} {k : Nat} (hk : k ≤ 3) (hc : c = nI k) : mt_P Γ mk_F_run [.ref f, .int c] (τ, ν) (DQ τ ν f X n) := by
  have hI := hG.1.1
  refine sp_F_run hf h hI (by omega) (fun _ => DQ.rd (RF.id h) e_1) (fun _ _ => DQ.rd (RF.id h) e_2) (fun j hj e _ _ ν' r => ?_)
  have ek : j = k := (nI_eq (by omega) (by omega)).mp (e.symm.trans hc)
  subst ek
  have hw := WQ.rn j (X 1) _ _ _ hG.1 (by omega) (by omega) (by omega) (by omega)
  have h63 := hw.1.lk.2.2
  refine DQ.up r ?_ ⟨hw.w (by omega) (by omega) (by omega), ?_⟩
  · rw [h63.2, nI_toInt (by have := h63.1; omega)]
    have := h63.1
    omega
  · have h7 := hG.2
    have key : ∀ (c : Nat) (S : Nat → Int32), NU S → NU (rn_S c S) := by
      intro c
      induction c with
      | zero => intro S hS; exact hS
      | succ c ih =>
        intro S hS
        unfold rn_S
        split
        · exact hS
        · refine ih _ ?_
          have o : ∀ i : Nat, i < 6 → ro_S S i = S i := fun i hi => by
            unfold ro_S
            split
            · exact cd_o (by omega)
            · rw [mo_o (by omega)]; exact cd_o (by omega)
          unfold NU at *
          rw [o 1 (by omega), o 2 (by omega), o 3 (by omega)]; exact hS
    exact key j _ h7
theorem da_correct (hf : sh_F τ.2 f) (h : RL ν f X) (hG : WV (X 1) n) (hn : n ≤ 33) {x : Int32} (hx : -1000 ≤ x.toInt ∧ x.toInt ≤ 1000) : mt_P Γ mk_F_correct [.ref f, .int x] (τ, ν) (DQ τ ν f X n) := by
  have hI := hG.1.1
  have hc := hG.1.c (by omega)
  have h9 := hI.2.1.1
  obtain ⟨l1, l2⟩ := hG.1.2.2.1
  refine sp_F_correct hf h (fun _ => DQ.rd (RF.id h) e_1) (fun _ _ => DQ.rd (RF.id h) e_2) (fun c d ν' r => ?_)
  obtain ⟨c9, hb⟩ := hI.2.2.1
  have d2 := in_rg d
  rw [show (-99999 : Int32).toInt = -99999 by decide, show (99999 : Int32).toInt = 99999 by decide] at d2
  have hc9 : 0 ≤ c9 := by have := hb.1; omega
  have hc8 : c9 ≤ 700000 * (n : Int) := by have := hb.2.2; omega
  have hI2 := hI.ct hb (x := X 1 6 - x) (y := X 1 11 - x) (c' := 99999) (K' := 700000 * ((n + 1 : Nat) : Int)) ⟨by omega, by omega⟩ (by omega)
  rw [Int32.sub_eq_add_neg, Int32.sub_eq_add_neg] at r
  rw [Int32.sub_eq_add_neg, Int32.sub_eq_add_neg] at hI2
  have tn : (-x).toInt = -x.toInt := ti_neg (by omega)
  have hq := hG.1.ct (M' := 5000 * (((n + 1 : Nat) : Int) + 1)) hI2 (by omega) (by rw [ti_add (by omega)]; omega)
  exact DQ.up r ⟨by omega, by omega⟩ ⟨hq.w (by omega) (by omega) (by omega), hG.2⟩
theorem hq_due {T : Nat → Int32} {w : Int32} (hf : (-500 ≤ (T 19).toInt ∧ (T 19).toInt ≤ 500) ∧ -500 ≤ (T 20).toInt ∧ (T 20).toInt ≤ 500) (h5 : 0 ≤ (T 5).toInt ∧ (T 5).toInt ≤ 50) : -500 ≤ (if w = 0 then T 19 + T 5 else T 20).toInt ∧ (if w = 0 then T 19 + T 5 else T 20).toInt ≤ 550 := by
  split
  · rw [ti_add (by omega)]; omega
  · omega
theorem hq_sd {w : Int32} (c : ¬ in_I w 0 1 = 0) : w = 0 ∨ w = 1 := by
  obtain ⟨k, hk, rfl⟩ := in_nI (x := w) (k := 1) c (by decide)
  rcases (show k = 0 ∨ k = 1 by omega) with z | z <;> rw [z]
  · exact Or.inl rfl
  · exact Or.inr rfl
theorem NU.sk {S : Nat → Int32} {w : Int32} {K : Int} (h : NU S) (hI : IV S K) (hK : K ≤ 360000000) (hw : w = 0 ∨ w = 1) (h18 : ¬ S 18 = 0) (hs : ¬ (sk_S S w).2 = 0) : NU (sk_S S w).1 ∧ (sk_S S w).1 18 = S 18 := by
  rcases hI.sk hK hw h18 with ⟨s1, s2⟩ | ⟨s1, s2⟩
  · exact absurd s2 hs
  · rw [s2]
    have o : ∀ j : Nat, (1 ≤ j ∧ j ≤ 3) ∨ 18 ≤ j → upd (se_S S w).1 17 ((se_S S w).1 17 + 1) j = S j := fun j hj => by rw [ud_ne (by omega), se_o (by omega)]
    refine ⟨?_, o 18 (by omega)⟩
    unfold NU at *
    dsimp only
    rw [o 1 (by omega), o 2 (by omega), o 3 (by omega)]; exact h
theorem da_check (hf : sh_F τ.2 f) (h : RL ν f X) (hG : WV (X 1) n) (hn : n ≤ 33) {w : Int32} : mt_P Γ mk_F_check [.ref f, .int w] (τ, ν) (DQ τ ν f X n) := by
  have hI := hG.1.1
  refine sp_F_check hf h (fun _ => DQ.rd (RF.id h) e_1) (fun _ _ => DQ.rd (RF.id h) e_2) (fun _ _ _ ν' r => DQ.rd r e_9) (fun c d s ν' r => ?_)
  have h18 := hI.2.2.2.1.1.resolve_left d
  obtain ⟨hq, h7⟩ := hG.1.sk (by omega) (by omega) (by omega) (hq_sd c) h18 s
  have hu := hG.2.sk hI (by omega) (hq_sd c) d s
  generalize (sk_S (X 1) w).1 = T at r hq h7 hu ⊢
  have hd := hq_due (w := w) (hq.2.2.2.1 (hu.2.trans h18)) hq.1.1.2.2
  generalize (if w = 0 then T 19 + T 5 else T 20) = D at hd ⊢
  have hc := hq.c (by omega)
  have h9 := hq.1.2.1.1
  have l2 := hq.2.2.1.2
  refine DQ.up r ?_ ⟨hq.w (by omega) (by omega) (by omega), hu.1⟩
  rw [ti_sub (by omega)]
  omega
theorem da_home (hf : sh_F τ.2 f) (h : RL ν f X) (hG : WV (X 1) n) (hn : n ≤ 33) {w : Int32} : mt_P Γ mk_F_home [.ref f, .int w] (τ, ν) (DQ τ ν f X n) := by
  have hI := hG.1.1
  refine sp_F_home hf h (fun _ => DQ.rd (RF.id h) e_1) (fun _ _ => DQ.rd (RF.id h) e_2) (fun _ _ _ ν' r => DQ.rd r e_9) (fun c d s ν' r => ?_)
  have h18 := hI.2.2.2.1.1.resolve_left d
  obtain ⟨hq, h7⟩ := hG.1.sk (by omega) (by omega) (by omega) (hq_sd c) h18 s
  have hu := hG.2.sk hI (by omega) (hq_sd c) d s
  generalize (sk_S (X 1) w).1 = T at r hq h7 hu ⊢
  have hd := hq_due (w := w) (hq.2.2.2.1 (hu.2.trans h18)) hq.1.1.2.2
  generalize (if w = 0 then T 19 + T 5 else T 20) = D at hd r ⊢
  have hc := hq.c (by omega)
  have h9 := hq.1.2.1.1
  have l2 := hq.2.2.1.2
  obtain ⟨c9, hb⟩ := hq.1.2.2.1
  have hc9 : 0 ≤ c9 := by have := hb.1; omega
  have e6 : T 6 + (D - T 6) = D := by grind
  have hI2 : IV (upd (upd T 6 (T 6 + (D - T 6))) 11 (T 11 + (D - T 6))) (700000 * ((n + 1 : Nat) : Int)) := by
    rw [e6]
    exact hq.1.ct hb (c' := 550) ⟨by omega, by omega⟩ (by omega)
  have ts : (D - T 6).toInt = D.toInt - (T 6).toInt := ti_sub (by omega)
  have hq2 := hq.ct (M' := 5000 * (((n + 1 : Nat) : Int) + 1)) hI2 (by omega) (by rw [ti_add (by omega), ts]; omega)
  refine DQ.up r (by rw [ts]; omega) ⟨hq2.w (by omega) (by omega) (by omega), hu.1⟩
theorem da_back (hf : sh_F τ.2 f) (h : RL ν f X) (hG : GP X n) (hn : n ≤ 33) {i : Int32} : mt_P Γ mk_F_back [.ref f, .int i] (τ, ν) (DQ τ ν f X n) := by
  by_cases c : in_I i 0 1 = 0
  · exact sp_F_backB hf h c (DQ.rd (RF.id h) e_1)
  · obtain ⟨q, hq, rfl⟩ := in_nI (x := i) (k := 1) c (by decide)
    refine sp_F_back hf h rfl (by omega) (fun _ => DQ.rd (RF.id h) e_2) (fun d ν' r => ?_)
    have hw := hG.2.1 q (by omega) d
    have hc : (X 3 (80 * q + 6)).toInt = (X 3 (80 * q + 7)).toInt + (X 3 (80 * q + 9)).toInt + (X 3 (80 * q + 10) + X 3 (80 * q + 11)).toInt := hw.1.c (by omega)
    have h9 : -32 ≤ (X 3 (80 * q + 9)).toInt ∧ (X 3 (80 * q + 9)).toInt ≤ 32 := hw.1.1.2.1.1
    have l1 : -(5000 * ((n : Int) + 1)) ≤ (X 3 (80 * q + 7)).toInt ∧ (X 3 (80 * q + 7)).toInt ≤ 5000 * ((n : Int) + 1) := hw.1.2.2.1.1
    have l2 : -(5000 * ((n : Int) + 1)) ≤ (X 3 (80 * q + 10) + X 3 (80 * q + 11)).toInt ∧ (X 3 (80 * q + 10) + X 3 (80 * q + 11)).toInt ≤ 5000 * ((n : Int) + 1) := hw.1.2.2.1.2
    exact DQ.up r ⟨by omega, by omega⟩ hw.w
end CALLS
