/-! changing calls on both sides -/
theorem bo_setNumber {Γ : cx_T} {τ : Nat × (Nat → sh_T)} {ν : Nat → Nat → Int32} {f m : Nat} {X : Nat → Nat → Int32} {K : Int} (hf : sh_F τ.2 f) (hm : sh_M τ.2 m) (h : RL ν f X) (hG : GI X K) (hK : K ≤ 360000000) (hs : st_P Γ τ ν) {i x : Int32} : BO Γ τ ν f m X mk_F_setNumber mk_M_setNumber [.int i, .int x] K := by
  have hI := hG.1
  have hp := (RF.id h).PS
  by_cases c : nm_I i x = 0
  · exact BO.mk (-1000001) X (va_up X 1 (X 1)) (hG.w (by omega)) (sp_F_setNumber hf h hs (fun _ => FQ.rd h) (fun _ _ _ q => absurd c q)) (fun ν1 => sp_M_setNumberB hm c) (sm_a va_id)
  · obtain ⟨k, hk, rfl⟩ := nm_ok c
    have ck : ¬ nm_N k x = 0 := by rw [← nm_k hk]; exact c
    exact BO.mk (X 1 k) (va_up (nt_X X) 1 (upd (X 1) k x)) (va_up (nt_X (va_up X 1 (X 1))) 1 (upd (X 1) k x)) (hG.nx hp (by omega) ((hI.nu hk ck).w (by omega))) (sp_F_setNumber hf h hs (fun q => absurd q c) (fun j hj e _ ν' r => by rw [show j = k from ((nI_eq (by omega) (by omega)).mp e).symm] at r ⊢; exact FQ.up r)) (fun ν1 => sp_M_setNumber hm hp rfl hk c) (sm_a (by rw [va_id]))
theorem bo_setLoad {Γ : cx_T} {τ : Nat × (Nat → sh_T)} {ν : Nat → Nat → Int32} {f m : Nat} {X : Nat → Nat → Int32} {K : Int} (hf : sh_F τ.2 f) (hm : sh_M τ.2 m) (h : RL ν f X) (hG : GI X K) (hK : K ≤ 360000000) (hs : st_P Γ τ ν) {x y : Int32} : BO Γ τ ν f m X mk_F_setLoad mk_M_setLoad [.int x, .int y] K := by
  have hI := hG.1
  have hp := (RF.id h).PS
  have hne : ∀ i : Nat, i < ls_n (X 1) 21 → ¬ ls_V (X 1) 21 i = -1 := fun i hi q => by
    have z := (hI.2.2.2.2.1.2.2 i hi).2
    rw [q] at z
    revert z
    decide
  by_cases c : in_I x (-20000) 20000 = 0 ∨ in_I y (-1) 200 = 0
  · exact BO.mk (-1000001) X (va_up X 1 (X 1)) (hG.w (by omega)) (sp_F_setLoad hf h hne (fun _ => FQ.rd h) (fun u v => absurd c (fun q => q.elim u v)) (fun u v => absurd c (fun q => q.elim u v)) (fun u v => absurd c (fun q => q.elim u v)) (fun u v => absurd c (fun q => q.elim u v))) (fun ν1 => sp_M_setLoadB hm c) (sm_a va_id)
  · have c0 : ¬ in_I x (-20000) 20000 = 0 := fun q => c (Or.inl q)
    have c1 : ¬ in_I y (-1) 200 = 0 := fun q => c (Or.inr q)
    by_cases d : y = -1
    · by_cases a : ha_S (X 1) 21 x = 0
      · exact BO.mk (-1000002) X (va_up X 1 (X 1)) (hG.w (by omega)) (sp_F_setLoad hf h hne (fun q => absurd q c) (fun _ _ _ _ => FQ.rd h) (fun _ _ _ q => absurd a q) (fun _ _ q => absurd d q) (fun _ _ q => absurd d q)) (fun ν1 => sp_M_setLoad hm c0 c1 (sp_M_setsI (b0 := 21) (ν := ν1) (X := X) (S := X 1) hm rfl hI.lk.1 (by omega) d a)) (sm_a va_id)
      · exact BO.mk (ls_V (X 1) 21 (ut_S (X 1) 21 x - 1)) (va_up (nt_X X) 1 (mr_S (X 1) 21 x)) (va_up (nt_X (va_up X 1 (X 1))) 1 (mr_S (X 1) 21 x)) (hG.nx hp (by omega) ((hI.mr (Or.inl rfl)).w (by omega))) (sp_F_setLoad hf h hne (fun q => absurd q c) (fun _ _ _ q => absurd q a) (fun _ _ _ _ ν' r => FQ.ue (r.ev (rp_EV (Or.inl rfl) hI.lk.1 hI.lk.2.1 hI.lk.2.2)) (if_neg a)) (fun _ _ q => absurd d q) (fun _ _ q => absurd d q)) (fun ν1 => sp_M_setLoad hm c0 c1 (sp_M_setsR (b0 := 21) (ν := ν1) (X := X) (S := X 1) hm rfl hI.lk.1 (by omega) hp d a)) (sm_a (by rw [va_id]))
    · have hy : 0 ≤ y.toInt ∧ y.toInt ≤ 200 := by
        have z := in_rg c1
        rw [show (-1 : Int32).toInt = -1 by decide, show (200 : Int32).toInt = 200 by decide] at z
        rw [ti_eq, show (-1 : Int32).toInt = -1 by decide] at d
        omega
      by_cases a : ha_S (X 1) 21 x = 0
      · by_cases t : X 1 21 = 10
        · have hr := hr_y (x := x) hI.lk.1 t a
          exact BO.mk (-1000003) X (va_up X 1 (X 1)) (hG.w (by omega)) (sp_F_setLoad hf h hne (fun q => absurd q c) (fun _ _ q => absurd q d) (fun _ _ q => absurd q d) (fun _ _ _ _ => FQ.rd h) (fun _ _ _ q => absurd hr q)) (fun ν1 => sp_M_setLoad hm c0 c1 (sp_M_setsC (b0 := 21) (ν := ν1) (X := X) (S := X 1) hm rfl hI.lk.1 (by omega) d a t)) (sm_a va_id)
        · have hr : ¬ hr_I (X 1) 21 x = 0 := fun q => t (hr_n hI.lk.1 q).1
          exact BO.mk (-1) (va_up (nt_X X) 1 (mp_S (X 1) 21 x y)) (va_up (nt_X (va_up X 1 (X 1))) 1 (mp_S (X 1) 21 x y)) (hG.nx hp (by omega) ((hI.mp (Or.inl ⟨rfl, hy⟩) (in20 c0) (hr_o hr)).w (by omega))) (sp_F_setLoad hf h hne (fun q => absurd q c) (fun _ _ q => absurd q d) (fun _ _ q => absurd q d) (fun _ _ _ q => absurd q hr) (fun _ _ _ _ ν' r => FQ.ue (r.ev (pp_EV (Or.inl rfl) hI.lk.1 hI.lk.2.1 hI.lk.2.2 (hr_o hr))) (if_pos a))) (fun ν1 => sp_M_setLoad hm c0 c1 (sp_M_setsN (b0 := 21) (ν := ν1) (X := X) (S := X 1) hm rfl hI.lk.1 (by omega) hp d a t)) (sm_a (by rw [va_id]))
      · have hr : ¬ hr_I (X 1) 21 x = 0 := fun q => a (hr_n hI.lk.1 q).2
        exact BO.mk (ls_V (X 1) 21 (ut_S (X 1) 21 x - 1)) (va_up (nt_X X) 1 (mp_S (X 1) 21 x y)) (va_up (nt_X (va_up X 1 (X 1))) 1 (mp_S (X 1) 21 x y)) (hG.nx hp (by omega) ((hI.mp (Or.inl ⟨rfl, hy⟩) (in20 c0) (hr_o hr)).w (by omega))) (sp_F_setLoad hf h hne (fun q => absurd q c) (fun _ _ q => absurd q d) (fun _ _ q => absurd q d) (fun _ _ _ q => absurd q hr) (fun _ _ _ _ ν' r => FQ.ue (r.ev (pp_EV (Or.inl rfl) hI.lk.1 hI.lk.2.1 hI.lk.2.2 (hr_o hr))) (if_neg a))) (fun ν1 => sp_M_setLoad hm c0 c1 (sp_M_setsY (b0 := 21) (ν := ν1) (X := X) (S := X 1) hm rfl hI.lk.1 (by omega) hp d a)) (sm_a (by rw [va_id]))
theorem bo_setComb {Γ : cx_T} {τ : Nat × (Nat → sh_T)} {ν : Nat → Nat → Int32} {f m : Nat} {X : Nat → Nat → Int32} {K : Int} (hf : sh_F τ.2 f) (hm : sh_M τ.2 m) (h : RL ν f X) (hG : GI X K) (hK : K ≤ 360000000) (hs : st_P Γ τ ν) {x y : Int32} : BO Γ τ ν f m X mk_F_setComb mk_M_setComb [.int x, .int y] K := by
  have hI := hG.1
  have hp := (RF.id h).PS
  have hne : ∀ i : Nat, i < ls_n (X 1) 42 → ¬ ls_V (X 1) 42 i = 100 := fun i hi q => by
    have z := (hI.2.2.2.2.2.1.2.2 i hi).2
    rw [q] at z
    revert z
    decide
  by_cases c : in_I x (-20000) 20000 = 0 ∨ in_I y (-99) 100 = 0
  · exact BO.mk (-1000001) X (va_up X 1 (X 1)) (hG.w (by omega)) (sp_F_setComb hf h hne (fun _ => FQ.rd h) (fun u v => absurd c (fun q => q.elim u v)) (fun u v => absurd c (fun q => q.elim u v)) (fun u v => absurd c (fun q => q.elim u v)) (fun u v => absurd c (fun q => q.elim u v))) (fun ν1 => sp_M_setCombB hm c) (sm_a va_id)
  · have c0 : ¬ in_I x (-20000) 20000 = 0 := fun q => c (Or.inl q)
    have c1 : ¬ in_I y (-99) 100 = 0 := fun q => c (Or.inr q)
    by_cases d : y = 100
    · by_cases a : ha_S (X 1) 42 x = 0
      · exact BO.mk (-1000002) X (va_up X 1 (X 1)) (hG.w (by omega)) (sp_F_setComb hf h hne (fun q => absurd q c) (fun _ _ _ _ => FQ.rd h) (fun _ _ _ q => absurd a q) (fun _ _ q => absurd d q) (fun _ _ q => absurd d q)) (fun ν1 => sp_M_setComb hm c0 c1 (sp_M_setsI (b0 := 42) (ν := ν1) (X := X) (S := X 1) hm rfl hI.lk.2.1 (by omega) d a)) (sm_a va_id)
      · exact BO.mk (ls_V (X 1) 42 (ut_S (X 1) 42 x - 1)) (va_up (nt_X X) 1 (mr_S (X 1) 42 x)) (va_up (nt_X (va_up X 1 (X 1))) 1 (mr_S (X 1) 42 x)) (hG.nx hp (by omega) ((hI.mr (Or.inr rfl)).w (by omega))) (sp_F_setComb hf h hne (fun q => absurd q c) (fun _ _ _ q => absurd q a) (fun _ _ _ _ ν' r => FQ.ue (r.ev (rp_EV (Or.inr rfl) hI.lk.1 hI.lk.2.1 hI.lk.2.2)) (if_neg a)) (fun _ _ q => absurd d q) (fun _ _ q => absurd d q)) (fun ν1 => sp_M_setComb hm c0 c1 (sp_M_setsR (b0 := 42) (ν := ν1) (X := X) (S := X 1) hm rfl hI.lk.2.1 (by omega) hp d a)) (sm_a (by rw [va_id]))
    · have hy : -99 ≤ y.toInt ∧ y.toInt ≤ 99 := by
        have z := in_rg c1
        rw [show (-99 : Int32).toInt = -99 by decide, show (100 : Int32).toInt = 100 by decide] at z
        rw [ti_eq, show (100 : Int32).toInt = 100 by decide] at d
        omega
      by_cases a : ha_S (X 1) 42 x = 0
      · by_cases t : X 1 42 = 10
        · have hr := hr_y (x := x) hI.lk.2.1 t a
          exact BO.mk (-1000003) X (va_up X 1 (X 1)) (hG.w (by omega)) (sp_F_setComb hf h hne (fun q => absurd q c) (fun _ _ q => absurd q d) (fun _ _ q => absurd q d) (fun _ _ _ _ => FQ.rd h) (fun _ _ _ q => absurd hr q)) (fun ν1 => sp_M_setComb hm c0 c1 (sp_M_setsC (b0 := 42) (ν := ν1) (X := X) (S := X 1) hm rfl hI.lk.2.1 (by omega) d a t)) (sm_a va_id)
        · have hr : ¬ hr_I (X 1) 42 x = 0 := fun q => t (hr_n hI.lk.2.1 q).1
          exact BO.mk (100) (va_up (nt_X X) 1 (mp_S (X 1) 42 x y)) (va_up (nt_X (va_up X 1 (X 1))) 1 (mp_S (X 1) 42 x y)) (hG.nx hp (by omega) ((hI.mp (Or.inr ⟨rfl, hy⟩) (in20 c0) (hr_o hr)).w (by omega))) (sp_F_setComb hf h hne (fun q => absurd q c) (fun _ _ q => absurd q d) (fun _ _ q => absurd q d) (fun _ _ _ q => absurd q hr) (fun _ _ _ _ ν' r => FQ.ue (r.ev (pp_EV (Or.inr rfl) hI.lk.1 hI.lk.2.1 hI.lk.2.2 (hr_o hr))) (if_pos a))) (fun ν1 => sp_M_setComb hm c0 c1 (sp_M_setsN (b0 := 42) (ν := ν1) (X := X) (S := X 1) hm rfl hI.lk.2.1 (by omega) hp d a t)) (sm_a (by rw [va_id]))
      · have hr : ¬ hr_I (X 1) 42 x = 0 := fun q => a (hr_n hI.lk.2.1 q).2
        exact BO.mk (ls_V (X 1) 42 (ut_S (X 1) 42 x - 1)) (va_up (nt_X X) 1 (mp_S (X 1) 42 x y)) (va_up (nt_X (va_up X 1 (X 1))) 1 (mp_S (X 1) 42 x y)) (hG.nx hp (by omega) ((hI.mp (Or.inr ⟨rfl, hy⟩) (in20 c0) (hr_o hr)).w (by omega))) (sp_F_setComb hf h hne (fun q => absurd q c) (fun _ _ q => absurd q d) (fun _ _ q => absurd q d) (fun _ _ _ q => absurd q hr) (fun _ _ _ _ ν' r => FQ.ue (r.ev (pp_EV (Or.inr rfl) hI.lk.1 hI.lk.2.1 hI.lk.2.2 (hr_o hr))) (if_neg a))) (fun ν1 => sp_M_setComb hm c0 c1 (sp_M_setsY (b0 := 42) (ν := ν1) (X := X) (S := X 1) hm rfl hI.lk.2.1 (by omega) hp d a)) (sm_a (by rw [va_id]))
theorem bo_setFlag {Γ : cx_T} {τ : Nat × (Nat → sh_T)} {ν : Nat → Nat → Int32} {f m : Nat} {X : Nat → Nat → Int32} {K : Int} (hf : sh_F τ.2 f) (hm : sh_M τ.2 m) (h : RL ν f X) (hG : GI X K) (hK : K ≤ 360000000) (hs : st_P Γ τ ν) {x y : Int32} : BO Γ τ ν f m X mk_F_setFlag mk_M_setFlag [.int x, .int y] K := by
  have hI := hG.1
  have hp := (RF.id h).PS
  by_cases c : in_I x (-20000) 20000 = 0 ∨ in_I y (-20000) 20000 = 0 ∨ y ≤ x
  · exact BO.mk (-1000001) X (va_up X 1 (X 1)) (hG.w (by omega)) (sp_F_setFlag hf h (fun _ => FQ.rd h) (fun u v q => absurd c (fun z => z.elim u (fun z => z.elim v (fun z => Int32.not_le.mpr q z))))) (fun ν1 => sp_M_setFlagB hm c) (sm_a va_id)
  · have c0 : ¬ in_I x (-20000) 20000 = 0 := fun q => c (Or.inl q)
    have c1 : ¬ in_I y (-20000) 20000 = 0 := fun q => c (Or.inr (Or.inl q))
    have c2 : x < y := Int32.not_le.mp fun q => c (Or.inr (Or.inr q))
    exact BO.mk (X 1 18) (va_up (nt_X X) 1 (upd (upd (upd (X 1) 18 1) 19 x) 20 y)) (va_up (nt_X (va_up X 1 (X 1))) 1 (upd (upd (upd (X 1) 18 1) 19 x) 20 y)) (hG.nx hp (by omega) ((hI.fl (in20 c0) (in20 c1)).w (by omega))) (sp_F_setFlag hf h (fun q => absurd q c) (fun _ _ _ ν' r => FQ.up r)) (fun ν1 => sp_M_setFlag hm hp c0 c1 c2) (sm_a (by rw [va_id]))
theorem bo_appendCharacter {Γ : cx_T} {τ : Nat × (Nat → sh_T)} {ν : Nat → Nat → Int32} {f m : Nat} {X : Nat → Nat → Int32} {K : Int} (hf : sh_F τ.2 f) (hm : sh_M τ.2 m) (h : RL ν f X) (hG : GI X K) (hK : K ≤ 360000000) (hs : st_P Γ τ ν) {x : Int32} : BO Γ τ ν f m X mk_F_appendCharacter mk_M_appendCharacter [.int x] K := by
  have hI := hG.1
  have hp := (RF.id h).PS
  obtain ⟨L, hL, hT⟩ := h.2.2.2.2
  by_cases t : L = 100
  · by_cases c : in_I x 0 255 = 0
    · exact BO.mk (-1000001) X (va_up X 1 (X 1)) (hG.w (by omega)) (sp_F_append0 hf h hL hT t (fun _ => FQ.rd h) (fun q => absurd c q)) (fun ν1 => sp_M_appendB hm c) (sm_a va_id)
    · exact BO.mk (-1000003) X (va_up X 1 (X 1)) (hG.w (by omega)) (sp_F_append0 hf h hL hT t (fun q => absurd q c) (fun _ => FQ.rd h)) (fun ν1 => sp_M_appendC hm c (by rw [hT.1, t]; rfl)) (sm_a va_id)
  · have t2 : L < 100 := by have := hT.2.1; omega
    by_cases c : in_I x 0 255 = 0
    · exact BO.mk (-1000001) X (va_up X 1 (X 1)) (hG.w (by omega)) (sp_F_append1 hf h hL hT t2 (fun _ => FQ.rd h) (fun q => absurd c q)) (fun ν1 => sp_M_appendB hm c) (sm_a va_id)
    · exact BO.mk (nI (L + 1)) (up_2 (up_2 X 5 L x.toInt8.toInt32) 0 7 (nI (L + 1))) (va_up (up_2 (up_2 X 5 L x.toInt8.toInt32) 0 7 (nI (L + 1))) 1 (X 1)) ((hG.w (by omega)).tx rfl rfl rfl rfl rfl) (sp_F_append1 hf h hL hT t2 (fun q => absurd q c) (fun _ ν' r => FQ.up r)) (fun ν1 => sp_M_append hm c hT.1 t2) (sm_a (by rw [← up_c (by omega), ← up_c (by omega), va_id]))
theorem bo_clearText {Γ : cx_T} {τ : Nat × (Nat → sh_T)} {ν : Nat → Nat → Int32} {f m : Nat} {X : Nat → Nat → Int32} {K : Int} (hf : sh_F τ.2 f) (hm : sh_M τ.2 m) (h : RL ν f X) (hG : GI X K) (hK : K ≤ 360000000) (hs : st_P Γ τ ν) : BO Γ τ ν f m X mk_F_clearText mk_M_clearText [] K := by
  have hI := hG.1
  have hp := (RF.id h).PS
  obtain ⟨L, hL, hT⟩ := h.2.2.2.2
  exact BO.mk (X 0 7) (up_2 X 0 7 0) (va_up (up_2 X 0 7 0) 1 (X 1)) ((hG.w (by omega)).tx rfl rfl rfl rfl rfl) (sp_F_clearText hf h hL hT (fun ν' r => FQ.up r)) (fun ν1 => sp_M_clearText hm) (sm_a (by rw [← up_c (by omega), va_id]))
theorem bo_load {Γ : cx_T} {τ : Nat × (Nat → sh_T)} {ν : Nat → Nat → Int32} {f m : Nat} {X : Nat → Nat → Int32} {K : Int} (hf : sh_F τ.2 f) (hm : sh_M τ.2 m) (h : RL ν f X) (hG : GI X K) (hK : K ≤ 360000000) (hs : st_P Γ τ ν) : BO Γ τ ν f m X mk_F_load mk_M_load [] K := by
  have hI := hG.1
  have hp := (RF.id h).PS
  obtain ⟨L, hL, hT⟩ := h.2.2.2.2
  obtain ⟨g1, g2, g3⟩ := ri_rm (c := ν (f + 125)) hT.2.1 100 0 (so (ν (f + 125)) L 0, -1) (X 1) (X 1) K EV.rf hI (so_L (Nat.zero_le _))
  have hn := rm_n (c := ν (f + 125)) (L := L) 100 0 (so (ν (f + 125)) L 0, -1) (X 1)
  have he := PE.rm (c := ν (f + 125)) hT.2.1 100 0 (so (ν (f + 125)) L 0, -1) (X 1) (so_L (Nat.zero_le _)) (Or.inl rfl)
  have hF := @sp_F_load Γ τ ν f X hf h
  have hM := fun ν1 : Nat → Nat → Int32 => sp_M_load (Γ := Γ) (ν := ν1) (X := X) (S := X 1) hm hT hp hI.lk.1 hI.lk.2.1
  have hR := re_0 (r := rm_F (ν (f + 125)) L 100 0 (so (ν (f + 125)) L 0, -1) (X 1)) (by omega) he
  have hre : re_I (ri_F (ν (f + 125)) L 100 0 (so (ν (f + 125)) L 0, -1) (X 1)) = re_I (rm_F (ν (f + 125)) L 100 0 (so (ν (f + 125)) L 0, -1) (X 1)) := by
    unfold re_I
    rw [g1, g2]
  have hF1 := fun Q => hF (Q := Q) hL hT
  rw [hre] at hF1
  generalize ri_F (ν (f + 125)) L 100 0 (so (ν (f + 125)) L 0, -1) (X 1) = A at g1 g2 g3 hF1
  generalize rm_F (ν (f + 125)) L 100 0 (so (ν (f + 125)) L 0, -1) (X 1) = B at g1 g2 g3 hF1 hM hR
  refine ⟨re_I B, lt_X X (X 1) B, ?_, ?_, fun ν1 => mt_imp (mt_mem (hM ν1) (by rw [va_id])) ?_⟩
  · unfold lt_X
    by_cases q : B.2.1.2 = -1
    · rw [if_pos q, va_id]
      exact (hG.nx hp (by omega) ((g3 q).2.w (by omega))).tx rfl rfl rfl rfl rfl
    · rw [if_neg q, va_id]
      exact hG.w (by omega)
  · refine hF1 _ (fun q ν' r => ?_) (fun q ν' r => ?_)
    · rcases hR with ⟨a1, a2, a3⟩ | ⟨a1, a2⟩
      · exact absurd q a3
      · unfold lt_X
        rw [if_neg a1, va_id]
        exact FQ.up r
    · rcases hR with ⟨a1, a2, a3⟩ | ⟨a1, a2⟩
      · unfold lt_X
        rw [if_pos a1, va_id]
        refine FQ.up ?_
        have z := (RF.ev (X := up_2 (nt_X X) 0 7 0) (S := A.2.2) (T := B.2.2) (by rw [← up_c (by omega)]; exact r) (g3 a1).1)
        rw [← up_c (by omega)] at z
        exact z
      · exact absurd a2 q
  · rintro v μ' ⟨Y, rfl, rfl, hY⟩
    exact ⟨Y, rfl, rfl, hY⟩
theorem bo_moveTo {Γ : cx_T} {τ : Nat × (Nat → sh_T)} {ν : Nat → Nat → Int32} {f m : Nat} {X : Nat → Nat → Int32} {K : Int} (hf : sh_F τ.2 f) (hm : sh_M τ.2 m) (h : RL ν f X) (hG : GI X K) (hK : K ≤ 360000000) (hs : st_P Γ τ ν) {x : Int32} : BO Γ τ ν f m X mk_F_moveTo mk_M_moveTo [.int x] K := by
  have hI := hG.1
  have hp := (RF.id h).PS
  by_cases c : in_I x (-20000) 20000 = 0
  · exact BO.mk (-1000001) X (va_up X 1 (X 1)) (hG.w (by omega)) (sp_F_moveTo hf h (fun _ => FQ.rd h) (fun q => absurd c q) (fun q => absurd c q)) (fun ν1 => sp_M_moveToB hm c) (sm_a va_id)
  · have ea := hI.ai (in20 c)
    by_cases d : in_I (am_S (X 1) x) (-20000) 20000 = 0
    · exact BO.mk (-1000002) X (va_up X 1 (X 1)) (hG.w (by omega)) (sp_F_moveTo hf h (fun q => absurd q c) (fun _ _ => FQ.rd h) (fun _ q => absurd d (by rw [← ea]; exact q))) (fun ν1 => sp_M_moveToI hm hI.RI c d) (sm_a va_id)
    · have hv := hI.mv (by omega) (in20 c) d
      exact BO.mk (mo_S (X 1) x 10 - X 1 10) (va_up (nt_X X) 1 (mo_S (X 1) x)) (va_up (nt_X (va_up X 1 (X 1))) 1 (mo_S (X 1) x)) (hG.nx hp (by omega) (hv.1.w (by omega))) (sp_F_moveTo hf h (fun q => absurd q c) (fun _ q => absurd (by rw [← ea]; exact q) d) (fun _ _ ν' r => by rw [hv.2] at r ⊢; exact FQ.up r)) (fun ν1 => sp_M_moveTo hm hp hI.RI c d) (sm_a (by rw [va_id]))
theorem bo_addCommand {Γ : cx_T} {τ : Nat × (Nat → sh_T)} {ν : Nat → Nat → Int32} {f m : Nat} {X : Nat → Nat → Int32} {K : Int} (hf : sh_F τ.2 f) (hm : sh_M τ.2 m) (h : RL ν f X) (hG : GI X K) (hK : K ≤ 360000000) (hs : st_P Γ τ ν) {x y : Int32} : BO Γ τ ν f m X mk_F_addCommand mk_M_addCommand [.int x, .int y] K := by
  have hI := hG.1
  have hp := (RF.id h).PS
  have h63 := hI.lk.2.2
  by_cases c : in_I x (-20000) 20000 = 0 ∨ in_I y 0 9 = 0
  · exact BO.mk (-1000001) X (va_up X 1 (X 1)) (hG.w (by omega)) (sp_F_addCommand hf h (fun _ => FQ.rd h) (fun u v => absurd c (fun q => q.elim u v)) (fun u v => absurd c (fun q => q.elim u v))) (fun ν1 => sp_M_addCommandB hm c) (sm_a va_id)
  · have c0 : ¬ in_I x (-20000) 20000 = 0 := fun q => c (Or.inl q)
    have c1 : ¬ in_I y 0 9 = 0 := fun q => c (Or.inr q)
    by_cases d : ls_n (X 1) 63 < 8
    · have ec : ci_S (X 1) x y 63 = nI (ls_n (X 1) 63 + 1) := by unfold ci_S; rw [rw_b]
      exact BO.mk (nI (ls_n (X 1) 63 + 1)) (va_up (nt_X X) 1 (ca_S (X 1) x y (ls_n (X 1) 63) (pq_N (fun k => X 1 (65 + 2 * k)) y (ls_n (X 1) 63)))) (va_up (nt_X (va_up X 1 (X 1))) 1 (ca_S (X 1) x y (ls_n (X 1) 63) (pq_N (fun k => X 1 (65 + 2 * k)) y (ls_n (X 1) 63)))) (hG.nx hp (by omega) ((hI.ca (in20 c0) d).w (by omega))) (sp_F_addCommand hf h (fun q => absurd q c) (fun _ _ q => absurd d q) (fun _ _ _ ν' r => FQ.ue (r.ev (ci_EV hI.lk.1 hI.lk.2.1 hI.2.2.2.2.2.2 d)) ec)) (fun ν1 => sp_M_addCommand hm hp c0 c1 h63.2 d) (sm_a (by rw [va_id]))
    · exact BO.mk (-1000003) X (va_up X 1 (X 1)) (hG.w (by omega)) (sp_F_addCommand hf h (fun q => absurd q c) (fun _ _ _ => FQ.rd h) (fun _ _ q => absurd q d)) (fun ν1 => sp_M_addCommandC hm c0 c1 (by rw [h63.2, show ls_n (X 1) 63 = 8 by have := h63.1; omega]; rfl)) (sm_a va_id)
theorem bo_run {Γ : cx_T} {τ : Nat × (Nat → sh_T)} {ν : Nat → Nat → Int32} {f m : Nat} {X : Nat → Nat → Int32} {K : Int} (hf : sh_F τ.2 f) (hm : sh_M τ.2 m) (h : RL ν f X) (hG : GI X K) (hK : K ≤ 360000000) (hs : st_P Γ τ ν) {c : Int32} : BO Γ τ ν f m X mk_F_run mk_M_run [.int c] K := by
  have hI := hG.1
  have hp := (RF.id h).PS
  by_cases c1 : in_I c 1 8 = 0
  · exact BO.mk (-1000001) X (va_up X 1 (X 1)) (hG.w (by omega)) (sp_F_run hf h hI hK (fun _ => FQ.rd h) (fun q => absurd c1 q) (fun _ _ _ q => absurd c1 q)) (fun ν1 => sp_M_runB hm c1) (sm_a va_id)
  · obtain ⟨k, hk, rfl⟩ := nI_of2 (x := c) (M := 8) (n := 8) rfl (fun z => (in_ok c1).1 (by rw [ti_lt] at z ⊢; have z : c.toInt < 0 := z; show _ < (1 : Int); omega)) (Int32.not_lt.mp (in_ok c1).2)
    by_cases d : X 1 63 = 0
    · exact BO.mk (-1000002) X (va_up X 1 (X 1)) (hG.w (by omega)) (sp_F_run hf h hI hK (fun q => absurd q c1) (fun _ _ => FQ.rd h) (fun _ _ _ _ q => absurd d q)) (fun ν1 => sp_M_runI hm c1 d) (sm_a va_id)
    · exact BO.mk (rn_S k (X 1) 63) (va_up (nt_X X) 1 (rn_S k (X 1))) (va_up (nt_X (va_up X 1 (X 1))) 1 (rn_S k (X 1))) (hG.nx hp (by omega) ((IV.rn k (X 1) K hI (by omega)).w (by omega))) (sp_F_run hf h hI hK (fun q => absurd q c1) (fun _ q => absurd q d) (fun j hj e _ _ ν' r => by rw [show j = k from ((nI_eq (by omega) (by omega)).mp e).symm] at r ⊢; exact FQ.up r)) (fun ν1 => sp_M_run hm hk hp hI.RI c1 d) (sm_a (by rw [va_id]))
theorem bo_correct {Γ : cx_T} {τ : Nat × (Nat → sh_T)} {ν : Nat → Nat → Int32} {f m : Nat} {X : Nat → Nat → Int32} {K : Int} (hf : sh_F τ.2 f) (hm : sh_M τ.2 m) (h : RL ν f X) (hG : GI X K) (hK : K ≤ 360000000) (hs : st_P Γ τ ν) {x : Int32} : BO Γ τ ν f m X mk_F_correct mk_M_correct [.int x] K := by
  have hI := hG.1
  have hp := (RF.id h).PS
  by_cases c : in_I x (-9999) 9999 = 0
  · exact BO.mk (-1000001) X (va_up X 1 (X 1)) (hG.w (by omega)) (sp_F_correct hf h (fun _ => FQ.rd h) (fun q => absurd c q) (fun q => absurd c q)) (fun ν1 => sp_M_correctB hm c) (sm_a va_id)
  · by_cases d : in_I (X 1 6 - x) (-99999) 99999 = 0
    · exact BO.mk (-1000002) X (va_up X 1 (X 1)) (hG.w (by omega)) (sp_F_correct hf h (fun q => absurd q c) (fun _ _ => FQ.rd h) (fun _ q => absurd d q)) (fun ν1 => sp_M_correctI hm c d) (sm_a va_id)
    · obtain ⟨c9, hb⟩ := hI.2.2.1
      have d2 := in_rg d
      rw [show (-99999 : Int32).toInt = -99999 by decide, show (99999 : Int32).toInt = 99999 by decide] at d2
      have hc9 : 0 ≤ c9 := by have := hb.1; omega
      exact BO.mk (X 1 6 - x) (va_up (nt_X X) 1 (upd (upd (X 1) 6 (X 1 6 - x)) 11 (X 1 11 - x))) (va_up (nt_X (va_up X 1 (X 1))) 1 (upd (upd (X 1) 6 (X 1 6 - x)) 11 (X 1 11 - x))) (hG.nx hp (by omega) (hI.ct hb (c' := 99999) ⟨by omega, by omega⟩ (by omega))) (sp_F_correct hf h (fun q => absurd q c) (fun _ q => absurd q d) (fun _ _ ν' r => FQ.up r)) (fun ν1 => sp_M_correct hm hp c d) (sm_a (by rw [va_id]))
theorem bo_home {Γ : cx_T} {τ : Nat × (Nat → sh_T)} {ν : Nat → Nat → Int32} {f m : Nat} {X : Nat → Nat → Int32} {K : Int} (hf : sh_F τ.2 f) (hm : sh_M τ.2 m) (h : RL ν f X) (hG : GI X K) (hK : K ≤ 360000000) (hs : st_P Γ τ ν) {w : Int32} : BO Γ τ ν f m X mk_F_home mk_M_home [.int w] K := by
  have hI := hG.1
  have hp := (RF.id h).PS
  by_cases c : in_I w 0 1 = 0
  · exact BO.mk (-1000001) X (va_up X 1 (X 1)) (hG.w (by omega)) (sp_F_home hf h (fun _ => FQ.rd h) (fun q => absurd c q) (fun q => absurd c q) (fun q => absurd c q)) (fun ν1 => sp_M_homeE hm (sp_M_reachesB hm c) (by decide)) (sm_a va_id)
  · by_cases d : X 1 18 = 0
    · exact BO.mk (-1000002) X (va_up X 1 (X 1)) (hG.w (by omega)) (sp_F_home hf h (fun q => absurd q c) (fun _ _ => FQ.rd h) (fun _ q => absurd d q) (fun _ q => absurd d q)) (fun ν1 => sp_M_homeE hm (sp_M_reachesI hm c d) (by decide)) (sm_a va_id)
    · have hw : w = 0 ∨ w = 1 := by
        obtain ⟨k, hk, rfl⟩ := in_nI (x := w) (k := 1) c (by decide)
        rcases (show k = 0 ∨ k = 1 by omega) with z | z <;> rw [z]
        · exact Or.inl rfl
        · exact Or.inr rfl
      rcases hI.sk hK hw d with ⟨s1, s2⟩ | ⟨s1, s2⟩
      · exact BO.mk (-1000009) X (va_up (va_up X 4 (cp_N (se_S (X 1) w).1 (X 4) 80)) 1 (X 1)) (hG.w (by omega)) (sp_F_home hf h (fun q => absurd q c) (fun _ q => absurd q d) (fun _ _ _ ν' r => FQ.up r) (fun _ _ q => absurd s2 q)) (fun ν1 => sp_M_homeE hm (sp_M_reachesN hm hI.lk.1 c d s1) (by decide)) (by have z := sm_4 (X := X) (Z := X) (S := X 1) (B := cp_N (se_S (X 1) w).1 (X 4) 80) rfl; rw [va_id] at z; exact z)
      · have hIT : IV (upd (se_S (X 1) w).1 17 ((se_S (X 1) w).1 17 + 1)) (K + 640100) := (hI.se hK).ac
        have hr := fun ν1 : Nat → Nat → Int32 => sp_M_reaches (Γ := Γ) (ν := ν1) (X := X) (S := X 1) hm hp hI.lk.1 c d s1
        have hF := fun Q => @sp_F_home Γ τ ν f X hf h w Q
        rw [s2] at hF
        have e18 : (upd (se_S (X 1) w).1 17 ((se_S (X 1) w).1 17 + 1)) 18 = X 1 18 := by rw [ud_ne (by omega), se_o (by omega)]
        generalize (upd (se_S (X 1) w).1 17 ((se_S (X 1) w).1 17 + 1)) = T at hIT hr hF e18
        have hf1 := hIT.2.2.2.1.2 (by rw [e18]; exact hI.2.2.2.1.1.resolve_left d)
        have h5 := hIT.1.2.2
        have hdue : -20100 ≤ (if w = 0 then T 19 + T 5 else T 20).toInt ∧ (if w = 0 then T 19 + T 5 else T 20).toInt ≤ 20100 := by
          split
          · rw [ti_add (by omega)]; omega
          · omega
        obtain ⟨c9, hb⟩ := hIT.2.2.1
        have hc9 : 0 ≤ c9 := by have := hb.1; omega
        have e6 : T 6 + ((if w = 0 then T 19 + T 5 else T 20) - T 6) = (if w = 0 then T 19 + T 5 else T 20) := by rw [Int32.add_comm, Int32.sub_add_cancel]
        have hIT2 : IV (upd (upd T 6 (T 6 + ((if w = 0 then T 19 + T 5 else T 20) - T 6))) 11 (T 11 + ((if w = 0 then T 19 + T 5 else T 20) - T 6))) (K + 700000) := by
          rw [e6]
          exact hIT.ct hb (c' := 20100) hdue (by omega)
        exact BO.mk ((if w = 0 then T 19 + T 5 else T 20) - T 6) (va_up (nt_X X) 1 (upd (upd T 6 (T 6 + ((if w = 0 then T 19 + T 5 else T 20) - T 6))) 11 (T 11 + ((if w = 0 then T 19 + T 5 else T 20) - T 6)))) (va_up (va_up (nt_X (va_up X 1 (X 1))) 4 (cp_N (X 1) (X 4) 80)) 1 (upd (upd T 6 (T 6 + ((if w = 0 then T 19 + T 5 else T 20) - T 6))) 11 (T 11 + ((if w = 0 then T 19 + T 5 else T 20) - T 6)))) (hG.nx hp (by omega) (hIT2)) (hF _ (fun q => absurd q c) (fun _ q => absurd q d) (fun _ _ q => absurd q (show ¬ (1 : Int32) = 0 by decide)) (fun _ _ _ ν' r => FQ.up r)) (fun ν1 => sp_M_home hm (hr ν1)) (sm_4 (by rw [va_id]))
theorem bo_check {Γ : cx_T} {τ : Nat × (Nat → sh_T)} {ν : Nat → Nat → Int32} {f m : Nat} {X : Nat → Nat → Int32} {K : Int} (hf : sh_F τ.2 f) (hm : sh_M τ.2 m) (h : RL ν f X) (hG : GI X K) (hK : K ≤ 360000000) (hs : st_P Γ τ ν) {w : Int32} : BO Γ τ ν f m X mk_F_check mk_M_check [.int w] K := by
  have hI := hG.1
  have hp := (RF.id h).PS
  by_cases c : in_I w 0 1 = 0
  · exact BO.mk (-1000001) X (va_up X 1 (X 1)) (hG.w (by omega)) (sp_F_check hf h (fun _ => FQ.rd h) (fun q => absurd c q) (fun q => absurd c q) (fun q => absurd c q)) (fun ν1 => sp_M_checkE hm (sp_M_reachesB hm c) (by decide)) (sm_a va_id)
  · by_cases d : X 1 18 = 0
    · exact BO.mk (-1000002) X (va_up X 1 (X 1)) (hG.w (by omega)) (sp_F_check hf h (fun q => absurd q c) (fun _ _ => FQ.rd h) (fun _ q => absurd d q) (fun _ q => absurd d q)) (fun ν1 => sp_M_checkE hm (sp_M_reachesI hm c d) (by decide)) (sm_a va_id)
    · have hw : w = 0 ∨ w = 1 := by
        obtain ⟨k, hk, rfl⟩ := in_nI (x := w) (k := 1) c (by decide)
        rcases (show k = 0 ∨ k = 1 by omega) with z | z <;> rw [z]
        · exact Or.inl rfl
        · exact Or.inr rfl
      rcases hI.sk hK hw d with ⟨s1, s2⟩ | ⟨s1, s2⟩
      · exact BO.mk (-1000009) X (va_up (va_up X 4 (cp_N (se_S (X 1) w).1 (X 4) 80)) 1 (X 1)) (hG.w (by omega)) (sp_F_check hf h (fun q => absurd q c) (fun _ q => absurd q d) (fun _ _ _ ν' r => FQ.up r) (fun _ _ q => absurd s2 q)) (fun ν1 => sp_M_checkE hm (sp_M_reachesN hm hI.lk.1 c d s1) (by decide)) (by have z := sm_4 (X := X) (Z := X) (S := X 1) (B := cp_N (se_S (X 1) w).1 (X 4) 80) rfl; rw [va_id] at z; exact z)
      · have hIT : IV (upd (se_S (X 1) w).1 17 ((se_S (X 1) w).1 17 + 1)) (K + 640100) := (hI.se hK).ac
        have hr := fun ν1 : Nat → Nat → Int32 => sp_M_reaches (Γ := Γ) (ν := ν1) (X := X) (S := X 1) hm hp hI.lk.1 c d s1
        have hF := fun Q => @sp_F_check Γ τ ν f X hf h w Q
        rw [s2] at hF
        have e18 : (upd (se_S (X 1) w).1 17 ((se_S (X 1) w).1 17 + 1)) 18 = X 1 18 := by rw [ud_ne (by omega), se_o (by omega)]
        generalize (upd (se_S (X 1) w).1 17 ((se_S (X 1) w).1 17 + 1)) = T at hIT hr hF e18
        have hf1 := hIT.2.2.2.1.2 (by rw [e18]; exact hI.2.2.2.1.1.resolve_left d)
        have h5 := hIT.1.2.2
        have hdue : -20100 ≤ (if w = 0 then T 19 + T 5 else T 20).toInt ∧ (if w = 0 then T 19 + T 5 else T 20).toInt ≤ 20100 := by
          split
          · rw [ti_add (by omega)]; omega
          · omega
        obtain ⟨c9, hb⟩ := hIT.2.2.1
        have hc9 : 0 ≤ c9 := by have := hb.1; omega
        have e6 : T 6 + ((if w = 0 then T 19 + T 5 else T 20) - T 6) = (if w = 0 then T 19 + T 5 else T 20) := by rw [Int32.add_comm, Int32.sub_add_cancel]
        have hIT2 : IV (upd (upd T 6 (T 6 + ((if w = 0 then T 19 + T 5 else T 20) - T 6))) 11 (T 11 + ((if w = 0 then T 19 + T 5 else T 20) - T 6))) (K + 700000) := by
          rw [e6]
          exact hIT.ct hb (c' := 20100) hdue (by omega)
        exact BO.mk (T 6 - (if w = 0 then T 19 + T 5 else T 20)) (va_up (nt_X X) 1 (T)) (va_up (va_up (nt_X (va_up X 1 (X 1))) 4 (cp_N (X 1) (X 4) 80)) 1 (T)) (hG.nx hp (by omega) (hIT.w (by omega))) (hF _ (fun q => absurd q c) (fun _ q => absurd q d) (fun _ _ q => absurd q (show ¬ (1 : Int32) = 0 by decide)) (fun _ _ _ ν' r => FQ.up r)) (fun ν1 => sp_M_check hm (hr ν1)) (sm_4 (by rw [va_id]))
theorem bo_keep {Γ : cx_T} {τ : Nat × (Nat → sh_T)} {ν : Nat → Nat → Int32} {f m : Nat} {X : Nat → Nat → Int32} {K : Int} (hf : sh_F τ.2 f) (hm : sh_M τ.2 m) (h : RL ν f X) (hG : GI X K) (hK : K ≤ 360000000) (hs : st_P Γ τ ν) {i : Int32} : BO Γ τ ν f m X mk_F_keep mk_M_keep [.int i] K := by
  have hI := hG.1
  have hp := (RF.id h).PS
  by_cases c : in_I i 0 1 = 0
  · exact BO.mx (-1000001) X X (hG.w (by omega)) (sp_F_keepB hf h c (FQ.rd h)) (fun ν1 => sp_M_keepB hm c) (sm_a rfl)
  · obtain ⟨q, hq, rfl⟩ := in_nI (x := i) (k := 1) c (by decide)
    obtain ⟨z, hz, ez⟩ := h.2.1.2
    have hkb := kb_T z hz q (by omega)
    refine BO.mx (X 1 6) (up_2 (va_up X 3 (pa_N (X 3) (80 * q) (X 1) 80)) 0 4 (X 0 4 ||| 1 <<< (nI q &&& 31))) (up_2 (va_up X 3 (pa_N (X 3) (80 * q) (X 1) 80)) 0 4 (X 0 4 ||| 1 <<< (nI q &&& 31))) ?_ (sp_F_keep hf h rfl (by omega) (fun ν' r => FQ.up r)) (fun ν1 => sp_M_keep hm (by omega) c) (sm_a rfl)
    have hG2 := hG.w (K' := K + 700000) (by omega)
    refine ⟨hG2.1, fun i hi hb => ?_, hG2.2.2⟩
    show IV (fun j => pa_N (X 3) (80 * q) (X 1) 80 (80 * i + j)) _
    have hb : ¬ (X 0 4 ||| 1 <<< (nI q &&& 31)) >>> (nI i &&& 31) &&& 1 = 0 := hb
    rw [ez] at hb
    by_cases e : i = q
    · subst e
      refine hG2.1.eq fun j hj => ?_
      unfold pa_N
      rw [if_pos (by omega), show 80 * i + j - 80 * i = j by omega]
    · refine (hG2.2.1 i hi (by rw [ez]; exact fun y => hb ((hkb.2.2 i hi e).trans y))).eq fun j hj => ?_
      unfold pa_N
      rw [if_neg (by omega)]
theorem bo_back {Γ : cx_T} {τ : Nat × (Nat → sh_T)} {ν : Nat → Nat → Int32} {f m : Nat} {X : Nat → Nat → Int32} {K : Int} (hf : sh_F τ.2 f) (hm : sh_M τ.2 m) (h : RL ν f X) (hG : GI X K) (hK : K ≤ 360000000) (hs : st_P Γ τ ν) {i : Int32} : BO Γ τ ν f m X mk_F_back mk_M_back [.int i] K := by
  have hI := hG.1
  have hp := (RF.id h).PS
  by_cases c : in_I i 0 1 = 0
  · exact BO.mx (-1000001) X X (hG.w (by omega)) (sp_F_backB hf h c (FQ.rd h)) (fun ν1 => sp_M_backB hm c) (sm_a rfl)
  · obtain ⟨q, hq, rfl⟩ := in_nI (x := i) (k := 1) c (by decide)
    by_cases d : X 0 4 >>> (nI q &&& 31) &&& 1 = 0
    · exact BO.mx (-1000002) X X (hG.w (by omega)) (sp_F_back hf h rfl (by omega) (fun _ => FQ.rd h) (fun y => absurd d y)) (fun ν1 => sp_M_backI hm c d) (sm_a rfl)
    · have e3 : nt_X X 3 = X 3 := nt_o (by omega) (by omega)
      have e6 : cp_N (fun k => nt_X X 3 (80 * q + k)) (nt_X X 1) 80 6 = X 3 (80 * q + 6) := by
        unfold cp_N
        rw [if_pos (by omega), e3]
      refine BO.mx (X 3 (80 * q + 6)) (va_up (nt_X X) 1 (fun k => X 3 (80 * q + k))) (va_up (nt_X X) 1 (cp_N (fun k => (nt_X X) 3 (80 * q + k)) ((nt_X X) 1) 80)) (hG.nx hp (by omega) ((hG.2.1 q (by omega) d).w (by omega))) (sp_F_back hf h rfl (by omega) (fun y => absurd y d) (fun _ ν' r => FQ.up r)) (fun ν1 => by rw [← e6]; exact sp_M_back hm (by omega) hp c d) ⟨fun j hj => ?_, rfl, rfl, rfl, fun _ _ _ => rfl⟩
      show cp_N (fun k => nt_X X 3 (80 * q + k)) (nt_X X 1) 80 j = X 3 (80 * q + j)
      unfold cp_N
      rw [if_pos hj, e3]
theorem bo_undo {Γ : cx_T} {τ : Nat × (Nat → sh_T)} {ν : Nat → Nat → Int32} {f m : Nat} {X : Nat → Nat → Int32} {K : Int} (hf : sh_F τ.2 f) (hm : sh_M τ.2 m) (h : RL ν f X) (hG : GI X K) (hK : K ≤ 360000000) (hs : st_P Γ τ ν) : BO Γ τ ν f m X mk_F_undo mk_M_undo [] K := by
  have hI := hG.1
  have hp := (RF.id h).PS
  obtain ⟨n, hn, en⟩ := hp
  match n, hn, en with
  | 0, _, en =>
    exact BO.mx (-1000002) X X (hG.w (by omega)) (sp_F_undo0 hf h en (FQ.rd h)) (fun ν1 => sp_M_undo0 hm en) (sm_a rfl)
  | n + 1, hn, en =>
    refine BO.mx (nI n) (va_up (up_2 X 0 2 (nI n)) 1 (fun i => X 2 (80 * n + i))) (va_up (up_2 X 0 2 (nI n)) 1 (cp_N (fun k => X 2 (80 * n + k)) (X 1) 80)) ?_ (sp_F_undo hf h en (by omega) (fun ν' r => FQ.up r)) (fun ν1 => sp_M_undo hm en (by omega)) ⟨fun j hj => ?_, rfl, rfl, rfl, fun _ _ _ => rfl⟩
    · have hG2 := hG.w (K' := K + 700000) (by omega)
      refine ⟨hG2.2.2 (n + 1) hn en n (by omega), hG2.2.1, fun n9 hn9 e9 j hj => ?_⟩
      have e9 : nI n = nI n9 := e9
      have e : n = n9 := (nI_eq (by omega) (by omega)).mp e9
      exact hG2.2.2 (n + 1) hn en j (by omega)
    · show cp_N (fun k => X 2 (80 * n + k)) (X 1) 80 j = X 2 (80 * n + j)
      unfold cp_N
      rw [if_pos hj]
