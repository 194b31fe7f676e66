/-! p29: how far things come by a call -/
theorem tv_mk {S : Nat → Int32} {C c : Int} {x : Int32} (hM : MI S C) (hE : ai_S S x = am_S S x) (hp : ¬ ip_I (ai_S S x) = 0) (h6 : -c ≤ (S 6).toInt ∧ (S 6).toInt ≤ c) (hC : C + c + 20200 ≤ 1000000000) : ∃ (d : Int32) (k s0 : Nat), (d = 1 ∨ d = -1) ∧ (S 0 = nI s0 ∧ 1 ≤ s0 ∧ s0 ≤ 16) ∧ (∀ T : Nat → Int32, am_S T x = am_S S x → T 6 = S 6 → T 0 = S 0 → mo_S T x = fi_S d k T) ∧ tv_S S x = (fi_S d k S, he_I d k S 0) ∧ (k * s0 : Nat) ≤ c + 20000 ∧ ((am_S S x).toInt - 15 ≤ (S 6).toInt + (d * nI (k * s0)).toInt ∧ (S 6).toInt + (d * nI (k * s0)).toInt ≤ (am_S S x).toInt + 15) := by
  obtain ⟨s0, h0, h16⟩ := hM.s0
  have hA : -20000 ≤ (am_S S x).toInt ∧ (am_S S x).toInt ≤ 20000 := by
    rw [hE] at hp
    have q1 : ¬ am_S S x < -20000 := fun q => hp (if_pos (Or.inl q))
    have q2 : ¬ 20000 < am_S S x := fun q => hp (if_pos (Or.inr q))
    rw [ti_lt] at q1 q2
    exact ⟨Int.not_lt.mp q1, Int.not_lt.mp q2⟩
  have hC0 : 0 ≤ C := by have := hM.2.2.2.2.1; omega
  have e1 : st_S S (ai_S S x) = (am_S S x - S 6) / S 0 := by
    unfold st_S
    rw [hE, if_pos (by rw [ti_lt, h0, nI_toInt (by omega), t0]; omega)]
  have etv : tv_S S x = tl_S (ab_I ((am_S S x - S 6) / S 0)).toNatClampNeg S (sg_I ((am_S S x - S 6) / S 0)) (ab_I ((am_S S x - S 6) / S 0)) 0 := by
    unfold tv_S
    rw [if_neg hp, e1]
  have emo : ∀ T : Nat → Int32, am_S T x = am_S S x → T 6 = S 6 → T 0 = S 0 → mo_S T x = fi_S (sn_I ((am_S S x - S 6) / S 0)) (sz_I ((am_S S x - S 6) / S 0)).toNatClampNeg T := fun T e1 e2 e3 => by unfold mo_S; rw [e1, e2, e3]
  have hsub : (am_S S x - S 6).toInt = (am_S S x).toInt - (S 6).toInt := ti_sub (by omega)
  rw [h0] at etv
  have emo : ∀ T : Nat → Int32, am_S T x = am_S S x → T 6 = S 6 → T 0 = S 0 → mo_S T x = fi_S (sn_I ((am_S S x - S 6) / nI s0)) (sz_I ((am_S S x - S 6) / nI s0)).toNatClampNeg T := fun T e1 e2 e3 => by rw [emo T e1 e2 e3, h0]
  by_cases hD : 0 ≤ (am_S S x).toInt - (S 6).toInt
  · obtain ⟨p, hp⟩ : ∃ p : Nat, (p : Int) = (am_S S x).toInt - (S 6).toInt := ⟨((am_S S x).toInt - (S 6).toInt).toNat, by omega⟩
    have e2 : am_S S x - S 6 = nI p := by rw [ti_eq, hsub, nI_toInt (by omega)]; omega
    have e3 : (am_S S x - S 6) / nI s0 = nI (p / s0) := by rw [e2, pk_div (by omega) (by omega) (by omega)]
    have g1 : p / s0 * s0 ≤ p := Nat.div_mul_le_self p s0
    have g2 := Nat.div_add_mod p s0
    have g3 := Nat.mod_lt p (show s0 > 0 by omega)
    have g4 := Nat.mul_comm s0 (p / s0)
    have g5 : p / s0 ≤ p := Nat.div_le_self p s0
    rw [e3] at etv emo
    generalize p / s0 = k at etv emo g1 g2 g4 g5
    rw [g4] at g2
    rw [sn_p (by omega), sz_p (by omega), nI_clamp (by omega)] at emo
    have etv2 : tv_S S x = tl_S k S 1 (nI k) 0 := by
      rw [etv, show ab_I (nI k) = nI k from sz_p (by omega), nI_clamp (by omega)]
      by_cases z : k = 0
      · subst z; rfl
      · rw [sg_0' _ (nI_lt (a := 0) (by omega) (by omega))]
    rw [tl_fi (Or.inl rfl) h16.2 k k S C 0 (Nat.le_refl _) hM h0 (by omega)] at etv2
    refine ⟨1, k, s0, Or.inl rfl, ⟨h0, h16⟩, emo, etv2, by omega, ?_⟩
    rw [Int32.one_mul, nI_toInt (by omega)]
    omega
  · obtain ⟨p, hp⟩ : ∃ p : Nat, (p : Int) = -((am_S S x).toInt - (S 6).toInt) := ⟨(-((am_S S x).toInt - (S 6).toInt)).toNat, by omega⟩
    have e2 : am_S S x - S 6 = -(nI p) := by rw [ti_eq, hsub, nn_toInt (by omega)]; omega
    have e3 : (am_S S x - S 6) / nI s0 = -(nI (p / s0)) := by rw [e2, dv_neg (by omega) (by omega) (by omega)]
    have g1 : p / s0 * s0 ≤ p := Nat.div_mul_le_self p s0
    have g2 := Nat.div_add_mod p s0
    have g3 := Nat.mod_lt p (show s0 > 0 by omega)
    have g4 := Nat.mul_comm s0 (p / s0)
    have g5 : p / s0 ≤ p := Nat.div_le_self p s0
    rw [e3] at etv emo
    generalize p / s0 = k at etv emo g1 g2 g4 g5
    rw [g4] at g2
    rw [sz_m (by omega), nI_clamp (by omega)] at emo
    rw [show ab_I (-(nI k)) = nI k from sz_m (by omega), nI_clamp (by omega)] at etv
    by_cases z : k = 0
    · subst z
      refine ⟨-1, 0, s0, Or.inr rfl, ⟨h0, h16⟩, emo, etv, by omega, ?_⟩
      rw [neg1, nn_toInt (by omega)]
      omega
    · rw [sn_m (by omega) (by omega)] at emo
      rw [sg_m _ (by rw [ti_lt, nn_toInt (by omega), t0]; omega), tl_fi (Or.inr rfl) h16.2 k k S C 0 (Nat.le_refl _) hM h0 (by omega)] at etv
      refine ⟨-1, k, s0, Or.inr rfl, ⟨h0, h16⟩, emo, etv, by omega, ?_⟩
      rw [neg1, nn_toInt (by omega)]
      omega
def LB (S : Nat → Int32) (M : Int) : Prop := (-M ≤ (S 7).toInt ∧ (S 7).toInt ≤ M) ∧ -M ≤ (S 10 + S 11).toInt ∧ (S 10 + S 11).toInt ≤ M
def FB (S : Nat → Int32) : Prop := S 18 = 1 → (-500 ≤ (S 19).toInt ∧ (S 19).toInt ≤ 500) ∧ -500 ≤ (S 20).toInt ∧ (S 20).toInt ≤ 500
def CB (S : Nat → Int32) : Prop := ∀ i : Nat, i < ls_n S 63 → -400 ≤ (ls_P S 63 i).toInt ∧ (ls_P S 63 i).toInt ≤ 400
def NB (S : Nat → Int32) : Prop := 0 ≤ (S 1).toInt ∧ 0 ≤ (S 2).toInt ∧ 0 ≤ (S 3).toInt
def WQ (S : Nat → Int32) (K N M : Int) : Prop := IV S K ∧ JV S N ∧ LB S M ∧ FB S ∧ CB S ∧ NB S
theorem LB.w {S : Nat → Int32} {M M' : Int} (h : LB S M) (hM : M ≤ M') : LB S M' := by
  obtain ⟨h1, h2⟩ := h
  exact ⟨⟨by omega, by omega⟩, by omega, by omega⟩
theorem WQ.w {S : Nat → Int32} {K N M K' N' M' : Int} (h : WQ S K N M) (hK : K ≤ K') (hN : N ≤ N') (hM : M ≤ M') : WQ S K' N' M' := by
  obtain ⟨h1, h2, h3, h4⟩ := h
  exact ⟨h1.w hK, h2.w hN, h3.w hM, h4⟩
theorem CB.el {S T : Nat → Int32} (h : CB S) (e : EL S T 63) : CB T := fun i hi => by
  rw [← (e.2 i hi).1]
  exact h i (by rw [e.n]; exact hi)
theorem CB.cg {S T : Nat → Int32} (h : CB S) (hn : ls_n S 63 ≤ 8) (e : ∀ j : Nat, 63 ≤ j → j ≤ 79 → T j = S j) : CB T := by
  refine h.el (EL.of (N := 8) ?_ fun j a b => (e j (by omega) (by omega)).symm)
  unfold ls_n at hn ⊢
  rw [e 63 (by omega) (by omega)]; exact hn
/-- scalars alone count for the rest -/
theorem WQ.cg {S T : Nat → Int32} {K N M : Int} (h : WQ S K N M) (hI : IV T K) (hC : CB T) (e : ∀ j : Nat, (1 ≤ j ∧ j ≤ 3) ∨ (6 ≤ j ∧ j ≤ 20) → T j = S j) : WQ T K N M := by
  obtain ⟨h1, h2, h3, h4, h5, h6⟩ := h
  refine ⟨hI, h2.cg fun j a b => e j (by omega), ?_, ?_, hC, ?_⟩
  · unfold LB at *
    rw [e 7 (by omega), e 10 (by omega), e 11 (by omega)]; exact h3
  · unfold FB at *
    rw [e 18 (by omega), e 19 (by omega), e 20 (by omega)]; exact h4
  · unfold NB at *
    rw [e 1 (by omega), e 2 (by omega), e 3 (by omega)]; exact h6
/-- the counter out of its parts -/
theorem WQ.c {S : Nat → Int32} {K N M : Int} (h : WQ S K N M) (hM : M ≤ 1000000) : (S 6).toInt = (S 7).toInt + (S 9).toInt + (S 10 + S 11).toInt := by
  obtain ⟨h1, h2, h3, h4⟩ := h
  have h9 := h1.2.1.1
  obtain ⟨l1, l2⟩ := h3
  have e : S 6 = (S 7 + S 9) + (S 10 + S 11) := by rw [h2.1]; grind
  have e1 : (S 7 + S 9).toInt = (S 7).toInt + (S 9).toInt := ti_add (by omega)
  rw [e, ti_add (by omega), e1]
/-- a move -/
theorem WQ.mv {S : Nat → Int32} {K N M : Int} {x : Int32} (h : WQ S K N M) (hK : K ≤ 400000000) (hN : N ≤ 1000000000) (hM : 1000 ≤ M ∧ M ≤ 400000) (hx : -400 ≤ x.toInt ∧ x.toInt ≤ 400) (hp : ¬ in_I (am_S S x) (-20000) 20000 = 0) : WQ (mo_S S x) (K + 41000) (N + 900000) (M + 1600) := by
  have hc := h.c (by omega)
  obtain ⟨h1, h2, h3, h4, h5, h6⟩ := h
  have h9 := h1.2.1.1
  have hL := h3
  obtain ⟨l1, l2⟩ := hL
  have hI := (h1.mv hK (x := x) (by omega) hp).1
  obtain ⟨c, hb⟩ := h1.2.2.1
  have hc0 : c ≤ K := by have := hb.2.2; omega
  have hc1 : 0 ≤ c := by have := hb.1; omega
  have hE := h1.ai (x := x) (by omega)
  obtain ⟨d, k, s0, hd, h0, g1, g2, g3, g4⟩ := tv_mk (h1.M hb) hE (by rw [hE]; exact hp) hb.1 (by omega)
  have em := em_rg (x := x) h1.2.2.2.2.2.1 (by omega)
  have ea : (am_S S x).toInt = x.toInt + (em_S S x).toInt := ti_add (by omega)
  have e := g1 S rfl rfl rfl
  rw [e] at hI ⊢
  have hks : k ≤ k * s0 := Nat.le_mul_of_pos_right k (by omega)
  have e6 := fi_6 (d := d) k S h0.1
  have dt := d_ti (x := nI (k * s0)) hd (by rw [nI_toInt (by omega)]; omega)
  rw [nI_toInt (by omega)] at dt
  have t6 : (fi_S d k S 6).toInt = (S 6).toInt + (d * nI (k * s0)).toInt := by rw [e6, ti_add (by omega)]
  have hkb : (k * s0 : Nat) ≤ 899000 := by omega
  have hJ := JV.fi (d := d) k S N h2 (by omega)
  have t9 := hI.2.1.1
  have t7 : -(M + 780) ≤ (fi_S d k S 7).toInt ∧ (fi_S d k S 7).toInt ≤ M + 780 := by
    rcases fi_m (d := d) h0.1 k with ⟨a1, _⟩ | ⟨j, hj, a1, _⟩
    · rw [a1]; omega
    · have hjk : j * s0 ≤ k * s0 := Nat.mul_le_mul_right s0 hj.2
      have dj := d_ti (x := nI (j * s0)) hd (by rw [nI_toInt (by omega)]; omega)
      rw [nI_toInt (by omega)] at dj
      have q1 : (S 7 + S 9).toInt = (S 7).toInt + (S 9).toInt := ti_add (by omega)
      have q2 : (fi_S d k S 7).toInt = (S 7).toInt + (S 9).toInt + (d * nI (j * s0)).toInt := by rw [a1, ti_add (by omega), q1]
      rcases dt with ⟨rfl, dt⟩ | ⟨rfl, dt⟩ <;> rcases dj with ⟨dd, dj⟩ | ⟨dd, dj⟩ <;> first | exact absurd dd (by decide) | omega
  have o : ∀ j : Nat, (j < 6 ∨ j = 11 ∨ 17 ≤ j) → fi_S d k S j = S j := fun j hj => fi_o hj k S
  refine ⟨hI, hJ.w (by omega), ⟨⟨by omega, by omega⟩, ?_⟩, ?_, h5.cg h1.lk.2.2.1 fun j a b => o j (by omega), ?_⟩
  · have q : fi_S d k S 10 + fi_S d k S 11 = fi_S d k S 6 - (fi_S d k S 7 + fi_S d k S 9) := by rw [hJ.1]; grind
    have q1 : (fi_S d k S 7 + fi_S d k S 9).toInt = (fi_S d k S 7).toInt + (fi_S d k S 9).toInt := ti_add (by omega)
    rw [q, ti_sub (by omega), q1]
    omega
  · unfold FB at *
    rw [o 18 (by omega), o 19 (by omega), o 20 (by omega)]; exact h4
  · unfold NB at *
    rw [o 1 (by omega), o 2 (by omega), o 3 (by omega)]; exact h6
theorem WQ.cd {S : Nat → Int32} {K N M : Int} (h : WQ S K N M) : WQ (cd_S S) K N M := by
  refine h.cg h.1.cd ?_ fun j hj => cd_o (by omega)
  have k := h.1.lk
  refine CB.el ?_ (ct_EV k.1 k.2.1 k.2.2).2.2.2
  have h8 := k.2.2.1
  intro i hi
  have hn : ls_n (ct_S S) 63 = ls_n S 63 - 1 := by
    unfold ct_S
    rw [rw_n (by omega)]
  rw [hn] at hi
  unfold ct_S
  rw [rw_P hi]
  exact h.2.2.2.2.1 (i + 1) (by omega)
theorem WQ.ro {S : Nat → Int32} {K N M : Int} (h : WQ S K N M) (hK : K ≤ 400000000) (hN : N ≤ 1000000000) (hM : 1000 ≤ M ∧ M ≤ 400000) (hn : 0 < ls_n S 63) : WQ (ro_S S) (K + 41000) (N + 900000) (M + 1600) := by
  have hx := h.2.2.2.2.1 0 hn
  have hx : -400 ≤ (S 64).toInt ∧ (S 64).toInt ≤ 400 := hx
  unfold ro_S
  by_cases q : in_I (am_S (cd_S S) (S 64)) (-20000) 20000 = 0
  · rw [if_pos q]
    exact h.cd.w (by omega) (by omega) (by omega)
  · rw [if_neg q]
    exact h.cd.mv hK hN hM hx q
theorem WQ.rn : ∀ (c : Nat) (S : Nat → Int32) (K N M : Int), WQ S K N M → K + 41000 * c ≤ 400000000 → N + 900000 * c ≤ 1000000000 → 1000 ≤ M → M + 1600 * c ≤ 400000 → WQ (rn_S c S) (K + 41000 * c) (N + 900000 * c) (M + 1600 * c)
  | 0, S, K, N, M, h, _, _, _, _ => h.w (by omega) (by omega) (by omega)
  | c + 1, S, K, N, M, h, hK, hN, hM, hM2 => by
    unfold rn_S
    by_cases z : ls_n S 63 = 0
    · rw [if_pos z]; exact h.w (by omega) (by omega) (by omega)
    · rw [if_neg z]
      exact (WQ.rn c (ro_S S) (K + 41000) (N + 900000) (M + 1600) (h.ro (by omega) (by omega) ⟨by omega, by omega⟩ (by omega)) (by omega) (by omega) (by omega) (by omega)).w (by omega) (by omega) (by omega)
/-- one microstep moves the table a little -/
theorem ms_b {S : Nat → Int32} {d : Int32} {C : Int} (hd : d = 1 ∨ d = -1) (hM : MI S C) (hC : C ≤ 999999900) : (S 8).toInt - 98 ≤ (ms_S S d 8).toInt ∧ (ms_S S d 8).toInt ≤ (S 8).toInt + 98 := by
  have hT := (MI.ms hd hM (by have := hM.1.2; omega)).2.2.2.1
  obtain ⟨m1, m2, m3, m4, m5, m6⟩ := hM
  by_cases hs : St S
  · rw [ms_8y hs]; omega
  · have dt := d_ti (x := S 0) hd (by omega)
    have q1 : (S 9 + d * S 0).toInt = (S 9).toInt + (d * S 0).toInt := ti_add (by omega)
    have e7 : (ms_S S d 7).toInt = (S 7).toInt + ((S 9).toInt + (d * S 0).toInt) := by rw [ms_7n hs, ti_add (by omega), q1]
    omega
/-- where the motor is when the flag is reached -/
theorem se_end {S : Nat → Int32} {K : Int} {w : Int32} (h : IV S K) (hK : K ≤ 360000000) (hf : (-500 ≤ (S 19).toInt ∧ (S 19).toInt ≤ 500) ∧ -500 ≤ (S 20).toInt ∧ (S 20).toInt ≤ 500) (hs : ¬ (se_S S w).2 = 0) : -700 ≤ ((se_S S w).1 7).toInt ∧ ((se_S S w).1 7).toInt ≤ 700 := by
  have hT := (h.se (w := w) hK).2.1.2
  obtain ⟨c, hb⟩ := h.2.2.1
  have hc : c ≤ K := by have := hb.2.2; omega
  have hc0 : 0 ≤ c := by have := hb.1; omega
  obtain ⟨s0, h0, h16⟩ := (h.M hb).s0
  have hMI : ∀ (d d' : Int32) (j i : Nat), (d = 1 ∨ d = -1) → (d' = 1 ∨ d' = -1) → j + i ≤ 20001 → MI (fi_S d' i (fi_S d j S)) 900000000 := by
    intro d d' j i hd hd' hji
    have hm : (j + i) * s0 ≤ 20001 * 16 := Nat.mul_le_mul hji h16.2
    rw [Nat.add_mul] at hm
    have a := MI.fi hd h16.2 j S _ (h.M hb) h0 (by omega)
    exact (MI.fi hd' h16.2 i _ _ a (by rw [fi_o (by omega)]; exact h0) (by omega)).w (by omega)
  revert hs hT
  unfold se_S
  by_cases hw : w = 0
  · rw [if_pos hw]
    intro hs hT
    obtain ⟨i, i1, i2⟩ := lp_fi (c := fun T => decide (T 8 < S 19 - 16)) (d := -1) 20001 S
    have r1 := lp_end (c := fun T => decide (T 8 < S 19 - 16)) (d := -1) 20001 S
    generalize lp_S (fun T => decide (T 8 < S 19 - 16)) (-1) 20001 S = R at i1 i2 r1 hT hs ⊢
    obtain ⟨V, n⟩ := R
    dsimp only at *
    have r2 := lp_end (c := fun T => decide (S 19 ≤ T 8)) (d := 1) n V
    have hn : ¬ n = 0 := fun q => by subst q; exact hs rfl
    rcases r2 with q | ⟨q1, q2⟩
    · exact absurd q hs
    · have q1 : S 19 ≤ _ := of_decide_eq_true q1
      rw [ti_le] at q1
      rcases q2 with q2 | ⟨j, q2, q3, q4⟩
      · rw [q2] at q1 hT ⊢
        rcases r1 with r | ⟨r, _⟩
        · exact absurd r hn
        · have r : V 8 < S 19 - 16 := of_decide_eq_true r
          rw [ti_lt, ti_sub (by show _ ≤ _ - (16 : Int) ∧ _ - (16 : Int) ≤ _; omega)] at r
          have r : (V 8).toInt < (S 19).toInt - (16 : Int) := r
          omega
      · have q4 : ¬ S 19 ≤ fi_S 1 j V 8 := fun z => q4 (decide_eq_true z)
        rw [ti_le] at q4
        have m := ms_b (d := 1) (Or.inl rfl) (hMI (-1) 1 i j (Or.inr rfl) (Or.inl rfl) (by omega)) (by omega)
        rw [← i1, ← q3] at m
        omega
  · rw [if_neg hw]
    intro hs hT
    obtain ⟨i, i1, i2⟩ := lp_fi (c := fun T => decide (S 20 + 16 < T 8)) (d := 1) 20001 S
    have r1 := lp_end (c := fun T => decide (S 20 + 16 < T 8)) (d := 1) 20001 S
    generalize lp_S (fun T => decide (S 20 + 16 < T 8)) 1 20001 S = R at i1 i2 r1 hT hs ⊢
    obtain ⟨V, n⟩ := R
    dsimp only at *
    have r2 := lp_end (c := fun T => decide (T 8 ≤ S 20)) (d := -1) n V
    have hn : ¬ n = 0 := fun q => by subst q; exact hs rfl
    rcases r2 with q | ⟨q1, q2⟩
    · exact absurd q hs
    · have q1 : _ ≤ S 20 := of_decide_eq_true q1
      rw [ti_le] at q1
      rcases q2 with q2 | ⟨j, q2, q3, q4⟩
      · rw [q2] at q1 hT ⊢
        rcases r1 with r | ⟨r, _⟩
        · exact absurd r hn
        · have r : S 20 + 16 < V 8 := of_decide_eq_true r
          rw [ti_lt, ti_add (by show _ ≤ _ + (16 : Int) ∧ _ + (16 : Int) ≤ _; omega)] at r
          have r : (S 20).toInt + (16 : Int) < (V 8).toInt := r
          omega
      · have q4 : ¬ fi_S (-1) j V 8 ≤ S 20 := fun z => q4 (decide_eq_true z)
        rw [ti_le] at q4
        have m := ms_b (d := -1) (Or.inr rfl) (hMI 1 (-1) i j (Or.inl rfl) (Or.inr rfl) (by omega)) (by omega)
        rw [← i1, ← q3] at m
        omega
theorem JV.se {S : Nat → Int32} {N : Int} {w : Int32} (h : JV S N) (hN : N ≤ 1000000000) : JV (se_S S w).1 (N + 20001) := by
  have key : ∀ (d d' : Int32) (j i : Nat), j + i ≤ 20001 → JV (fi_S d' i (fi_S d j S)) (N + 20001) := fun d d' j i hji =>
    ((h.fi (d := d) j S N (by omega)).fi (d := d') i _ _ (by omega)).w (by omega)
  unfold se_S
  by_cases hw : w = 0
  · rw [if_pos hw]
    obtain ⟨j, j1, j2⟩ := lp_fi (c := fun T => decide (T 8 < S 19 - 16)) (d := -1) 20001 S
    obtain ⟨i, i1, i2⟩ := lp_fi (c := fun T => decide (S 19 ≤ T 8)) (d := 1) (lp_S (fun T => decide (T 8 < S 19 - 16)) (-1) 20001 S).2 (lp_S (fun T => decide (T 8 < S 19 - 16)) (-1) 20001 S).1
    rw [i1, j1]
    exact key _ _ _ _ (by omega)
  · rw [if_neg hw]
    obtain ⟨j, j1, j2⟩ := lp_fi (c := fun T => decide (S 20 + 16 < T 8)) (d := 1) 20001 S
    obtain ⟨i, i1, i2⟩ := lp_fi (c := fun T => decide (T 8 ≤ S 20)) (d := -1) (lp_S (fun T => decide (S 20 + 16 < T 8)) 1 20001 S).2 (lp_S (fun T => decide (S 20 + 16 < T 8)) 1 20001 S).1
    rw [i1, j1]
    exact key _ _ _ _ (by omega)
/-- the flag reached -/
theorem WQ.sk {S : Nat → Int32} {K N M : Int} {w : Int32} (h : WQ S K N M) (hK : K ≤ 360000000) (hN : N ≤ 1000000000) (hM : 1000 ≤ M) (hw : w = 0 ∨ w = 1) (h18 : S 18 = 1) (hs : ¬ (sk_S S w).2 = 0) : WQ (sk_S S w).1 (K + 640100) (N + 20001) M ∧ -700 ≤ ((sk_S S w).1 7).toInt ∧ ((sk_S S w).1 7).toInt ≤ 700 := by
  have hd := sk_10 (S := S) (w := w)
  obtain ⟨h1, h2, h3, h4, h5, h6⟩ := h
  rcases h1.sk hK hw (by rw [h18]; decide) with ⟨s1, s2⟩ | ⟨s1, s2⟩
  · exact absurd s2 hs
  · have he := se_end h1 hK (h4 h18) s1
    have hI : IV (upd (se_S S w).1 17 ((se_S S w).1 17 + 1)) (K + 640100) := (h1.se hK).ac
    have hJ : JV (upd (se_S S w).1 17 ((se_S S w).1 17 + 1)) (N + 20001) := (h2.se (w := w) hN).cg fun j a b => ud_ne (by omega)
    have o : ∀ j : Nat, (1 ≤ j ∧ j ≤ 3) ∨ 18 ≤ j → upd (se_S S w).1 17 ((se_S S w).1 17 + 1) j = S j := fun j hj => by rw [ud_ne (by omega), se_o (by omega)]
    have e7 : upd (se_S S w).1 17 ((se_S S w).1 17 + 1) 7 = (se_S S w).1 7 := ud_ne (by omega)
    rw [s2] at hd ⊢
    dsimp only at hd ⊢
    generalize upd (se_S S w).1 17 ((se_S S w).1 17 + 1) = T at hd hI hJ o e7 ⊢
    rw [← e7] at he
    refine ⟨⟨hI, hJ, ⟨⟨by omega, by omega⟩, by rw [hd.1, hd.2]; exact h3.2⟩, ?_, h5.cg h1.lk.2.2.1 fun j a b => o j (by omega), ?_⟩, he⟩
    · unfold FB at *
      rw [o 18 (by omega), o 19 (by omega), o 20 (by omega)]; exact h4
    · unfold NB at *
      rw [o 1 (by omega), o 2 (by omega), o 3 (by omega)]; exact h6
/-- the counter told otherwise -/
theorem WQ.ct {S : Nat → Int32} {K N M K' M' : Int} {t : Int32} (h : WQ S K N M) (hI : IV (upd (upd S 6 (S 6 + t)) 11 (S 11 + t)) K') (hM : M ≤ M') (hd : -M' ≤ (S 10 + S 11 + t).toInt ∧ (S 10 + S 11 + t).toInt ≤ M') : WQ (upd (upd S 6 (S 6 + t)) 11 (S 11 + t)) K' N M' := by
  obtain ⟨h1, ⟨j1, j2⟩, h3, h4, h5, h6⟩ := h
  refine ⟨hI, ⟨?_, j2⟩, ⟨(h3.w hM).1, ?_⟩, h4, h5.cg h1.lk.2.2.1 fun j a b => by rw [ud_ne (by omega), ud_ne (by omega)], h6⟩
  · show S 6 + t = S 7 + S 9 + S 10 + (S 11 + t)
    rw [j1]; grind
  · show -M' ≤ (S 10 + (S 11 + t)).toInt ∧ (S 10 + (S 11 + t)).toInt ≤ M'
    rw [← Int32.add_assoc]; exact hd
