def he_I (d : Int32) : Nat → (Nat → Int32) → Int32 → Int32
  | 0, _, h => h
  | k + 1, S, h => he_I d k (ms_S S d) (mx_I h (lo_S S (S 8)))
theorem he_a {d : Int32} (b : Nat) : ∀ (k : Nat) (S : Nat → Int32) (h : Int32), he_I d (k + b) S h = he_I d b (fi_S d k S) (he_I d k S h)
  | 0, S, h => by rw [Nat.zero_add]; rfl
  | k + 1, S, h => by
    rw [show k + 1 + b = (k + b) + 1 by omega]
    exact he_a b k _ _
theorem mx_mx {h x : Int32} : mx_I (mx_I h x) x = mx_I h x := by
  rw [ti_eq, mx_ti, mx_ti]
  repeat' split
  all_goals omega
theorem he_c {d l : Int32} : ∀ (a : Nat) (S : Nat → Int32) (h : Int32), (∀ i : Nat, i < a + 1 → lo_S (fi_S d i S) (fi_S d i S 8) = l) → he_I d (a + 1) S h = mx_I h l
  | 0, S, h, hl => by
    show mx_I h (lo_S S (S 8)) = _
    rw [show lo_S S (S 8) = l from hl 0 (by omega)]
  | a + 1, S, h, hl => by
    show he_I d (a + 1) (ms_S S d) (mx_I h (lo_S S (S 8))) = _
    rw [he_c a (ms_S S d) _ fun i hi => hl (i + 1) (by omega), show lo_S S (S 8) = l from hl 0 (by omega), mx_mx]
def wy_S (S : Nat → Int32) (d : Int32) : Int32 := if d ≤ 0 then S 7 - pk_I (ut_N (ls_P S 21) (S 8) (ls_n S 21) 0) (ls_P S 21) (-1000000000) else pa_I S 21 (S 8) - 1 - (S 7 - S 4)
theorem lo_ut {S V : Nat → Int32} (hV : ∀ j : Nat, 17 ≤ j → V j = S j) (h1 : ∀ i : Nat, i < ut_N (ls_P S 21) (S 8) (ls_n S 21) 0 → ls_P S 21 i ≤ V 8) (h2 : ut_N (ls_P S 21) (S 8) (ls_n S 21) 0 < ls_n S 21 → ¬ ls_P S 21 (ut_N (ls_P S 21) (S 8) (ls_n S 21) 0) ≤ V 8) : lo_S V (V 8) = lo_S S (S 8) := by
  have hl := (ut_le (ls_P S 21) (S 8) (ls_n S 21) 0).2
  rw [lo_cg hV]
  unfold lo_S
  rw [ut_of (x := V 8) (P := ls_P S 21) (ls_n S 21) 0 (ut_N (ls_P S 21) (S 8) (ls_n S 21) 0) (Nat.zero_le _) (by omega) (fun j _ hj => h1 j hj) (fun q => h2 (by omega))]
theorem wy_ok {S : Nat → Int32} {C : Int} {d : Int32} (hd : d = 1 ∨ d = -1) (hM : MI S C) (hC : C ≤ 999999900) (h8 : (S 7).toInt - (S 4).toInt ≤ (S 8).toInt) : ∃ w : Nat, wy_S S d = nI w ∧ w ≤ 2000000100 ∧ ∀ (V : Nat → Int32) (t : Nat), t ≤ w → (V 8).toInt = tb S d t → (∀ j : Nat, 17 ≤ j → V j = S j) → lo_S V (V 8) = lo_S S (S 8) := by
  obtain ⟨m1, m2, m3, m4, m5, hL, hs, hp⟩ := hM
  obtain ⟨u1, u2⟩ := ut_spec (ls_P S 21) (S 8) (ls_n S 21) 0
  have hl := (ut_le (ls_P S 21) (S 8) (ls_n S 21) 0).2
  have k4 : (S 7 - S 4).toInt = (S 7).toInt - (S 4).toInt := ti_sub (by omega)
  have o1 : (1 : Int32).toInt = 1 := rfl
  rcases hd with rfl | rfl
  · have e : wy_S S 1 = pa_I S 21 (S 8) - 1 - (S 7 - S 4) := if_neg (by decide)
    by_cases c : ut_N (ls_P S 21) (S 8) (ls_n S 21) 0 < ls_n S 21
    · have ep : pa_I S 21 (S 8) = ls_P S 21 (ut_N (ls_P S 21) (S 8) (ls_n S 21) 0) := if_pos c
      have g1 := hp _ c
      have g2 := u2 (by omega)
      have g3 := u2 (by omega)
      rw [ti_le] at g2
      have k1 : (ls_P S 21 (ut_N (ls_P S 21) (S 8) (ls_n S 21) 0) - 1).toInt = (ls_P S 21 (ut_N (ls_P S 21) (S 8) (ls_n S 21) 0)).toInt - 1 := by rw [ti_sub (by rw [o1]; omega), o1]
      obtain ⟨w, hw⟩ : ∃ w : Nat, (w : Int) = (ls_P S 21 (ut_N (ls_P S 21) (S 8) (ls_n S 21) 0)).toInt - 1 - ((S 7).toInt - (S 4).toInt) := ⟨((ls_P S 21 (ut_N (ls_P S 21) (S 8) (ls_n S 21) 0)).toInt - 1 - ((S 7).toInt - (S 4).toInt)).toNat, by omega⟩
      refine ⟨w, by rw [e, ep, ti_eq, ti_sub (by rw [k1, k4]; omega), k1, k4, nI_toInt (by omega)]; omega, by omega, fun V t ht h hV => lo_ut hV (fun i hi => ?_) (fun _ => ?_)⟩
      · have := u1 i (Nat.zero_le _) hi
        rw [ti_le] at this ⊢
        rw [h, tb_1]
        split <;> omega
      · rw [ti_le, h, tb_1]
        split <;> omega
    · have ep : pa_I S 21 (S 8) = 1000000000 := if_neg c
      have k1 : ((1000000000 : Int32) - 1).toInt = 999999999 := by decide
      obtain ⟨w, hw⟩ : ∃ w : Nat, (w : Int) = 999999999 - ((S 7).toInt - (S 4).toInt) := ⟨(999999999 - ((S 7).toInt - (S 4).toInt)).toNat, by omega⟩
      refine ⟨w, by rw [e, ep, ti_eq, ti_sub (by rw [k1, k4]; omega), k1, k4, nI_toInt (by omega)]; omega, by omega, fun V t ht h hV => lo_ut hV (fun i hi => ?_) (fun q => absurd q c)⟩
      have := u1 i (Nat.zero_le _) hi
      rw [ti_le] at this ⊢
      rw [h, tb_1]
      split <;> omega
  · have e : wy_S S (-1) = S 7 - pk_I (ut_N (ls_P S 21) (S 8) (ls_n S 21) 0) (ls_P S 21) (-1000000000) := if_pos (by decide)
    have hlo := fun V : Nat → Int32 => @lo_ut S V
    generalize ut_N (ls_P S 21) (S 8) (ls_n S 21) 0 = u at u1 u2 hl e hlo
    match u, u1, u2, hl, e, hlo with
    | 0, u1, u2, hl, e, hlo =>
      have k1 : (-1000000000 : Int32).toInt = -1000000000 := by decide
      obtain ⟨w, hw⟩ : ∃ w : Nat, (w : Int) = (S 7).toInt + 1000000000 := ⟨((S 7).toInt + 1000000000).toNat, by omega⟩
      have e : wy_S S (-1) = S 7 - -1000000000 := e
      refine ⟨w, by rw [e, ti_eq, ti_sub (by rw [k1]; omega), k1, nI_toInt (by omega)]; omega, by omega, fun V t ht h hV => hlo V hV (fun i hi => absurd hi (Nat.not_lt_zero _)) (fun q => ?_)⟩
      have := u2 (by omega)
      rw [ti_le] at this ⊢
      rw [h, tb_m]
      split <;> omega
    | k + 1, u1, u2, hl, e, hlo =>
      have e : wy_S S (-1) = S 7 - ls_P S 21 k := e
      have g1 := hp k (by omega)
      have g2 := u1 k (Nat.zero_le _) (Nat.lt_succ_self _)
      rw [ti_le] at g2
      obtain ⟨w, hw⟩ : ∃ w : Nat, (w : Int) = (S 7).toInt - (ls_P S 21 k).toInt := ⟨((S 7).toInt - (ls_P S 21 k).toInt).toNat, by omega⟩
      refine ⟨w, by rw [e, ti_eq, ti_sub (by omega), nI_toInt (by omega)]; omega, by omega, fun V t ht h hV => hlo V hV (fun i hi => ?_) (fun q => ?_)⟩
      · have g3 : (ls_P S 21 i).toInt ≤ (ls_P S 21 k).toInt := by
          by_cases c : i = k
          · rw [c]; omega
          · have := hs i k (by omega) (by omega)
            omega
        rw [ti_le, h, tb_m]
        split <;> omega
      · have := u2 (by omega)
        rw [ti_le] at this ⊢
        rw [h, tb_m]
        split <;> omega
theorem fi_np {S : Nat → Int32} {d : Int32} {w s0 : Nat} (hd : d = 1 ∨ d = -1) (h0 : S 0 = nI s0) (h16 : s0 ≤ 16) (h4 : 0 ≤ (S 4).toInt ∧ (S 4).toInt ≤ 50) (h9 : S 9 = 0) (h8 : (S 7).toInt - (S 4).toInt ≤ (S 8).toInt ∧ (S 8).toInt ≤ (S 7).toInt) (hst : ¬ St S) (hw : ∀ (V : Nat → Int32) (t : Nat), t ≤ w → (V 8).toInt = tb S d t → (∀ j : Nat, 17 ≤ j → V j = S j) → lo_S V (V 8) = lo_S S (S 8)) : ∀ i : Nat, (∀ j : Nat, j < i → j * s0 ≤ w) → (-1000000000 ≤ (S 7).toInt - (i * s0 : Nat) ∧ (S 7).toInt + (i * s0 : Nat) ≤ 1000000000) → NP S (fi_S d i S) d (i * s0) i
  | 0, _, _ => by
    rw [Nat.zero_mul]
    exact NP.z h9 h8
  | i + 1, hi, hC => by
    have e : (i + 1) * s0 = i * s0 + s0 := Nat.succ_mul i s0
    have ih := fi_np hd h0 h16 h4 h9 h8 hst hw i (fun j hj => hi j (by omega)) (by omega)
    have hl := hw _ _ (hi i (by omega)) ih.2.2.2.2.2.2 (fun j hj => ih.1 j (by omega))
    rw [fi_sn, e]
    refine NP.s hd h0 h16 h4 h8 (by omega) (fun q => hst ?_) ih
    unfold St at q ⊢
    rw [hl] at q
    unfold to_M at q ⊢
    rw [ih.1 1 (by omega), ih.1 2 (by omega), ih.1 3 (by omega)] at q
    exact q
theorem MI.s0 {S : Nat → Int32} {C : Int} (h : MI S C) : ∃ s0 : Nat, S 0 = nI s0 ∧ 1 ≤ s0 ∧ s0 ≤ 16 := by
  have h1 := h.1
  obtain ⟨s0, h2, h3⟩ := nI_of (x := S 0) (by rw [ti_lt, t0]; omega)
  rw [h3, nI_toInt h2] at h1
  exact ⟨s0, h3, by omega, by omega⟩
theorem mm_1n {S : Nat → Int32} {C : Int} {d : Int32} (hd : d = 1 ∨ d = -1) (hM : MI S C) (hC : C ≤ 1000000000) (hst : ¬ St S) : mm_S S d 1 = ms_S S d := by
  obtain ⟨m1, m2, m3, m4, m5, m6⟩ := hM
  have e1 : d * 1 * S 0 = d * S 0 := by rw [Int32.mul_one]
  have e0 := d_ti (x := S 0) hd (by omega)
  have el : (S 9 + d * S 0).toInt = (S 9).toInt + (d * S 0).toInt := ti_add (by omega)
  have k7 : (S 7 + (S 9 + d * S 0)).toInt = (S 7).toInt + ((S 9).toInt + (d * S 0).toInt) := by rw [ti_add (by rw [el]; omega), el]
  rw [ms_n hst]
  unfold mm_S
  rw [if_neg (sl_0 hst)]
  unfold mb_S
  rw [e1]
  refine row_eq (fun j hj => ?_) (by show S 6 + d * S 0 = S 6 + d * S 0; rfl) (by show S 7 + (S 9 + d * S 0) = S 7 + (S 9 + d * S 0); rfl) ?_ (by show (0 : Int32) = (0 : Int32); rfl) (by show S 10 = S 10; rfl) (by show S 12 + 1 = S 12 + 1; rfl) (by show S 13 = S 13; rfl) (by show S 14 = S 14; rfl) (by show S 15 = S 15; rfl) (by show S 16 + sz_I (S 9 + d * S 0) = S 16 + sz_I (S 9 + d * S 0); rfl)
  · unfold tm_S mt_S fo_S m3_S
    rw [ud_ne (by omega), ud_ne (by omega), ud_ne (by omega), ud_ne (by omega), ud_ne (by omega), ud_ne (by omega), ud_ne (by omega), ud_ne (by omega), ud_ne (by omega), ud_ne (by omega), ud_ne (by omega), ud_ne (by omega), ud_ne (by omega), ud_ne (by omega)]
  · show mn_I (S 7 + (S 9 + d * S 0)) (mx_I (S 8) (S 7 + (S 9 + d * S 0) - S 4)) = if S 8 < S 7 + (S 9 + d * S 0) - S 4 then S 7 + (S 9 + d * S 0) - S 4 else if S 7 + (S 9 + d * S 0) < S 8 then S 7 + (S 9 + d * S 0) else S 8
    rw [ti_eq, mn_ti, mx_ti, fo_ti (by omega) (by rw [k7]; omega), ti_sub (by rw [k7]; omega), k7]
    repeat' split
    all_goals omega
theorem mm_1y {S : Nat → Int32} {C : Int} {d : Int32} (hd : d = 1 ∨ d = -1) (hM : MI S C) (hst : St S) : mm_S S d (nI 1) = fi_S d 1 S := by
  obtain ⟨s0, h0, h16⟩ := hM.s0
  obtain ⟨m1, m2, m3, m4, m5, m6⟩ := hM
  have e1 : 1 * s0 = s0 := Nat.one_mul s0
  have e2 : (0 + 1) * s0 = s0 := by rw [Nat.zero_add, Nat.one_mul]
  rcases hd with rfl | rfl
  · have a := UP.m (k := 1) h0 h16 m3 hst (by omega) (by omega)
    have b := UP.f h0 h16 m3 hst 0 (by omega)
    rw [e1] at a
    rw [e2] at b
    exact a.u b
  · have a := DN.m (k := 1) h0 h16 m3 hst (by omega) (by omega)
    have b := DN.f h0 h16 m3 hst 0 (by omega)
    rw [e1] at a
    rw [e2] at b
    exact a.u b
theorem mm_1 {S : Nat → Int32} {C : Int} {d : Int32} (hd : d = 1 ∨ d = -1) (hM : MI S C) (hC : C ≤ 1000000000) : mm_S S d 1 = ms_S S d := by
  by_cases hst : St S
  · exact mm_1y hd hM hst
  · exact mm_1n hd hM hC hst
/-- a stretch: many at once are as many one after another, and all find one load -/
theorem str {S : Nat → Int32} {C : Int} {d : Int32} {s0 k : Nat} (hd : d = 1 ∨ d = -1) (hM : MI S C) (h0 : S 0 = nI s0) (h16' : s0 ≤ 16) (hC : C + (k * s0 : Nat) + 100 ≤ 1000000000) (hk : 1 ≤ k) : ∃ a : Nat, (1 ≤ a ∧ a ≤ k) ∧ tk_S S d (nI k) = nI a ∧ mm_S S d (nI a) = fi_S d a S ∧ ∀ h : Int32, he_I d a S h = mx_I h (lo_S S (S 8)) := by
  have hM' := hM
  obtain ⟨m1, m2, m3, m4, m5, m6⟩ := hM
  have h16 : 1 ≤ s0 ∧ s0 ≤ 16 := by
    have q := m1
    rw [h0, nI_toInt (by omega)] at q
    omega
  have hks : k ≤ k * s0 := Nat.le_mul_of_pos_right k (by omega)
  by_cases hst : St S
  · refine ⟨k, ⟨hk, Nat.le_refl _⟩, ?_, ?_, fun h => ?_⟩
    · unfold tk_S al_S
      rw [if_pos (sl_1 hst), show mx_I 1 1000000000 = 1000000000 by decide]
      unfold mn_I
      rw [if_neg (by rw [ti_lt, nI_toInt (by omega)]; show ¬ (1000000000 : Int) < k; omega)]
    · obtain ⟨j, rfl⟩ : ∃ j : Nat, k = j + 1 := ⟨k - 1, by omega⟩
      have hj : j * s0 ≤ (j + 1) * s0 := Nat.mul_le_mul_right _ (by omega)
      rcases hd with rfl | rfl
      · exact (UP.m h0 h16 m3 hst (by omega) (by omega)).u (UP.f h0 h16 m3 hst j (by omega))
      · exact (DN.m h0 h16 m3 hst (by omega) (by omega)).u (DN.f h0 h16 m3 hst j (by omega))
    · obtain ⟨j, rfl⟩ : ∃ j : Nat, k = j + 1 := ⟨k - 1, by omega⟩
      refine he_c j S h fun i hi => ?_
      match i, hi with
      | 0, _ => rfl
      | i + 1, hi =>
        have hj : i * s0 ≤ (j + 1) * s0 := Nat.mul_le_mul_right _ (by omega)
        rcases hd with rfl | rfl
        · have g := UP.f h0 h16 m3 hst i (by omega)
          rw [g.1 8 (by omega), lo_cg fun j hj => g.1 j (by omega)]
        · have g := DN.f h0 h16 m3 hst i (by omega)
          rw [g.1 8 (by omega), lo_cg fun j hj => g.1 j (by omega)]
  · by_cases c : S 0 ≤ 0 ∨ ¬ S 9 = 0 ∨ S 8 < S 7 - S 4 ∨ S 7 < S 8
    · refine ⟨1, ⟨Nat.le_refl _, hk⟩, ?_, mm_1 hd hM' (by omega), fun h => rfl⟩
      unfold tk_S al_S
      rw [if_neg (sl_0 hst), if_pos c, show mx_I 1 1 = 1 by decide]
      unfold mn_I
      by_cases c2 : (1 : Int32) < nI k
      · rw [if_pos c2]; rfl
      · rw [if_neg c2]
        rw [ti_lt, nI_toInt (by omega)] at c2
        have c2 : ¬ (1 : Int) < k := c2
        rw [show k = 1 by omega]
    · have k4 : (S 7 - S 4).toInt = (S 7).toInt - (S 4).toInt := ti_sub (by omega)
      have h9 : S 9 = 0 := Classical.not_not.mp fun q => c (Or.inr (Or.inl q))
      have h8 : (S 7).toInt - (S 4).toInt ≤ (S 8).toInt := by
        have q : ¬ S 8 < S 7 - S 4 := fun q => c (Or.inr (Or.inr (Or.inl q)))
        rw [ti_lt, k4] at q
        omega
      obtain ⟨w, hw, hw2, hw3⟩ := wy_ok hd hM' (by omega) h8
      have hwd : w / s0 ≤ w := Nat.div_le_self w s0
      obtain ⟨z, hz⟩ : ∃ z : Nat, w / s0 = z := ⟨_, rfl⟩
      rw [hz] at hwd
      have hal : al_S S d = nI (z + 1) := by
        unfold al_S
        rw [if_neg (sl_0 hst), if_neg c]
        show wy_S S d / S 0 + 1 = _
        rw [hw, h0, pk_div (by omega) (by omega) (by omega), hz, nI_1]
      obtain ⟨a, ha⟩ : ∃ a : Nat, a = if z + 1 < k then z + 1 else k := ⟨_, rfl⟩
      have ha2 : 1 ≤ a ∧ a ≤ k ∧ a ≤ z + 1 := by
        rw [ha]
        split <;> omega
      have has : a * s0 ≤ k * s0 := Nat.mul_le_mul_right _ ha2.2.1
      have hin : ∀ i : Nat, i < a → i * s0 ≤ w := fun i hi => (Nat.le_div_iff_mul_le (by omega)).mp (by rw [hz]; omega)
      have hnp := fi_np hd h0 h16.2 m2 h9 ⟨h8, m4.2⟩ hst hw3
      refine ⟨a, ⟨ha2.1, ha2.2.1⟩, ?_, ?_, fun h => ?_⟩
      · unfold tk_S
        rw [hal, ti_eq, mn_ti, mx_ti, nI_toInt (by omega), nI_toInt (by omega), nI_toInt (by omega)]
        have o1 : (1 : Int32).toInt = 1 := rfl
        rw [o1, ha]
        repeat' split
        all_goals omega
      · exact (NP.m hd h0 m2 h9 ⟨h8, m4.2⟩ (by omega) hst).u (hnp a hin (by omega))
      · obtain ⟨j, rfl⟩ : ∃ j : Nat, a = j + 1 := ⟨a - 1, by omega⟩
        refine he_c j S h fun i hi => ?_
        have his : i * s0 ≤ (j + 1) * s0 := Nat.mul_le_mul_right _ (by omega)
        have g := hnp i (fun q hq => hin q (by omega)) (by omega)
        exact hw3 _ _ (hin i hi) g.2.2.2.2.2.2 fun q hq => g.1 q (by omega)
theorem tl_fi {d : Int32} (hd : d = 1 ∨ d = -1) {s0 : Nat} (h16 : s0 ≤ 16) : ∀ (f k : Nat) (S : Nat → Int32) (C : Int) (h : Int32), k ≤ f → MI S C → S 0 = nI s0 → C + (k * s0 : Nat) + 100 ≤ 1000000000 → tl_S f S d (nI k) h = (fi_S d k S, he_I d k S h)
  | 0, k, S, C, h, hk, _, _, _ => by
    have e : k = 0 := by omega
    subst e; rfl
  | f + 1, k, S, C, h, hk, hM, h0, hC => by
    show (if nI k ≤ 0 then (S, h) else tl_S f (mm_S S d (tk_S S d (nI k))) d (nI k - tk_S S d (nI k)) (mx_I h (lo_S S (S 8)))) = _
    by_cases c : k = 0
    · subst c
      rw [if_pos (by decide)]; rfl
    · have h1 : 1 ≤ s0 := by
        have m1 := hM.1
        rw [h0, nI_toInt (by omega)] at m1
        omega
      have hks : k ≤ k * s0 := Nat.le_mul_of_pos_right k (by omega)
      have hC0 : 0 ≤ C := by have := hM.2.2.2.2.1; omega
      rw [if_neg (nI_nle (by omega) (by omega))]
      obtain ⟨a, ha, h2, h3, h4⟩ := str hd hM h0 h16 hC (by omega)
      have e : k * s0 = a * s0 + (k - a) * s0 := by rw [← Nat.add_mul]; congr 1; omega
      have hM2 := MI.fi hd h16 a S C hM h0 (by omega)
      rw [h2, h3, pk_sub ha.2, ← h4 h, tl_fi hd h16 f (k - a) (fi_S d a S) (C + (a * s0 : Nat)) _ (by omega) hM2 (by rw [fi_o (by omega)]; exact h0) (by omega)]
      have ek : k = a + (k - a) := by omega
      rw [show fi_S d k S = fi_S d (k - a) (fi_S d a S) by rw [← fi_a, ← ek], show he_I d k S h = he_I d (k - a) (fi_S d a S) (he_I d a S h) by rw [← he_a, ← ek]]
