theorem ms_6 {S : Nat → Int32} {d : Int32} : ms_S S d 6 = S 6 + d * S 0 := by
  by_cases h : St S
  · rw [ms_y h]
    unfold mw_S
    split
    · split <;> rfl
    · rfl
  · rw [ms_n h]; rfl
theorem ms_13y {S : Nat → Int32} {d : Int32} (h : St S) : ms_S S d 13 = S 13 + 1 := by
  rw [ms_y h]
  unfold mw_S
  split
  · split <;> rfl
  · rfl
theorem ms_13n {S : Nat → Int32} {d : Int32} (h : ¬ St S) : ms_S S d 13 = S 13 := by
  rw [ms_n h]; rfl
theorem fi_6 {d : Int32} {s0 : Nat} : ∀ (k : Nat) (S : Nat → Int32), S 0 = nI s0 → fi_S d k S 6 = S 6 + d * nI (k * s0)
  | 0, S, _ => by
    rw [Nat.zero_mul, nI_0, Int32.mul_zero, Int32.add_zero]; rfl
  | k + 1, S, h => by
    rw [fi_s, fi_6 k (ms_S S d) (by rw [ms_o (by omega)]; exact h), ms_6, h, Int32.add_assoc, ← Int32.mul_add, nI_add, show (k + 1) * s0 = s0 + k * s0 by rw [Nat.succ_mul]; omega]
theorem fi_13 {d : Int32} : ∀ (k : Nat) (S : Nat → Int32), 0 ≤ (S 13).toInt → (S 13).toInt + k ≤ 2147483647 → (S 13).toInt ≤ (fi_S d k S 13).toInt ∧ (fi_S d k S 13).toInt ≤ (S 13).toInt + k
  | 0, S, _, _ => ⟨Int.le_refl _, by show (S 13).toInt ≤ _; omega⟩
  | k + 1, S, h0, h1 => by
    rw [fi_s]
    by_cases h : St S
    · have e : (ms_S S d 13).toInt = (S 13).toInt + 1 := by
        rw [ms_13y h, ti_add (by show _ ≤ _ + (1 : Int) ∧ _ + (1 : Int) ≤ _; omega)]; rfl
      have := fi_13 (d := d) k (ms_S S d) (by omega) (by omega)
      omega
    · have e : (ms_S S d 13).toInt = (S 13).toInt := by rw [ms_13n h]
      have := fi_13 (d := d) k (ms_S S d) (by omega) (by omega)
      omega
theorem sn_p {k : Nat} (hk : k < 2147483648) : sn_I (nI k) = 1 := if_pos (nI_pos' (by omega))
theorem sn_m {k : Nat} (hk : k < 2147483648) (h : 0 < k) : sn_I (-(nI k)) = -1 := if_neg (by rw [ti_le, nn_toInt (by omega), t0]; omega)
theorem sz_p {k : Nat} (hk : k < 2147483648) : sz_I (nI k) = nI k := if_pos (nI_pos' (by omega))
theorem sz_m {k : Nat} (hk : k < 2147483648) : sz_I (-(nI k)) = nI k := by
  have := sz_d (d := -1) hk (Or.inr rfl)
  rw [neg1] at this
  exact this
theorem tv_mo {S : Nat → Int32} {C c : Int} {x : Int32} (hM : MI S C) (hE : ai_S S x = am_S S x) (hp : ¬ ip_I (ai_S S x) = 0) (h6 : -c ≤ (S 6).toInt ∧ (S 6).toInt ≤ c) (hC : C + c + 20200 ≤ 1000000000) : ∃ (d : Int32) (k s0 : Nat), (d = 1 ∨ d = -1) ∧ (S 0 = nI s0 ∧ 1 ≤ s0 ∧ s0 ≤ 16) ∧ (∀ T : Nat → Int32, am_S T x = am_S S x → T 6 = S 6 → T 0 = S 0 → mo_S T x = fi_S d k T) ∧ tv_S S x = (fi_S d k S, he_I d k S 0) ∧ (k * s0 : Nat) ≤ c + 20000 ∧ (-20016 ≤ (S 6).toInt + (d * nI (k * s0)).toInt ∧ (S 6).toInt + (d * nI (k * s0)).toInt ≤ 20016) := by
  obtain ⟨s0, h0, h16⟩ := hM.s0
  have hA : -20000 ≤ (am_S S x).toInt ∧ (am_S S x).toInt ≤ 20000 := by
    rw [hE] at hp
    have q1 : ¬ am_S S x < -20000 := fun q => hp (if_pos (Or.inl q))
    have q2 : ¬ 20000 < am_S S x := fun q => hp (if_pos (Or.inr q))
    rw [ti_lt] at q1 q2
    exact ⟨Int.not_lt.mp q1, Int.not_lt.mp q2⟩
  have hC0 : 0 ≤ C := by have := hM.2.2.2.2.1; omega
  have e1 : st_S S (ai_S S x) = (am_S S x - S 6) / S 0 := by
    unfold st_S
    rw [hE, if_pos (by rw [ti_lt, h0, nI_toInt (by omega), t0]; omega)]
  have etv : tv_S S x = tl_S (ab_I ((am_S S x - S 6) / S 0)).toNatClampNeg S (sg_I ((am_S S x - S 6) / S 0)) (ab_I ((am_S S x - S 6) / S 0)) 0 := by
    unfold tv_S
    rw [if_neg hp, e1]
  have emo : ∀ T : Nat → Int32, am_S T x = am_S S x → T 6 = S 6 → T 0 = S 0 → mo_S T x = fi_S (sn_I ((am_S S x - S 6) / S 0)) (sz_I ((am_S S x - S 6) / S 0)).toNatClampNeg T := fun T e1 e2 e3 => by unfold mo_S; rw [e1, e2, e3]
  have hsub : (am_S S x - S 6).toInt = (am_S S x).toInt - (S 6).toInt := ti_sub (by omega)
  rw [h0] at etv
  have emo : ∀ T : Nat → Int32, am_S T x = am_S S x → T 6 = S 6 → T 0 = S 0 → mo_S T x = fi_S (sn_I ((am_S S x - S 6) / nI s0)) (sz_I ((am_S S x - S 6) / nI s0)).toNatClampNeg T := fun T e1 e2 e3 => by rw [emo T e1 e2 e3, h0]
  by_cases hD : 0 ≤ (am_S S x).toInt - (S 6).toInt
  · obtain ⟨p, hp⟩ : ∃ p : Nat, (p : Int) = (am_S S x).toInt - (S 6).toInt := ⟨((am_S S x).toInt - (S 6).toInt).toNat, by omega⟩
    have e2 : am_S S x - S 6 = nI p := by rw [ti_eq, hsub, nI_toInt (by omega)]; omega
    have e3 : (am_S S x - S 6) / nI s0 = nI (p / s0) := by rw [e2, pk_div (by omega) (by omega) (by omega)]
    have g1 : p / s0 * s0 ≤ p := Nat.div_mul_le_self p s0
    have g2 := Nat.div_add_mod p s0
    have g3 := Nat.mod_lt p (show s0 > 0 by omega)
    have g4 := Nat.mul_comm s0 (p / s0)
    have g5 : p / s0 ≤ p := Nat.div_le_self p s0
    rw [e3] at etv emo
    generalize p / s0 = k at etv emo g1 g2 g4 g5
    rw [g4] at g2
    rw [sn_p (by omega), sz_p (by omega), nI_clamp (by omega)] at emo
    have etv2 : tv_S S x = tl_S k S 1 (nI k) 0 := by
      rw [etv, show ab_I (nI k) = nI k from sz_p (by omega), nI_clamp (by omega)]
      by_cases z : k = 0
      · subst z; rfl
      · rw [sg_0' _ (nI_lt (a := 0) (by omega) (by omega))]
    rw [tl_fi (Or.inl rfl) h16.2 k k S C 0 (Nat.le_refl _) hM h0 (by omega)] at etv2
    refine ⟨1, k, s0, Or.inl rfl, ⟨h0, h16⟩, emo, etv2, by omega, ?_⟩
    rw [Int32.one_mul, nI_toInt (by omega)]
    omega
  · obtain ⟨p, hp⟩ : ∃ p : Nat, (p : Int) = -((am_S S x).toInt - (S 6).toInt) := ⟨(-((am_S S x).toInt - (S 6).toInt)).toNat, by omega⟩
    have e2 : am_S S x - S 6 = -(nI p) := by rw [ti_eq, hsub, nn_toInt (by omega)]; omega
    have e3 : (am_S S x - S 6) / nI s0 = -(nI (p / s0)) := by rw [e2, dv_neg (by omega) (by omega) (by omega)]
    have g1 : p / s0 * s0 ≤ p := Nat.div_mul_le_self p s0
    have g2 := Nat.div_add_mod p s0
    have g3 := Nat.mod_lt p (show s0 > 0 by omega)
    have g4 := Nat.mul_comm s0 (p / s0)
    have g5 : p / s0 ≤ p := Nat.div_le_self p s0
    rw [e3] at etv emo
    generalize p / s0 = k at etv emo g1 g2 g4 g5
    rw [g4] at g2
    rw [sz_m (by omega), nI_clamp (by omega)] at emo
    rw [show ab_I (-(nI k)) = nI k from sz_m (by omega), nI_clamp (by omega)] at etv
    by_cases z : k = 0
    · subst z
      refine ⟨-1, 0, s0, Or.inr rfl, ⟨h0, h16⟩, emo, etv, by omega, ?_⟩
      rw [neg1, nn_toInt (by omega)]
      omega
    · rw [sn_m (by omega) (by omega)] at emo
      rw [sg_m _ (by rw [ti_lt, nn_toInt (by omega), t0]; omega), tl_fi (Or.inr rfl) h16.2 k k S C 0 (Nat.le_refl _) hM h0 (by omega)] at etv
      refine ⟨-1, k, s0, Or.inr rfl, ⟨h0, h16⟩, emo, etv, by omega, ?_⟩
      rw [neg1, nn_toInt (by omega)]
      omega
/-- two rows that differ in torque's numbers alone -/
def SB (A B : Nat → Int32) : Prop := ∀ j : Nat, j ≠ 1 → j ≠ 2 → j ≠ 3 → A j = B j
theorem SB.ms {A B : Nat → Int32} {d : Int32} (h : SB A B) (ha : ¬ St A) (hb : ¬ St B) : SB (ms_S A d) (ms_S B d) := by
  intro j h1 h2 h3
  have e0 := h 0 (by decide) (by decide) (by decide)
  have e4 := h 4 (by decide) (by decide) (by decide)
  have e6 := h 6 (by decide) (by decide) (by decide)
  have e7 := h 7 (by decide) (by decide) (by decide)
  have e8 := h 8 (by decide) (by decide) (by decide)
  have e9 := h 9 (by decide) (by decide) (by decide)
  have e12 := h 12 (by decide) (by decide) (by decide)
  have e16 := h 16 (by decide) (by decide) (by decide)
  have ej := h j h1 h2 h3
  rw [ms_n ha, ms_n hb]
  by_cases c : j = 6 ∨ j = 7 ∨ j = 8 ∨ j = 9 ∨ j = 12 ∨ j = 16
  · rcases c with rfl | rfl | rfl | rfl | rfl | rfl
    · show A 6 + d * A 0 = B 6 + d * B 0
      rw [e6, e0]
    · show A 7 + (A 9 + d * A 0) = B 7 + (B 9 + d * B 0)
      rw [e7, e9, e0]
    · show (if A 8 < A 7 + (A 9 + d * A 0) - A 4 then A 7 + (A 9 + d * A 0) - A 4 else if A 7 + (A 9 + d * A 0) < A 8 then A 7 + (A 9 + d * A 0) else A 8) = if B 8 < B 7 + (B 9 + d * B 0) - B 4 then B 7 + (B 9 + d * B 0) - B 4 else if B 7 + (B 9 + d * B 0) < B 8 then B 7 + (B 9 + d * B 0) else B 8
      rw [e7, e9, e0, e8, e4]
    · show (0 : Int32) = 0
      rfl
    · show A 12 + 1 = B 12 + 1
      rw [e12]
    · show A 16 + sz_I (A 9 + d * A 0) = B 16 + sz_I (B 9 + d * B 0)
      rw [e16, e9, e0]
  · have o : ∀ T : Nat → Int32, mt_S (m3_S T d) j = T j := fun T => by
      unfold mt_S fo_S
      rw [ud_ne (by omega), ud_ne (by omega), ud_ne (by omega), ud_ne (by omega), m3_o (by omega)]
    rw [o, o]; exact ej
theorem lo_rg {S : Nat → Int32} {x : Int32} (h : VL S 21 0 200) : 0 ≤ (lo_S S x).toInt ∧ (lo_S S x).toInt ≤ 200 := by
  have hl := (ut_le (ls_P S 21) x (ls_n S 21) 0).2
  unfold lo_S
  generalize ut_N (ls_P S 21) x (ls_n S 21) 0 = u at hl ⊢
  match u with
  | 0 =>
    show 0 ≤ (0 : Int32).toInt ∧ (0 : Int32).toInt ≤ 200
    exact ⟨by decide, by decide⟩
  | k + 1 => exact (h.2.2 k (by omega)).2
theorem he_ge {d : Int32} : ∀ (k : Nat) (S : Nat → Int32) (h : Int32), h.toInt ≤ (he_I d k S h).toInt
  | 0, _, _ => Int.le_refl _
  | k + 1, S, h => by
    have := he_ge (d := d) k (ms_S S d) (mx_I h (lo_S S (S 8)))
    rw [mx_ti] at this
    show _ ≤ (he_I d k (ms_S S d) (mx_I h (lo_S S (S 8)))).toInt
    split at this <;> omega
theorem to_Mo {S : Nat → Int32} {d : Int32} : to_M (ms_S S d) = to_M S := by
  unfold to_M
  rw [ms_o (j := 1) (by omega), ms_o (j := 2) (by omega), ms_o (j := 3) (by omega)]
theorem he_st {d t : Int32} : ∀ (k : Nat) (A B : Nat → Int32) (h : Int32), SB A B → to_M A = t → to_M B = 200 → VL B 21 0 200 → 0 ≤ (A 13).toInt → (A 13).toInt + k ≤ 2147483647 → ((A 13 < fi_S d k A 13 ∨ t < h) ↔ t < he_I d k B h)
  | 0, A, B, h, _, _, _, _, _, _ => by
    show (A 13 < A 13 ∨ t < h) ↔ t < h
    rw [ti_lt]
    exact ⟨fun q => q.elim (fun q => absurd q (Int.lt_irrefl _)) id, Or.inr⟩
  | k + 1, A, B, h, hs, ht, h2, hv, h0, h1 => by
    have el : lo_S A (A 8) = lo_S B (B 8) := by
      rw [hs 8 (by decide) (by decide) (by decide)]
      exact lo_cg fun j hj => hs j (by omega) (by omega) (by omega)
    have hr := lo_rg (x := B 8) hv
    have hb : ¬ St B := fun q => by
      unfold St at q
      rw [h2, ti_lt] at q
      have q : (200 : Int) < _ := q
      omega
    show (A 13 < fi_S d k (ms_S A d) 13 ∨ t < h) ↔ t < he_I d k (ms_S B d) (mx_I h (lo_S B (B 8)))
    have hg := he_ge (d := d) k (ms_S B d) (mx_I h (lo_S B (B 8)))
    by_cases ha : St A
    · have e : (ms_S A d 13).toInt = (A 13).toInt + 1 := by
        rw [ms_13y ha, ti_add (by show _ ≤ _ + (1 : Int) ∧ _ + (1 : Int) ≤ _; omega)]; rfl
      have g := fi_13 (d := d) k (ms_S A d) (by omega) (by omega)
      unfold St at ha
      rw [ht, el, ti_lt] at ha
      rw [mx_ti] at hg
      refine ⟨fun _ => ?_, fun _ => Or.inl ?_⟩
      · rw [ti_lt]
        split at hg <;> omega
      · rw [ti_lt]; omega
    · have ih := he_st (d := d) k (ms_S A d) (ms_S B d) (mx_I h (lo_S B (B 8))) (hs.ms ha hb) (to_Mo.trans ht) (to_Mo.trans h2) (hv.cg fun j a b => ms_o (by omega)) (by rw [ms_13n ha]; exact h0) (by rw [ms_13n ha]; omega)
      rw [← ih, ms_13n ha]
      unfold St at ha
      rw [ht, el, ti_lt] at ha
      rw [ti_lt (x := t), ti_lt (x := t), mx_ti]
      constructor
      · rintro (q | q)
        · exact Or.inl q
        · right; split <;> omega
      · rintro (q | q)
        · exact Or.inl q
        · right; split at q <;> omega
theorem lp_fi {c : (Nat → Int32) → Bool} {d : Int32} : ∀ (f : Nat) (S : Nat → Int32), ∃ j : Nat, (lp_S c d f S).1 = fi_S d j S ∧ (lp_S c d f S).2 + j = f
  | 0, S => ⟨0, rfl, rfl⟩
  | f + 1, S => by
    by_cases h : c S = true
    · rw [lp_t h]; exact ⟨0, rfl, rfl⟩
    · obtain ⟨j, h1, h2⟩ := lp_fi (c := c) (d := d) f (ms_S S d)
      rw [lp_f h]
      exact ⟨j + 1, h1, by omega⟩
theorem lp_skip {c : (Nat → Int32) → Bool} {d : Int32} : ∀ (a n : Nat) (S : Nat → Int32), (∀ i : Nat, i < a → ¬ c (fi_S d i S) = true) → lp_S c d (a + n) S = lp_S c d n (fi_S d a S)
  | 0, n, S, _ => by rw [Nat.zero_add]; rfl
  | a + 1, n, S, h => by
    rw [show a + 1 + n = (a + n) + 1 by omega, lp_f (show ¬ c S = true from h 0 (by omega)), lp_skip a n (ms_S S d) fun i hi => h (i + 1) (by omega)]
    rfl
theorem ot_ok {S : Nat → Int32} {d e : Int32} {C : Int} {s0 : Nat} (hd : d = 1 ∨ d = -1) (hM : MI S C) (hC : C ≤ 999999900) (h0 : S 0 = nI s0) (h16 : 1 ≤ s0 ∧ s0 ≤ 16) (he : -30000 ≤ e.toInt ∧ e.toInt ≤ 30000) (h8 : (S 7).toInt - (S 4).toInt ≤ (S 8).toInt) (hg : ¬ (e - S 8) * d ≤ 0) : ∃ x : Nat, ot_S S e d = nI ((x + s0 - 1) / s0) ∧ 1 ≤ x ∧ x ≤ 1000100000 ∧ ∀ (V : Nat → Int32) (t : Nat), t < x → (V 8).toInt = tb S d t → ¬ (e - V 8) * d ≤ 0 := by
  obtain ⟨m1, m2, m3, m4, m5, m6⟩ := hM
  have k4 : (S 7 - S 4).toInt = (S 7).toInt - (S 4).toInt := ti_sub (by omega)
  have g8 : (e - S 8).toInt = e.toInt - (S 8).toInt := ti_sub (by omega)
  have hpos : 0 < S 0 := by rw [ti_lt, t0, h0, nI_toInt (by omega)]; omega
  unfold ot_S
  rw [if_pos hpos, h0]
  rcases hd with rfl | rfl
  · rw [if_neg (show ¬ (1 : Int32) ≤ 0 by decide), Int32.mul_one]
    rw [Int32.mul_one, ti_le, g8, t0] at hg
    obtain ⟨x, hx⟩ : ∃ x : Nat, (x : Int) = e.toInt - ((S 7).toInt - (S 4).toInt) := ⟨(e.toInt - ((S 7).toInt - (S 4).toInt)).toNat, by omega⟩
    have ex : e - (S 7 - S 4) = nI x := by rw [ti_eq, ti_sub (by rw [k4]; omega), k4, nI_toInt (by omega)]; omega
    refine ⟨x, ?_, by omega, by omega, fun V t ht hV => ?_⟩
    · rw [ex, nI_add, show (1 : Int32) = nI 1 from rfl, pk_sub (by omega), pk_div (by omega) (by omega) (by omega)]
    · have v8 : -2000000000 ≤ (V 8).toInt ∧ (V 8).toInt ≤ 2000000000 := by rw [hV, tb_1]; split <;> omega
      rw [Int32.mul_one, ti_le, ti_sub (by omega), t0, hV, tb_1]
      split <;> omega
  · rw [if_pos (show (-1 : Int32) ≤ 0 by decide), Int32.mul_neg, Int32.mul_one]
    rw [Int32.mul_neg, Int32.mul_one, ti_le, ti_neg (by omega), g8, t0] at hg
    obtain ⟨x, hx⟩ : ∃ x : Nat, (x : Int) = (S 7).toInt - e.toInt := ⟨((S 7).toInt - e.toInt).toNat, by omega⟩
    have e7 : (e - S 7).toInt = e.toInt - (S 7).toInt := ti_sub (by omega)
    have ex : -(e - S 7) = nI x := by rw [ti_eq, ti_neg (by omega), e7, nI_toInt (by omega)]; omega
    refine ⟨x, ?_, by omega, by omega, fun V t ht hV => ?_⟩
    · rw [ex, nI_add, show (1 : Int32) = nI 1 from rfl, pk_sub (by omega), pk_div (by omega) (by omega) (by omega)]
    · have v8 : -2000000000 ≤ (V 8).toInt ∧ (V 8).toInt ≤ 2000000000 := by rw [hV, tb_m]; split <;> omega
      have g9 : (e - V 8).toInt = e.toInt - (V 8).toInt := ti_sub (by omega)
      rw [Int32.mul_neg, Int32.mul_one, ti_le, ti_neg (by omega), g9, t0, hV, tb_m]
      split <;> omega
/-- a stretch of seeking: many at once are as many one after another, and ahead of all of them the goal isn't reached -/
theorem sq {S : Nat → Int32} {C : Int} {d e : Int32} {s0 k : Nat} (hd : d = 1 ∨ d = -1) (hM : MI S C) (h0 : S 0 = nI s0) (h16' : s0 ≤ 16) (hC : C + (k * s0 : Nat) + 100 ≤ 1000000000) (hk : 1 ≤ k) (he : -30000 ≤ e.toInt ∧ e.toInt ≤ 30000) (hg : ¬ (e - S 8) * d ≤ 0) (hst : ¬ St S) : ∃ a : Nat, (1 ≤ a ∧ a ≤ k) ∧ tq_S S e d (nI k) = nI a ∧ mm_S S d (nI a) = fi_S d a S ∧ ∀ i : Nat, i < a → ¬ (e - fi_S d i S 8) * d ≤ 0 := by
  have hM' := hM
  obtain ⟨m1, m2, m3, m4, m5, m6⟩ := hM
  have h16 : 1 ≤ s0 ∧ s0 ≤ 16 := by
    have q := m1
    rw [h0, nI_toInt (by omega)] at q
    omega
  have hks : k ≤ k * s0 := Nat.le_mul_of_pos_right k (by omega)
  have o1 : (1 : Int32).toInt = 1 := rfl
  by_cases c : S 0 ≤ 0 ∨ ¬ S 9 = 0 ∨ S 8 < S 7 - S 4 ∨ S 7 < S 8
  · refine ⟨1, ⟨Nat.le_refl _, hk⟩, ?_, mm_1 hd hM' (by omega), fun i hi => ?_⟩
    · unfold tq_S al_S
      rw [if_neg (sl_0 hst), if_pos c, ti_eq, mn_ti, mx_ti, mn_ti, nI_toInt (by omega), nI_toInt (by omega), o1]
      repeat' split
      all_goals omega
    · have e1 : i = 0 := by omega
      subst e1; exact hg
  · have k4 : (S 7 - S 4).toInt = (S 7).toInt - (S 4).toInt := ti_sub (by omega)
    have h9 : S 9 = 0 := Classical.not_not.mp fun q => c (Or.inr (Or.inl q))
    have h8 : (S 7).toInt - (S 4).toInt ≤ (S 8).toInt := by
      have q : ¬ S 8 < S 7 - S 4 := fun q => c (Or.inr (Or.inr (Or.inl q)))
      rw [ti_lt, k4] at q
      omega
    obtain ⟨w, hw, hw2, hw3⟩ := wy_ok hd hM' (by omega) h8
    obtain ⟨x, hx, hx1, hx2, hx3⟩ := ot_ok hd hM' (by omega) h0 h16 he h8 hg
    have hwd : w / s0 ≤ w := Nat.div_le_self w s0
    obtain ⟨z, hz⟩ : ∃ z : Nat, w / s0 = z := ⟨_, rfl⟩
    rw [hz] at hwd
    have hal : al_S S d = nI (z + 1) := by
      unfold al_S
      rw [if_neg (sl_0 hst), if_neg c]
      show wy_S S d / S 0 + 1 = _
      rw [hw, h0, pk_div (by omega) (by omega) (by omega), hz, nI_1]
    obtain ⟨y, hy⟩ : ∃ y : Nat, (x + s0 - 1) / s0 = y := ⟨_, rfl⟩
    have hy1 : 1 ≤ y := by
      rw [← hy]
      exact (Nat.le_div_iff_mul_le (by omega)).mpr (by omega)
    have hy2 : y ≤ x + s0 - 1 := by rw [← hy]; exact Nat.div_le_self _ _
    rw [hy] at hx
    obtain ⟨b, hb⟩ : ∃ b : Nat, b = if y < z + 1 then y else z + 1 := ⟨_, rfl⟩
    obtain ⟨a, ha⟩ : ∃ a : Nat, a = if b < k then b else k := ⟨_, rfl⟩
    have hb2 : 1 ≤ b ∧ b ≤ y ∧ b ≤ z + 1 := by
      rw [hb]
      split <;> omega
    have ha2 : 1 ≤ a ∧ a ≤ k ∧ a ≤ b := by
      rw [ha]
      split <;> omega
    have has : a * s0 ≤ k * s0 := Nat.mul_le_mul_right _ ha2.2.1
    have hin : ∀ i : Nat, i < a → i * s0 ≤ w := fun i hi => (Nat.le_div_iff_mul_le (by omega)).mp (by rw [hz]; omega)
    have hin2 : ∀ i : Nat, i < a → i * s0 < x := fun i hi => by
      have q := (Nat.le_div_iff_mul_le (x := i + 1) (y := x + s0 - 1) (k := s0) (by omega)).mp (by rw [hy]; omega)
      have q2 : (i + 1) * s0 = i * s0 + s0 := Nat.succ_mul i s0
      omega
    have hnp := fi_np hd h0 h16.2 m2 h9 ⟨h8, m4.2⟩ hst hw3
    refine ⟨a, ⟨ha2.1, ha2.2.1⟩, ?_, ?_, fun i hi => ?_⟩
    · unfold tq_S
      rw [hal, hx, ti_eq, mn_ti, mx_ti, mn_ti, nI_toInt (by omega), nI_toInt (by omega), nI_toInt (by omega), nI_toInt (by omega), o1, ha, hb]
      repeat' split
      all_goals omega
    · exact (NP.m hd h0 m2 h9 ⟨h8, m4.2⟩ (by omega) hst).u (hnp a hin (by omega))
    · have his : i * s0 ≤ a * s0 := Nat.mul_le_mul_right _ (by omega)
      have g := hnp i (fun q hq => hin q (by omega)) (by omega)
      exact hx3 _ _ (hin2 i hi) g.2.2.2.2.2.2
theorem ap_lp {c : (Nat → Int32) → Bool} {e d : Int32} (hd : d = 1 ∨ d = -1) (he : -30000 ≤ e.toInt ∧ e.toInt ≤ 30000) (hc : ∀ (T : Nat → Int32) (C : Int), MI T C → C ≤ 1000000000 → (c T = true ↔ (e - T 8) * d ≤ 0)) {s0 : Nat} (h16 : s0 ≤ 16) : ∀ (f k : Nat) (S : Nat → Int32) (C : Int), k ≤ f → MI S C → S 0 = nI s0 → C + (k * s0 : Nat) + 100 ≤ 1000000000 → ((lp_S c d (k + 1) S).2 = 0 ∧ (ap_S e d f S (nI k)).2 = -1) ∨ ∃ l : Nat, (l ≤ k ∧ (lp_S c d (k + 1) S).2 = l + 1) ∧ ap_S e d f S (nI k) = ((lp_S c d (k + 1) S).1, nI l)
  | 0, k, S, C, hk, hM, h0, hC => by
    have e0 : k = 0 := by omega
    subst e0
    have hi := hc S C hM (by omega)
    have es : ap_S e d 0 S (nI 0) = if nI 0 < 0 then (S, nI 0) else if (e - S 8) * d ≤ 0 then (S, nI 0) else (S, -1) := rfl
    rw [es, if_neg (by decide)]
    by_cases h : c S = true
    · right
      rw [lp_t h, if_pos (hi.mp h)]
      exact ⟨0, ⟨Nat.le_refl _, rfl⟩, rfl⟩
    · left
      rw [lp_f h, if_neg (fun q => h (hi.mpr q))]
      exact ⟨rfl, rfl⟩
  | f + 1, k, S, C, hk, hM, h0, hC => by
    have h1 : 1 ≤ s0 := by
      have m1 := hM.1
      rw [h0, nI_toInt (by omega)] at m1
      omega
    have hC0 : 0 ≤ C := by have := hM.2.2.2.2.1; omega
    have hks : k ≤ k * s0 := Nat.le_mul_of_pos_right k (by omega)
    have hi := hc S C hM (by omega)
    have es : ap_S e d (f + 1) S (nI k) = if nI k < 0 then (S, nI k) else if (e - S 8) * d ≤ 0 then (S, nI k) else if nI k = 0 then (S, -1) else if sl_S S = 0 then ap_S e d f (mm_S S d (tq_S S e d (nI k))) (nI k - tq_S S e d (nI k)) else (S, -1) := rfl
    rw [es, if_neg (nI_pos (by omega))]
    by_cases h : c S = true
    · right
      rw [lp_t h, if_pos (hi.mp h)]
      exact ⟨k, ⟨Nat.le_refl _, rfl⟩, rfl⟩
    · have hg : ¬ (e - S 8) * d ≤ 0 := fun q => h (hi.mpr q)
      rw [if_neg hg]
      by_cases z : k = 0
      · left
        subst z
        rw [lp_f h, if_pos (show nI 0 = 0 by decide)]
        exact ⟨rfl, rfl⟩
      · rw [if_neg (show ¬ nI k = 0 from fun q => by rw [ti_eq, nI_toInt (by omega), t0] at q; omega)]
        by_cases hst : St S
        · left
          rw [if_neg (by rw [sl_1 hst]; decide)]
          refine ⟨?_, rfl⟩
          have hn : ∀ i : Nat, i < k + 1 → ¬ c (fi_S d i S) = true := fun i hi9 => by
            match i, hi9 with
            | 0, _ => exact h
            | i + 1, hi9 =>
              have hj : (i + 1) * s0 ≤ k * s0 := Nat.mul_le_mul_right _ (by omega)
              have hj2 : (i + 1) * s0 = i * s0 + s0 := Nat.succ_mul i s0
              have hMi := MI.fi hd h16 (i + 1) S C hM h0 (by omega)
              have e8 : fi_S d (i + 1) S 8 = S 8 := by
                rcases hd with rfl | rfl
                · exact (UP.f h0 ⟨h1, h16⟩ hM.2.2.1 hst i (by omega)).1 8 (by omega)
                · exact (DN.f h0 ⟨h1, h16⟩ hM.2.2.1 hst i (by omega)).1 8 (by omega)
              rw [hc _ _ hMi (by omega), e8]
              exact hg
          rw [lp_skip (k + 1) 0 S hn]
          rfl
        · have h00 : sl_S S = 0 := by
            have q := sl_0 hst
            unfold sl_S at q ⊢
            split at q
            · exact absurd rfl q
            · rename_i u
              exact if_neg u
          rw [if_pos h00]
          obtain ⟨a, ha, h2, h3, h4⟩ := sq hd hM h0 h16 hC (by omega) he hg hst
          have e1 : k * s0 = a * s0 + (k - a) * s0 := by rw [← Nat.add_mul]; congr 1; omega
          have hM2 := MI.fi hd h16 a S C hM h0 (by omega)
          have hn : ∀ i : Nat, i < a → ¬ c (fi_S d i S) = true := fun i hi9 => by
            have hj : i * s0 ≤ a * s0 := Nat.mul_le_mul_right _ (by omega)
            have hMi := MI.fi hd h16 i S C hM h0 (by omega)
            rw [hc _ _ hMi (by omega)]
            exact h4 i hi9
          have ih := ap_lp hd he hc h16 f (k - a) (fi_S d a S) (C + (a * s0 : Nat)) (by omega) hM2 (by rw [fi_o (by omega)]; exact h0) (by omega)
          have ek : k + 1 = a + (k - a + 1) := by omega
          rw [h2, h3, pk_sub ha.2, show lp_S c d (k + 1) S = lp_S c d (k - a + 1) (fi_S d a S) by rw [← lp_skip a (k - a + 1) S hn, ← ek]]
          rcases ih with ih | ⟨l, ⟨l1, l2⟩, l3⟩
          · exact Or.inl ih
          · exact Or.inr ⟨l, ⟨by omega, l2⟩, l3⟩
theorem ap_m1 {e d : Int32} {S : Nat → Int32} : ap_S e d (-1 : Int32).toNatClampNeg S (-1) = (S, -1) := by
  rw [show (-1 : Int32).toNatClampNeg = 0 by decide]
  exact if_pos (by decide)
theorem sk_g {S : Nat → Int32} {C : Int} {c1 c2 : (Nat → Int32) → Bool} {e d d' : Int32} (hd : d = 1 ∨ d = -1) (hd' : d' = 1 ∨ d' = -1) (hdd : -d = d') (hM : MI S C) (hC : C + 640200 ≤ 1000000000) (he : -20000 ≤ e.toInt ∧ e.toInt ≤ 20000) (h1 : ∀ (T : Nat → Int32) (C : Int), MI T C → C ≤ 1000000000 → (c1 T = true ↔ (e + d * 17 - T 8) * d ≤ 0)) (h2 : ∀ (T : Nat → Int32) (C : Int), MI T C → C ≤ 1000000000 → (c2 T = true ↔ (e - T 8) * d' ≤ 0)) : ((lp_S c2 d' (lp_S c1 d 20001 S).2 (lp_S c1 d 20001 S).1).2 = 0 ∧ (sk_R (sk_2 e d S)).2 = 0) ∨ (¬ (lp_S c2 d' (lp_S c1 d 20001 S).2 (lp_S c1 d 20001 S).1).2 = 0 ∧ sk_R (sk_2 e d S) = (upd (lp_S c2 d' (lp_S c1 d 20001 S).2 (lp_S c1 d 20001 S).1).1 17 ((lp_S c2 d' (lp_S c1 d 20001 S).2 (lp_S c1 d 20001 S).1).1 17 + 1), 1)) := by
  obtain ⟨s0, h0, h16⟩ := hM.s0
  obtain ⟨j, j1, j2⟩ := lp_fi (c := c1) (d := d) 20001 S
  have hjs : j * s0 ≤ 20001 * 16 := Nat.mul_le_mul (by omega) h16.2
  have hM2 : MI (lp_S c1 d 20001 S).1 (C + 320016) := by
    rw [j1]
    exact (MI.fi hd h16.2 j S C hM h0 (by omega)).w (by omega)
  have h02 : (lp_S c1 d 20001 S).1 0 = nI s0 := by rw [j1, fi_o (by omega)]; exact h0
  have hks : 20000 * s0 ≤ 20000 * 16 := Nat.mul_le_mul (by omega) h16.2
  have he1 : -30000 ≤ (e + d * 17).toInt ∧ (e + d * 17).toInt ≤ 30000 := by
    rcases hd with rfl | rfl
    · have k : (1 * 17 : Int32).toInt = 17 := by decide
      rw [ti_add (by rw [k]; omega), k]; omega
    · have k : (-1 * 17 : Int32).toInt = -17 := by decide
      rw [ti_add (by rw [k]; omega), k]; omega
  have eL : sk_L = nI 20000 := rfl
  have hb := ap_lp hd he1 h1 h16.2 20000 20000 S C (Nat.le_refl _) hM h0 (by omega)
  have eN : (nI 20000).toNatClampNeg = 20000 := nI_clamp (by omega)
  have e1 : sk_1 e d S = ap_S (e + d * 17) d 20000 S (nI 20000) := by
    unfold sk_1
    rw [eL, eN]
  have e2 : sk_2 e d S = ap_S e d' (ap_S (e + d * 17) d 20000 S (nI 20000)).2.toNatClampNeg (ap_S (e + d * 17) d 20000 S (nI 20000)).1 (ap_S (e + d * 17) d 20000 S (nI 20000)).2 := by
    unfold sk_2
    rw [e1, hdd]
  rw [e2]
  rw [show 20000 + 1 = 20001 from rfl] at hb
  rcases hb with ⟨a1, a2⟩ | ⟨l, ⟨a1, a2⟩, a3⟩
  · left
    rw [a1, a2, ap_m1]
    exact ⟨rfl, rfl⟩
  · have hls : l * s0 ≤ 20000 * s0 := Nat.mul_le_mul_right _ (by omega)
    have hb2 := ap_lp (e := e) hd' (by omega) h2 h16.2 l l (lp_S c1 d 20001 S).1 (C + 320016) (Nat.le_refl _) hM2 h02 (by omega)
    rw [a3, a2]
    dsimp only
    rw [nI_clamp (by omega)]
    rcases hb2 with ⟨b1, b2⟩ | ⟨l2, ⟨b0, b1⟩, b2⟩
    · left
      refine ⟨b1, ?_⟩
      unfold sk_R
      rw [b2]
      rfl
    · right
      refine ⟨by rw [b1]; omega, ?_⟩
      rw [b2]
      unfold sk_R
      exact if_pos (nI_pos' (by omega))
theorem sk_se {S : Nat → Int32} {C : Int} {w : Int32} (hw : w = 0 ∨ w = 1) (hM : MI S C) (hC : C + 640200 ≤ 1000000000) (hf : (-20000 ≤ (S 19).toInt ∧ (S 19).toInt ≤ 20000) ∧ -20000 ≤ (S 20).toInt ∧ (S 20).toInt ≤ 20000) : ((se_S S w).2 = 0 ∧ (sk_S S w).2 = 0) ∨ (¬ (se_S S w).2 = 0 ∧ sk_S S w = (upd (se_S S w).1 17 ((se_S S w).1 17 + 1), 1)) := by
  have o16 : (16 : Int32).toInt = 16 := rfl
  rcases hw with rfl | rfl
  · have k : (-1 * 17 : Int32).toInt = -17 := by decide
    refine sk_g (e := S 19) (d := -1) (d' := 1) (c1 := fun T => decide (T 8 < S 19 - 16)) (c2 := fun T => decide (S 19 ≤ T 8)) (Or.inr rfl) (Or.inl rfl) (by decide) hM hC hf.1 (fun T C h hC => ?_) (fun T C h hC => ?_)
    · have m4 := h.2.2.2.1
      have m5 := h.2.2.2.2.1
      have m3 := h.2.2.1
      have g : (S 19 + -1 * 17).toInt = (S 19).toInt - 17 := by rw [ti_add (by rw [k]; omega), k]; omega
      rw [decide_eq_true_iff, ti_lt, ti_le, ti_sub (x := S 19) (by rw [o16]; omega), Int32.mul_neg, Int32.mul_one, ti_neg (by rw [ti_sub (by rw [g]; omega), g]; omega), ti_sub (by rw [g]; omega), g, o16, t0]
      omega
    · have m4 := h.2.2.2.1
      have m5 := h.2.2.2.2.1
      have m3 := h.2.2.1
      rw [decide_eq_true_iff, ti_le, ti_le, Int32.mul_one, ti_sub (by omega), t0]
      omega
  · have k : (1 * 17 : Int32).toInt = 17 := by decide
    refine sk_g (e := S 20) (d := 1) (d' := -1) (c1 := fun T => decide (S 20 + 16 < T 8)) (c2 := fun T => decide (T 8 ≤ S 20)) (Or.inl rfl) (Or.inr rfl) (by decide) hM hC hf.2 (fun T C h hC => ?_) (fun T C h hC => ?_)
    · have m4 := h.2.2.2.1
      have m5 := h.2.2.2.2.1
      have m3 := h.2.2.1
      have g : (S 20 + 1 * 17).toInt = (S 20).toInt + 17 := by rw [ti_add (by rw [k]; omega), k]
      rw [decide_eq_true_iff, ti_lt, ti_le, ti_add (x := S 20) (by rw [o16]; omega), Int32.mul_one, ti_sub (by rw [g]; omega), g, o16, t0]
      omega
    · have m4 := h.2.2.2.1
      have m5 := h.2.2.2.2.1
      have m3 := h.2.2.1
      rw [decide_eq_true_iff, ti_le, ti_le, Int32.mul_neg, Int32.mul_one, ti_neg (by rw [ti_sub (by omega)]; omega), ti_sub (by omega), t0]
      omega
