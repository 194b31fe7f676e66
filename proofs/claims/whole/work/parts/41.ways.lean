/-! moves, seeking, stalls at speeds: the class' ways and the reference's -/
theorem ms_6 {S : Nat → Int32} {d : Int32} : ms_S S d 6 = S 6 + d * S 0 := by
  by_cases h : St S
  · rw [ms_y h]
    unfold mw_S
    split
    · split <;> rfl
    · rfl
  · rw [ms_n h]; rfl
theorem ms_13y {S : Nat → Int32} {d : Int32} (h : St S) : ms_S S d 13 = S 13 + 1 := by
  rw [ms_y h]
  unfold mw_S
  split
  · split <;> rfl
  · rfl
theorem ms_13n {S : Nat → Int32} {d : Int32} (h : ¬ St S) : ms_S S d 13 = S 13 := by
  rw [ms_n h]; rfl
theorem fi_6 {d : Int32} {s0 : Nat} : ∀ (k : Nat) (S : Nat → Int32), S 0 = nI s0 → fi_S d k S 6 = S 6 + d * nI (k * s0)
  | 0, S, _ => by
    rw [Nat.zero_mul, nI_0, Int32.mul_zero, Int32.add_zero]; rfl
  | k + 1, S, h => by
    rw [fi_s, fi_6 k (ms_S S d) (by rw [ms_o (by omega)]; exact h), ms_6, h, Int32.add_assoc, ← Int32.mul_add, nI_add, show (k + 1) * s0 = s0 + k * s0 by rw [Nat.succ_mul]; omega]
theorem fi_13 {d : Int32} : ∀ (k : Nat) (S : Nat → Int32), 0 ≤ (S 13).toInt → (S 13).toInt + k ≤ 2147483647 → (S 13).toInt ≤ (fi_S d k S 13).toInt ∧ (fi_S d k S 13).toInt ≤ (S 13).toInt + k
  | 0, S, _, _ => ⟨Int.le_refl _, by show (S 13).toInt ≤ _; omega⟩
  | k + 1, S, h0, h1 => by
    rw [fi_s]
    by_cases h : St S
    · have e : (ms_S S d 13).toInt = (S 13).toInt + 1 := by
        rw [ms_13y h, ti_add (by show _ ≤ _ + (1 : Int) ∧ _ + (1 : Int) ≤ _; omega)]; rfl
      have := fi_13 (d := d) k (ms_S S d) (by omega) (by omega)
      omega
    · have e : (ms_S S d 13).toInt = (S 13).toInt := by rw [ms_13n h]
      have := fi_13 (d := d) k (ms_S S d) (by omega) (by omega)
      omega
theorem sn_p {k : Nat} (hk : k < 2147483648) : sn_I (nI k) = 1 := if_pos (nI_pos' (by omega))
theorem sn_m {k : Nat} (hk : k < 2147483648) (h : 0 < k) : sn_I (-(nI k)) = -1 := if_neg (by rw [ti_le, nn_toInt (by omega), t0]; omega)
theorem sz_p {k : Nat} (hk : k < 2147483648) : sz_I (nI k) = nI k := if_pos (nI_pos' (by omega))
theorem sz_m {k : Nat} (hk : k < 2147483648) : sz_I (-(nI k)) = nI k := by
  have := sz_d (d := -1) hk (Or.inr rfl)
  rw [neg1] at this
  exact this
theorem tv_mo {S : Nat → Int32} {C c : Int} {x : Int32} (hM : MI S C) (hE : ai_S S x = am_S S x) (hp : ¬ ip_I (ai_S S x) = 0) (h6 : -c ≤ (S 6).toInt ∧ (S 6).toInt ≤ c) (hC : C + c + 20200 ≤ 1000000000) : ∃ (d : Int32) (k s0 : Nat), (d = 1 ∨ d = -1) ∧ (S 0 = nI s0 ∧ 1 ≤ s0 ∧ s0 ≤ 16) ∧ (∀ T : Nat → Int32, am_S T x = am_S S x → T 6 = S 6 → T 0 = S 0 → mo_S T x = fi_S d k T) ∧ tv_S S x = (fi_S d k S, he_I d k S 0) ∧ (k * s0 : Nat) ≤ c + 20000 ∧ (-20016 ≤ (S 6).toInt + (d * nI (k * s0)).toInt ∧ (S 6).toInt + (d * nI (k * s0)).toInt ≤ 20016) := by
  obtain ⟨s0, h0, h16⟩ := hM.s0
  have hA : -20000 ≤ (am_S S x).toInt ∧ (am_S S x).toInt ≤ 20000 := by
    rw [hE] at hp
    have q1 : ¬ am_S S x < -20000 := fun q => hp (if_pos (Or.inl q))
    have q2 : ¬ 20000 < am_S S x := fun q => hp (if_pos (Or.inr q))
    rw [ti_lt] at q1 q2
    exact ⟨Int.not_lt.mp q1, Int.not_lt.mp q2⟩
  have hC0 : 0 ≤ C := by have := hM.2.2.2.2.1; omega
  have e1 : st_S S (ai_S S x) = (am_S S x - S 6) / S 0 := by
    unfold st_S
    rw [hE, if_pos (by rw [ti_lt, h0, nI_toInt (by omega), t0]; omega)]
  have etv : tv_S S x = tl_S (ab_I ((am_S S x - S 6) / S 0)).toNatClampNeg S (sg_I ((am_S S x - S 6) / S 0)) (ab_I ((am_S S x - S 6) / S 0)) 0 := by
    unfold tv_S
    rw [if_neg hp, e1]
  have emo : ∀ T : Nat → Int32, am_S T x = am_S S x → T 6 = S 6 → T 0 = S 0 → mo_S T x = fi_S (sn_I ((am_S S x - S 6) / S 0)) (sz_I ((am_S S x - S 6) / S 0)).toNatClampNeg T := fun T e1 e2 e3 => by unfold mo_S; rw [e1, e2, e3]
  have hsub : (am_S S x - S 6).toInt = (am_S S x).toInt - (S 6).toInt := ti_sub (by omega)
  rw [h0] at etv
  have emo : ∀ T : Nat → Int32, am_S T x = am_S S x → T 6 = S 6 → T 0 = S 0 → mo_S T x = fi_S (sn_I ((am_S S x - S 6) / nI s0)) (sz_I ((am_S S x - S 6) / nI s0)).toNatClampNeg T := fun T e1 e2 e3 => by rw [emo T e1 e2 e3, h0]
  by_cases hD : 0 ≤ (am_S S x).toInt - (S 6).toInt
  · obtain ⟨p, hp⟩ : ∃ p : Nat, (p : Int) = (am_S S x).toInt - (S 6).toInt := ⟨((am_S S x).toInt - (S 6).toInt).toNat, by omega⟩
    have e2 : am_S S x - S 6 = nI p := by rw [ti_eq, hsub, nI_toInt (by omega)]; omega
    have e3 : (am_S S x - S 6) / nI s0 = nI (p / s0) := by rw [e2, pk_div (by omega) (by omega) (by omega)]
    have g1 : p / s0 * s0 ≤ p := Nat.div_mul_le_self p s0
    have g2 := Nat.div_add_mod p s0
    have g3 := Nat.mod_lt p (show s0 > 0 by omega)
    have g4 := Nat.mul_comm s0 (p / s0)
    have g5 : p / s0 ≤ p := Nat.div_le_self p s0
    rw [e3] at etv emo
    generalize p / s0 = k at etv emo g1 g2 g4 g5
    rw [g4] at g2
    rw [sn_p (by omega), sz_p (by omega), nI_clamp (by omega)] at emo
    have etv2 : tv_S S x = tl_S k S 1 (nI k) 0 := by
      rw [etv, show ab_I (nI k) = nI k from sz_p (by omega), nI_clamp (by omega)]
      by_cases z : k = 0
      · subst z; rfl
      · rw [sg_0' _ (nI_lt (a := 0) (by omega) (by omega))]
    rw [tl_fi (Or.inl rfl) h16.2 k k S C 0 (Nat.le_refl _) hM h0 (by omega)] at etv2
    refine ⟨1, k, s0, Or.inl rfl, ⟨h0, h16⟩, emo, etv2, by omega, ?_⟩
    rw [Int32.one_mul, nI_toInt (by omega)]
    omega
  · obtain ⟨p, hp⟩ : ∃ p : Nat, (p : Int) = -((am_S S x).toInt - (S 6).toInt) := ⟨(-((am_S S x).toInt - (S 6).toInt)).toNat, by omega⟩
    have e2 : am_S S x - S 6 = -(nI p) := by rw [ti_eq, hsub, nn_toInt (by omega)]; omega
    have e3 : (am_S S x - S 6) / nI s0 = -(nI (p / s0)) := by rw [e2, dv_neg (by omega) (by omega) (by omega)]
    have g1 : p / s0 * s0 ≤ p := Nat.div_mul_le_self p s0
    have g2 := Nat.div_add_mod p s0
    have g3 := Nat.mod_lt p (show s0 > 0 by omega)
    have g4 := Nat.mul_comm s0 (p / s0)
    have g5 : p / s0 ≤ p := Nat.div_le_self p s0
    rw [e3] at etv emo
    generalize p / s0 = k at etv emo g1 g2 g4 g5
    rw [g4] at g2
    rw [sz_m (by omega), nI_clamp (by omega)] at emo
    rw [show ab_I (-(nI k)) = nI k from sz_m (by omega), nI_clamp (by omega)] at etv
    by_cases z : k = 0
    · subst z
      refine ⟨-1, 0, s0, Or.inr rfl, ⟨h0, h16⟩, emo, etv, by omega, ?_⟩
      rw [neg1, nn_toInt (by omega)]
      omega
    · rw [sn_m (by omega) (by omega)] at emo
      rw [sg_m _ (by rw [ti_lt, nn_toInt (by omega), t0]; omega), tl_fi (Or.inr rfl) h16.2 k k S C 0 (Nat.le_refl _) hM h0 (by omega)] at etv
      refine ⟨-1, k, s0, Or.inr rfl, ⟨h0, h16⟩, emo, etv, by omega, ?_⟩
      rw [neg1, nn_toInt (by omega)]
      omega
/-- two rows that differ in torque's numbers alone -/
def SB (A B : Nat → Int32) : Prop := ∀ j : Nat, j ≠ 1 → j ≠ 2 → j ≠ 3 → A j = B j
theorem SB.ms {A B : Nat → Int32} {d : Int32} (h : SB A B) (ha : ¬ St A) (hb : ¬ St B) : SB (ms_S A d) (ms_S B d) := by
  intro j h1 h2 h3
  have e0 := h 0 (by decide) (by decide) (by decide)
  have e4 := h 4 (by decide) (by decide) (by decide)
  have e6 := h 6 (by decide) (by decide) (by decide)
  have e7 := h 7 (by decide) (by decide) (by decide)
  have e8 := h 8 (by decide) (by decide) (by decide)
  have e9 := h 9 (by decide) (by decide) (by decide)
  have e12 := h 12 (by decide) (by decide) (by decide)
  have e16 := h 16 (by decide) (by decide) (by decide)
  have ej := h j h1 h2 h3
  rw [ms_n ha, ms_n hb]
  by_cases c : j = 6 ∨ j = 7 ∨ j = 8 ∨ j = 9 ∨ j = 12 ∨ j = 16
  · rcases c with rfl | rfl | rfl | rfl | rfl | rfl
    · show A 6 + d * A 0 = B 6 + d * B 0
      rw [e6, e0]
    · show A 7 + (A 9 + d * A 0) = B 7 + (B 9 + d * B 0)
      rw [e7, e9, e0]
    · show (if A 8 < A 7 + (A 9 + d * A 0) - A 4 then A 7 + (A 9 + d * A 0) - A 4 else if A 7 + (A 9 + d * A 0) < A 8 then A 7 + (A 9 + d * A 0) else A 8) = if B 8 < B 7 + (B 9 + d * B 0) - B 4 then B 7 + (B 9 + d * B 0) - B 4 else if B 7 + (B 9 + d * B 0) < B 8 then B 7 + (B 9 + d * B 0) else B 8
      rw [e7, e9, e0, e8, e4]
    · show (0 : Int32) = 0
      rfl
    · show A 12 + 1 = B 12 + 1
      rw [e12]
    · show A 16 + sz_I (A 9 + d * A 0) = B 16 + sz_I (B 9 + d * B 0)
      rw [e16, e9, e0]
  · have o : ∀ T : Nat → Int32, mt_S (m3_S T d) j = T j := fun T => by
      unfold mt_S fo_S
      rw [ud_ne (by omega), ud_ne (by omega), ud_ne (by omega), ud_ne (by omega), m3_o (by omega)]
    rw [o, o]; exact ej
theorem lo_rg {S : Nat → Int32} {x : Int32} (h : VL S 21 0 200) : 0 ≤ (lo_S S x).toInt ∧ (lo_S S x).toInt ≤ 200 := by
  have hl := (ut_le (ls_P S 21) x (ls_n S 21) 0).2
  unfold lo_S
  generalize ut_N (ls_P S 21) x (ls_n S 21) 0 = u at hl ⊢
  match u with
  | 0 =>
    show 0 ≤ (0 : Int32).toInt ∧ (0 : Int32).toInt ≤ 200
    exact ⟨by decide, by decide⟩
  | k + 1 => exact (h.2.2 k (by omega)).2
theorem he_ge {d : Int32} : ∀ (k : Nat) (S : Nat → Int32) (h : Int32), h.toInt ≤ (he_I d k S h).toInt
  | 0, _, _ => Int.le_refl _
  | k + 1, S, h => by
    have := he_ge (d := d) k (ms_S S d) (mx_I h (lo_S S (S 8)))
    rw [mx_ti] at this
    show _ ≤ (he_I d k (ms_S S d) (mx_I h (lo_S S (S 8)))).toInt
    split at this <;> omega
theorem to_Mo {S : Nat → Int32} {d : Int32} : to_M (ms_S S d) = to_M S := by
  unfold to_M
  rw [ms_o (j := 1) (by omega), ms_o (j := 2) (by omega), ms_o (j := 3) (by omega)]
theorem he_st {d t : Int32} : ∀ (k : Nat) (A B : Nat → Int32) (h : Int32), SB A B → to_M A = t → to_M B = 200 → VL B 21 0 200 → 0 ≤ (A 13).toInt → (A 13).toInt + k ≤ 2147483647 → ((A 13 < fi_S d k A 13 ∨ t < h) ↔ t < he_I d k B h)
  | 0, A, B, h, _, _, _, _, _, _ => by
    show (A 13 < A 13 ∨ t < h) ↔ t < h
    rw [ti_lt]
    exact ⟨fun q => q.elim (fun q => absurd q (Int.lt_irrefl _)) id, Or.inr⟩
  | k + 1, A, B, h, hs, ht, h2, hv, h0, h1 => by
    have el : lo_S A (A 8) = lo_S B (B 8) := by
      rw [hs 8 (by decide) (by decide) (by decide)]
      exact lo_cg fun j hj => hs j (by omega) (by omega) (by omega)
    have hr := lo_rg (x := B 8) hv
    have hb : ¬ St B := fun q => by
      unfold St at q
      rw [h2, ti_lt] at q
      have q : (200 : Int) < _ := q
      omega
    show (A 13 < fi_S d k (ms_S A d) 13 ∨ t < h) ↔ t < he_I d k (ms_S B d) (mx_I h (lo_S B (B 8)))
    have hg := he_ge (d := d) k (ms_S B d) (mx_I h (lo_S B (B 8)))
    by_cases ha : St A
    · have e : (ms_S A d 13).toInt = (A 13).toInt + 1 := by
        rw [ms_13y ha, ti_add (by show _ ≤ _ + (1 : Int) ∧ _ + (1 : Int) ≤ _; omega)]; rfl
      have g := fi_13 (d := d) k (ms_S A d) (by omega) (by omega)
      unfold St at ha
      rw [ht, el, ti_lt] at ha
      rw [mx_ti] at hg
      refine ⟨fun _ => ?_, fun _ => Or.inl ?_⟩
      · rw [ti_lt]
        split at hg <;> omega
      · rw [ti_lt]; omega
    · have ih := he_st (d := d) k (ms_S A d) (ms_S B d) (mx_I h (lo_S B (B 8))) (hs.ms ha hb) (to_Mo.trans ht) (to_Mo.trans h2) (hv.cg fun j a b => ms_o (by omega)) (by rw [ms_13n ha]; exact h0) (by rw [ms_13n ha]; omega)
      rw [← ih, ms_13n ha]
      unfold St at ha
      rw [ht, el, ti_lt] at ha
      rw [ti_lt (x := t), ti_lt (x := t), mx_ti]
      constructor
      · rintro (q | q)
        · exact Or.inl q
        · right; split <;> omega
      · rintro (q | q)
        · exact Or.inl q
        · right; split at q <;> omega
theorem lp_fi {c : (Nat → Int32) → Bool} {d : Int32} : ∀ (f : Nat) (S : Nat → Int32), ∃ j : Nat, (lp_S c d f S).1 = fi_S d j S ∧ (lp_S c d f S).2 + j = f
  | 0, S => ⟨0, rfl, rfl⟩
  | f + 1, S => by
    by_cases h : c S = true
    · rw [lp_t h]; exact ⟨0, rfl, rfl⟩
    · obtain ⟨j, h1, h2⟩ := lp_fi (c := c) (d := d) f (ms_S S d)
      rw [lp_f h]
      exact ⟨j + 1, h1, by omega⟩
theorem s1_lp {c : (Nat → Int32) → Bool} {e d : Int32} (hd : d = 1 ∨ d = -1) (hc : ∀ (T : Nat → Int32) (C : Int), MI T C → C ≤ 1000000000 → (c T = true ↔ 16 < (T 8 - e) * d)) : ∀ (f : Nat) (S : Nat → Int32) (C : Int), MI S C → C + 16 * (f + 1 : Nat) ≤ 1000000000 → ((lp_S c d (f + 1) S).2 = 0 ∧ ¬ 16 < ((s1_S e d f S).1 8 - e) * d) ∨ ∃ l : Nat, (lp_S c d (f + 1) S).2 = l + 1 ∧ s1_S e d f S = ((lp_S c d (f + 1) S).1, l) ∧ 16 < ((lp_S c d (f + 1) S).1 8 - e) * d
  | 0, S, C, hM, hC => by
    have hi := hc S C hM (by omega)
    by_cases h : c S = true
    · right
      rw [lp_t h]
      exact ⟨0, rfl, rfl, hi.mp h⟩
    · left
      rw [lp_f h]
      exact ⟨rfl, fun q => h (hi.mpr q)⟩
  | f + 1, S, C, hM, hC => by
    have hi := hc S C hM (by omega)
    have es : s1_S e d (f + 1) S = if 16 < (S 8 - e) * d then (S, f + 1) else s1_S e d f (mm_S S d 1) := rfl
    by_cases h : c S = true
    · right
      rw [lp_t h, es, if_pos (hi.mp h)]
      exact ⟨f + 1, rfl, rfl, hi.mp h⟩
    · have m1 := hM.1
      have ih := s1_lp hd hc f (ms_S S d) (C + 16) ((hM.ms hd (by omega)).w (by omega)) (by omega)
      rw [lp_f h, es, if_neg (fun q => h (hi.mpr q)), mm_1 hd hM (by omega)]
      exact ih
theorem s2_lp {c : (Nat → Int32) → Bool} {e d d' : Int32} (hd : d' = 1 ∨ d' = -1) (hdd : -d = d') (hc : ∀ (T : Nat → Int32) (C : Int), MI T C → C ≤ 1000000000 → (c T = true ↔ (T 8 - e) * d ≤ 0)) : ∀ (f : Nat) (S : Nat → Int32) (C : Int), MI S C → C + 16 * (f + 1 : Nat) ≤ 1000000000 → ((lp_S c d' (f + 1) S).2 = 0 ∧ ¬ ((s2_S e d f S).1 8 - e) * d ≤ 0) ∨ ∃ l : Nat, (lp_S c d' (f + 1) S).2 = l + 1 ∧ s2_S e d f S = ((lp_S c d' (f + 1) S).1, l) ∧ ((lp_S c d' (f + 1) S).1 8 - e) * d ≤ 0
  | 0, S, C, hM, hC => by
    have hi := hc S C hM (by omega)
    by_cases h : c S = true
    · right
      rw [lp_t h]
      exact ⟨0, rfl, rfl, hi.mp h⟩
    · left
      rw [lp_f h]
      exact ⟨rfl, fun q => h (hi.mpr q)⟩
  | f + 1, S, C, hM, hC => by
    have hi := hc S C hM (by omega)
    have es : s2_S e d (f + 1) S = if (S 8 - e) * d ≤ 0 then (S, f + 1) else s2_S e d f (mm_S S (-d) 1) := rfl
    by_cases h : c S = true
    · right
      rw [lp_t h, es, if_pos (hi.mp h)]
      exact ⟨f + 1, rfl, rfl, hi.mp h⟩
    · have m1 := hM.1
      have ih := s2_lp hd hdd hc f (ms_S S d') (C + 16) ((hM.ms hd (by omega)).w (by omega)) (by omega)
      rw [lp_f h, es, if_neg (fun q => h (hi.mpr q)), hdd, mm_1 hd hM (by omega)]
      exact ih
theorem sk_g {S : Nat → Int32} {C : Int} {c1 c2 : (Nat → Int32) → Bool} {e d d' : Int32} (hd : d = 1 ∨ d = -1) (hd' : d' = 1 ∨ d' = -1) (hdd : -d = d') (hM : MI S C) (hC : C + 640100 ≤ 1000000000) (h1 : ∀ (T : Nat → Int32) (C : Int), MI T C → C ≤ 1000000000 → (c1 T = true ↔ 16 < (T 8 - e) * d)) (h2 : ∀ (T : Nat → Int32) (C : Int), MI T C → C ≤ 1000000000 → (c2 T = true ↔ (T 8 - e) * d ≤ 0)) : ((lp_S c2 d' (lp_S c1 d 20001 S).2 (lp_S c1 d 20001 S).1).2 = 0 ∧ (sk_2 e d (s1_S e d 20000 S)).2 = 0) ∨ (¬ (lp_S c2 d' (lp_S c1 d 20001 S).2 (lp_S c1 d 20001 S).1).2 = 0 ∧ sk_2 e d (s1_S e d 20000 S) = (upd (lp_S c2 d' (lp_S c1 d 20001 S).2 (lp_S c1 d 20001 S).1).1 17 ((lp_S c2 d' (lp_S c1 d 20001 S).2 (lp_S c1 d 20001 S).1).1 17 + 1), 1)) := by
  obtain ⟨s0, h0, h16⟩ := hM.s0
  obtain ⟨j, j1, j2⟩ := lp_fi (c := c1) (d := d) 20001 S
  have hjs : j * s0 ≤ 20001 * 16 := Nat.mul_le_mul (by omega) h16.2
  have hM2 : MI (lp_S c1 d 20001 S).1 (C + 320016) := by
    rw [j1]
    exact (MI.fi hd h16.2 j S C hM h0 (by omega)).w (by omega)
  have hb := s1_lp hd h1 20000 S C hM (by omega)
  rw [show 20000 + 1 = 20001 from rfl] at hb
  rcases hb with ⟨a1, a2⟩ | ⟨l, a1, a2, a3⟩
  · left
    rw [a1]
    refine ⟨rfl, ?_⟩
    unfold sk_2
    rw [if_neg a2]
  · have hb2 := s2_lp (e := e) hd' hdd h2 l (lp_S c1 d 20001 S).1 (C + 320016) hM2 (by omega)
    rw [a1]
    have e2 : sk_2 e d (s1_S e d 20000 S) = sk_3 e d (s2_S e d l (lp_S c1 d 20001 S).1).1 := by
      unfold sk_2
      rw [a2]
      exact if_pos a3
    rw [e2]
    rcases hb2 with ⟨b1, b2⟩ | ⟨l2, b1, b2, b3⟩
    · left
      refine ⟨b1, ?_⟩
      unfold sk_3
      rw [if_neg b2]
    · right
      refine ⟨by rw [b1]; omega, ?_⟩
      rw [b2]
      unfold sk_3
      exact if_pos b3
theorem sk_se {S : Nat → Int32} {C : Int} {w : Int32} (hw : w = 0 ∨ w = 1) (hM : MI S C) (hC : C + 640100 ≤ 1000000000) (hf : (-20000 ≤ (S 19).toInt ∧ (S 19).toInt ≤ 20000) ∧ -20000 ≤ (S 20).toInt ∧ (S 20).toInt ≤ 20000) : ((se_S S w).2 = 0 ∧ (sk_S S w).2 = 0) ∨ (¬ (se_S S w).2 = 0 ∧ sk_S S w = (upd (se_S S w).1 17 ((se_S S w).1 17 + 1), 1)) := by
  have o16 : (16 : Int32).toInt = 16 := rfl
  rcases hw with rfl | rfl
  · refine sk_g (e := S 19) (d := -1) (d' := 1) (c1 := fun T => decide (T 8 < S 19 - 16)) (c2 := fun T => decide (S 19 ≤ T 8)) (Or.inr rfl) (Or.inl rfl) (by decide) hM hC (fun T C h hC => ?_) (fun T C h hC => ?_)
    · have m4 := h.2.2.2.1
      have m5 := h.2.2.2.2.1
      have m3 := h.2.2.1
      rw [decide_eq_true_iff, ti_lt, ti_lt, ti_sub (by rw [o16]; omega), Int32.mul_neg, Int32.mul_one, ti_neg (by rw [ti_sub (by omega)]; omega), ti_sub (by omega), o16]
      omega
    · have m4 := h.2.2.2.1
      have m5 := h.2.2.2.2.1
      have m3 := h.2.2.1
      rw [decide_eq_true_iff, ti_le, ti_le, Int32.mul_neg, Int32.mul_one, ti_neg (by rw [ti_sub (by omega)]; omega), ti_sub (by omega), t0]
      omega
  · refine sk_g (e := S 20) (d := 1) (d' := -1) (c1 := fun T => decide (S 20 + 16 < T 8)) (c2 := fun T => decide (T 8 ≤ S 20)) (Or.inl rfl) (Or.inr rfl) (by decide) hM hC (fun T C h hC => ?_) (fun T C h hC => ?_)
    · have m4 := h.2.2.2.1
      have m5 := h.2.2.2.2.1
      have m3 := h.2.2.1
      rw [decide_eq_true_iff, ti_lt, ti_lt, ti_add (by rw [o16]; omega), Int32.mul_one, ti_sub (by omega), o16]
      omega
    · have m4 := h.2.2.2.1
      have m5 := h.2.2.2.2.1
      have m3 := h.2.2.1
      rw [decide_eq_true_iff, ti_le, ti_le, Int32.mul_one, ti_sub (by omega), t0]
      omega
