/-! p29: what holds of every row besides IV: the sum, the accounts, how far things can have come -/
theorem s_a1 {a b c e x : Int32} : a + b + c + e + x = a + (b + x) + c + e := by grind
theorem s_a2 {a b c e x : Int32} : a + b + c + e + x = a + (b + x) + 0 + c + e := by grind
theorem s_a3 {a b c e x : Int32} : a + b + c + e + x = a + (b + x + 64) + (c - 64) + e := by grind
theorem s_a4 {a b c e x : Int32} : a + b + c + e + x = a + (b + x - 64) + (c + 64) + e := by grind
theorem s_m1 {z : Int32} : z * 64 - 64 = (z - 1) * 64 := by grind
theorem s_m2 {z : Int32} : z * 64 + 64 = (z + 1) * 64 := by grind
def JV (S : Nat → Int32) (N : Int) : Prop := S 6 = S 7 + S 9 + S 10 + S 11 ∧ (∃ z : Int32, S 10 = z * 64) ∧ 0 ≤ (S 14).toInt ∧ 0 ≤ (S 15).toInt ∧ (S 14).toInt + (S 15).toInt ≤ (S 13).toInt ∧ (S 13).toInt ≤ (S 12).toInt ∧ (S 12).toInt ≤ N
theorem JV.w {S : Nat → Int32} {N N' : Int} (h : JV S N) (hN : N ≤ N') : JV S N' := by
  obtain ⟨h1, h2, h3, h4, h5, h6, h7⟩ := h
  exact ⟨h1, h2, h3, h4, h5, h6, by omega⟩
theorem JV.cg {S T : Nat → Int32} {N : Int} (h : JV S N) (e : ∀ j : Nat, 6 ≤ j → j ≤ 15 → T j = S j) : JV T N := by
  unfold JV at *
  rw [e 6 (by omega) (by omega), e 7 (by omega) (by omega), e 9 (by omega) (by omega), e 10 (by omega) (by omega), e 11 (by omega) (by omega), e 12 (by omega) (by omega), e 13 (by omega) (by omega), e 14 (by omega) (by omega), e 15 (by omega) (by omega)]
  exact h
theorem ti_1 {x : Int32} {N : Int} (h0 : -1000 ≤ x.toInt) (h : x.toInt ≤ N) (hN : N + 1 ≤ 2147483647) : (x + 1).toInt = x.toInt + 1 := by
  rw [ti_add (by show _ ≤ _ + (1 : Int) ∧ _ + (1 : Int) ≤ _; omega)]; rfl
theorem JV.ms {S : Nat → Int32} {N : Int} {d : Int32} (h : JV S N) (hN : N + 1 ≤ 2147483647) : JV (ms_S S d) (N + 1) := by
  obtain ⟨h1, ⟨z, h2⟩, h3, h4, h5, h6, h7⟩ := h
  have e12 : (S 12 + 1).toInt = (S 12).toInt + 1 := ti_1 (N := N) (by omega) (by omega) hN
  have e13 : (S 13 + 1).toInt = (S 13).toInt + 1 := ti_1 (N := N) (by omega) (by omega) hN
  have e14 : (S 14 + 1).toInt = (S 14).toInt + 1 := ti_1 (N := N) (by omega) (by omega) hN
  have e15 : (S 15 + 1).toInt = (S 15).toInt + 1 := ti_1 (N := N) (by omega) (by omega) hN
  by_cases hs : St S
  · rw [ms_y hs]
    unfold mw_S
    split
    · split
      · refine ⟨?_, ⟨z, h2⟩, h3, h4, ?_, ?_, ?_⟩
        · show S 6 + d * S 0 = S 7 + (S 9 + d * S 0) + S 10 + S 11
          rw [h1]; exact s_a1
        · show (S 14).toInt + (S 15).toInt ≤ (S 13 + 1).toInt
          omega
        · show (S 13 + 1).toInt ≤ (S 12 + 1).toInt
          omega
        · show (S 12 + 1).toInt ≤ N + 1
          omega
      · refine ⟨?_, ⟨z - 1, ?_⟩, h3, ?_, ?_, ?_, ?_⟩
        · show S 6 + d * S 0 = S 7 + (S 9 + d * S 0 + 64) + (S 10 - 64) + S 11
          rw [h1]; exact s_a3
        · show S 10 - 64 = _
          rw [h2]; exact s_m1
        · show 0 ≤ (S 15 + 1).toInt
          omega
        · show (S 14).toInt + (S 15 + 1).toInt ≤ (S 13 + 1).toInt
          omega
        · show (S 13 + 1).toInt ≤ (S 12 + 1).toInt
          omega
        · show (S 12 + 1).toInt ≤ N + 1
          omega
    · refine ⟨?_, ⟨z + 1, ?_⟩, ?_, h4, ?_, ?_, ?_⟩
      · show S 6 + d * S 0 = S 7 + (S 9 + d * S 0 - 64) + (S 10 + 64) + S 11
        rw [h1]; exact s_a4
      · show S 10 + 64 = _
        rw [h2]; exact s_m2
      · show 0 ≤ (S 14 + 1).toInt
        omega
      · show (S 14 + 1).toInt + (S 15).toInt ≤ (S 13 + 1).toInt
        omega
      · show (S 13 + 1).toInt ≤ (S 12 + 1).toInt
        omega
      · show (S 12 + 1).toInt ≤ N + 1
        omega
  · rw [ms_n hs]
    refine ⟨?_, ⟨z, h2⟩, h3, h4, h5, ?_, ?_⟩
    · show S 6 + d * S 0 = S 7 + (S 9 + d * S 0) + 0 + S 10 + S 11
      rw [h1]; exact s_a2
    · show (S 13).toInt ≤ (S 12 + 1).toInt
      omega
    · show (S 12 + 1).toInt ≤ N + 1
      omega
theorem JV.fi {d : Int32} : ∀ (k : Nat) (S : Nat → Int32) (N : Int), JV S N → N + k ≤ 2147483647 → JV (fi_S d k S) (N + k)
  | 0, S, N, h, _ => by rw [show N + ((0 : Nat) : Int) = N by omega]; exact h
  | k + 1, S, N, h, hN => by
    rw [fi_s, show N + ((k + 1 : Nat) : Int) = N + 1 + k by omega]
    exact JV.fi k (ms_S S d) (N + 1) (h.ms (by omega)) (by omega)
/-- the error at a place is small -/
theorem dn_rg {x y : Int32} (hy : 0 < y.toInt ∧ y.toInt ≤ 100000) (hx : -198 * y.toInt ≤ x.toInt ∧ x.toInt ≤ 198 * y.toInt) : -199 ≤ (dn_I x y).toInt ∧ (dn_I x y).toInt ≤ 199 := by
  obtain ⟨w, hw⟩ : ∃ w : Nat, (w : Int) = y.toInt := ⟨y.toInt.toNat, by omega⟩
  have ey : y = nI w := by rw [ti_eq, nI_toInt (by omega)]; omega
  unfold dn_I
  by_cases c : x < 0
  · rw [if_pos c]
    rw [ti_lt, t0] at c
    obtain ⟨p, hp⟩ : ∃ p : Nat, (p : Int) = -x.toInt := ⟨(-x.toInt).toNat, by omega⟩
    have e1 : y - 1 - x = nI (w - 1 + p) := by
      rw [ti_eq, ti_sub (by rw [ti_sub (by show _ ≤ _ - (1 : Int) ∧ _ - (1 : Int) ≤ _; omega)]; show _ ≤ _ - (1 : Int) - _ ∧ _ - (1 : Int) - _ ≤ _; omega), ti_sub (by show _ ≤ _ - (1 : Int) ∧ _ - (1 : Int) ≤ _; omega), nI_toInt (by omega)]
      show _ - (1 : Int) - _ = _
      omega
    rw [e1, ey, pk_div (by omega) (by omega) (by omega)]
    have hq : (w - 1 + p) / w ≤ 199 := Nat.div_le_of_le_mul (by omega)
    generalize (w - 1 + p) / w = q at hq
    rw [nn_toInt (by omega)]
    omega
  · rw [if_neg c]
    rw [ti_lt, t0] at c
    obtain ⟨p, hp⟩ : ∃ p : Nat, (p : Int) = x.toInt := ⟨x.toInt.toNat, by omega⟩
    have e1 : x = nI p := by rw [ti_eq, nI_toInt (by omega)]; omega
    rw [e1, ey, pk_div (by omega) (by omega) (by omega)]
    have hq : p / w ≤ 199 := Nat.div_le_of_le_mul (by omega)
    generalize p / w = q at hq
    rw [nI_toInt (by omega)]
    omega
theorem em_rg {S : Nat → Int32} {x : Int32} (h : VL S 42 (-99) 99) (hx : -20000 ≤ x.toInt ∧ x.toInt ≤ 20000) : -300 ≤ (em_S S x).toInt ∧ (em_S S x).toInt ≤ 300 := by
  obtain ⟨hL, hs, hp⟩ := h
  obtain ⟨u1, u2⟩ := ut_spec (ls_P S 42) x (ls_n S 42) 0
  have hl := (ut_le (ls_P S 42) x (ls_n S 42) 0).2
  unfold em_S
  by_cases z : ls_n S 42 = 0
  · rw [if_pos z]; exact ⟨by decide, by decide⟩
  · rw [if_neg z]
    generalize ut_N (ls_P S 42) x (ls_n S 42) 0 = u at u1 u2 hl
    match u with
    | 0 =>
      have := (hp 0 (by omega)).2
      show -300 ≤ (ls_V S 42 0).toInt ∧ (ls_V S 42 0).toInt ≤ 300
      omega
    | k + 1 =>
      show -300 ≤ (if ls_n S 42 = k + 1 then ls_V S 42 k else ls_V S 42 k + dn_I ((ls_V S 42 (k + 1) - ls_V S 42 k) * (x - ls_P S 42 k)) (ls_P S 42 (k + 1) - ls_P S 42 k)).toInt ∧ (if ls_n S 42 = k + 1 then ls_V S 42 k else ls_V S 42 k + dn_I ((ls_V S 42 (k + 1) - ls_V S 42 k) * (x - ls_P S 42 k)) (ls_P S 42 (k + 1) - ls_P S 42 k)).toInt ≤ 300
      have a2 := hp k (by omega)
      by_cases c : ls_n S 42 = k + 1
      · rw [if_pos c]; omega
      · rw [if_neg c]
        have a1 := hs k (k + 1) (by omega) (by omega)
        have a3 := hp (k + 1) (by omega)
        have a4 := u1 k (Nat.zero_le _) (Nat.lt_succ_self _)
        have a5 := u2 (by omega)
        rw [ti_le] at a4 a5
        have d1 : (ls_P S 42 (k + 1) - ls_P S 42 k).toInt = (ls_P S 42 (k + 1)).toInt - (ls_P S 42 k).toInt := ti_sub (by omega)
        have d2 : (ls_V S 42 (k + 1) - ls_V S 42 k).toInt = (ls_V S 42 (k + 1)).toInt - (ls_V S 42 k).toInt := ti_sub (by omega)
        have d3 : (x - ls_P S 42 k).toInt = x.toInt - (ls_P S 42 k).toInt := ti_sub (by omega)
        have m1 : -198 * (ls_P S 42 (k + 1) - ls_P S 42 k).toInt ≤ (ls_V S 42 (k + 1) - ls_V S 42 k).toInt * (x - ls_P S 42 k).toInt ∧ (ls_V S 42 (k + 1) - ls_V S 42 k).toInt * (x - ls_P S 42 k).toInt ≤ 198 * (ls_P S 42 (k + 1) - ls_P S 42 k).toInt := by
          rw [d1, d2, d3]
          generalize hA : (ls_V S 42 (k + 1)).toInt - (ls_V S 42 k).toInt = A
          generalize hB : x.toInt - (ls_P S 42 k).toInt = B
          generalize hW : (ls_P S 42 (k + 1)).toInt - (ls_P S 42 k).toInt = W
          have hA2 : -198 ≤ A ∧ A ≤ 198 := by omega
          have hB2 : 0 ≤ B ∧ B ≤ W := by omega
          have t1 : A * B ≤ 198 * B := Int.mul_le_mul_of_nonneg_right hA2.2 hB2.1
          have t2 : -198 * B ≤ A * B := Int.mul_le_mul_of_nonneg_right hA2.1 hB2.1
          omega
        have hd := dn_rg (x := (ls_V S 42 (k + 1) - ls_V S 42 k) * (x - ls_P S 42 k)) (y := ls_P S 42 (k + 1) - ls_P S 42 k) (by omega) (by rw [ti_mul (by omega)]; exact m1)
        rw [ti_add (by omega)]
        omega
/-- the motor along microsteps -/
theorem ms_7y {S : Nat → Int32} {d : Int32} (h : St S) : ms_S S d 7 = S 7 := by
  rw [ms_y h]
  unfold mw_S
  split
  · split <;> rfl
  · rfl
theorem ms_8y {S : Nat → Int32} {d : Int32} (h : St S) : ms_S S d 8 = S 8 := by
  rw [ms_y h]
  unfold mw_S
  split
  · split <;> rfl
  · rfl
theorem ms_St {S : Nat → Int32} {d : Int32} (h : St S) : St (ms_S S d) := by
  refine (St.cg fun j hj => ?_).mpr h
  by_cases e : j = 8
  · subst e; exact ms_8y h
  · exact ms_o (by omega)
theorem ms_7n {S : Nat → Int32} {d : Int32} (h : ¬ St S) : ms_S S d 7 = S 7 + (S 9 + d * S 0) := by rw [ms_n h]; rfl
theorem ms_9n {S : Nat → Int32} {d : Int32} (h : ¬ St S) : ms_S S d 9 = 0 := by rw [ms_n h]; rfl
theorem s_b1 {a b x y d : Int32} : a + b + d * x + (0 + d * y) = a + b + d * (x + y) := by grind
theorem fi_m {d : Int32} {s0 : Nat} {S : Nat → Int32} (h0 : S 0 = nI s0) : ∀ k : Nat, (fi_S d k S 7 = S 7 ∧ (k = 0 ∨ St (fi_S d k S))) ∨ ∃ j : Nat, (1 ≤ j ∧ j ≤ k) ∧ fi_S d k S 7 = S 7 + S 9 + d * nI (j * s0) ∧ (St (fi_S d k S) ∨ (j = k ∧ fi_S d k S 9 = 0))
  | 0 => Or.inl ⟨rfl, Or.inl rfl⟩
  | k + 1 => by
    have e0 : fi_S d k S 0 = nI s0 := by rw [fi_o (by omega)]; exact h0
    rw [fi_sn]
    rcases fi_m h0 k with ⟨a1, a2⟩ | ⟨j, hj, a1, a2⟩
    · by_cases hs : St (fi_S d k S)
      · exact Or.inl ⟨by rw [ms_7y hs]; exact a1, Or.inr (ms_St hs)⟩
      · have hk : k = 0 := a2.resolve_right hs
        subst hk
        refine Or.inr ⟨1, by omega, ?_, Or.inr ⟨rfl, ms_9n hs⟩⟩
        rw [ms_7n hs]
        show S 7 + (S 9 + d * S 0) = _
        rw [h0, Nat.one_mul, Int32.add_assoc]
    · by_cases hs : St (fi_S d k S)
      · exact Or.inr ⟨j, by omega, by rw [ms_7y hs]; exact a1, Or.inl (ms_St hs)⟩
      · obtain ⟨rfl, a3⟩ := a2.resolve_left hs
        refine Or.inr ⟨j + 1, by omega, ?_, Or.inr ⟨rfl, ms_9n hs⟩⟩
        rw [ms_7n hs, a1, a3, e0, s_b1, nI_add, Nat.succ_mul]
theorem lp_end {c : (Nat → Int32) → Bool} {d : Int32} : ∀ (f : Nat) (S : Nat → Int32), (lp_S c d f S).2 = 0 ∨ (c (lp_S c d f S).1 = true ∧ ((lp_S c d f S).1 = S ∨ ∃ j : Nat, j < f ∧ (lp_S c d f S).1 = ms_S (fi_S d j S) d ∧ ¬ c (fi_S d j S) = true))
  | 0, S => Or.inl rfl
  | f + 1, S => by
    by_cases h : c S = true
    · rw [lp_t h]; exact Or.inr ⟨h, Or.inl rfl⟩
    · rw [lp_f h]
      rcases lp_end (c := c) (d := d) f (ms_S S d) with q | ⟨q1, q2 | ⟨j, q2, q3, q4⟩⟩
      · exact Or.inl q
      · exact Or.inr ⟨q1, Or.inr ⟨0, by omega, q2, h⟩⟩
      · exact Or.inr ⟨q1, Or.inr ⟨j + 1, by omega, q3, q4⟩⟩
/-- without a stall nothing is lost -/
theorem mm_10 {S : Nat → Int32} {d k : Int32} (h : ¬ sl_S S = 1) : mm_S S d k 10 = S 10 ∧ mm_S S d k 11 = S 11 := by
  unfold mm_S
  rw [if_neg h]
  exact ⟨rfl, rfl⟩
theorem ap_10 {e d : Int32} : ∀ (f : Nat) (S : Nat → Int32) (l : Int32), (ap_S e d f S l).1 10 = S 10 ∧ (ap_S e d f S l).1 11 = S 11
  | 0, S, l => by
    unfold ap_S
    split
    · exact ⟨rfl, rfl⟩
    · split <;> exact ⟨rfl, rfl⟩
  | f + 1, S, l => by
    unfold ap_S
    split
    · exact ⟨rfl, rfl⟩
    · split
      · exact ⟨rfl, rfl⟩
      · split
        · exact ⟨rfl, rfl⟩
        · split
          · rename_i q
            have h := mm_10 (S := S) (d := d) (k := tq_S S e d l) (by rw [q]; decide)
            have := ap_10 (e := e) (d := d) f (mm_S S d (tq_S S e d l)) (l - tq_S S e d l)
            exact ⟨this.1.trans h.1, this.2.trans h.2⟩
          · exact ⟨rfl, rfl⟩
theorem sk_10 {S : Nat → Int32} {w : Int32} : (sk_S S w).1 10 = S 10 ∧ (sk_S S w).1 11 = S 11 := by
  have h1 := ap_10 (e := sk_E S w + sk_D w * 17) (d := sk_D w) sk_L.toNatClampNeg S sk_L
  have h2 := ap_10 (e := sk_E S w) (d := -(sk_D w)) (sk_1 (sk_E S w) (sk_D w) S).2.toNatClampNeg (sk_1 (sk_E S w) (sk_D w) S).1 (sk_1 (sk_E S w) (sk_D w) S).2
  have e : (sk_2 (sk_E S w) (sk_D w) S).1 10 = S 10 ∧ (sk_2 (sk_E S w) (sk_D w) S).1 11 = S 11 := ⟨h2.1.trans h1.1, h2.2.trans h1.2⟩
  unfold sk_S sk_R
  split
  · exact e
  · exact e
