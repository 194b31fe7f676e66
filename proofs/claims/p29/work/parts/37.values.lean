theorem t0 : (0 : Int32).toInt = 0 := rfl
theorem in_cases {g : Nat → Int32} {u n i : Nat} {x : Int32} (hi : i < n + 1) (hu : u ≤ n) : (i < u ∧ in_F g u n x i = g i) ∨ (i = u ∧ in_F g u n x i = x) ∨ (u < i ∧ in_F g u n x i = g (i - 1)) := by
  rcases Nat.lt_trichotomy i u with h | h | h
  · exact Or.inl ⟨h, in_lt h⟩
  · subst h; exact Or.inr (Or.inl ⟨rfl, in_eq⟩)
  · exact Or.inr (Or.inr ⟨h, in_gt h (by omega)⟩)
theorem pp_VL {S : Nat → Int32} {b : Nat} {x v : Int32} {lo hi : Int} (h : VL S b lo hi) (hx : -20000 ≤ x.toInt ∧ x.toInt ≤ 20000) (hv : lo ≤ v.toInt ∧ v.toInt ≤ hi) (hr : ¬ ha_S S b x = 0 ∨ ls_n S b < 10) : VL (pp_S S b x v) b lo hi := by
  obtain ⟨hL, hs, hp⟩ := h
  have hn := hL.1
  obtain ⟨u1, u2⟩ := ut_spec (ls_P S b) x (ls_n S b) 0
  have hu : ut_S S b x ≤ ls_n S b := ut_S_le
  by_cases c : ha_S S b x = 0
  · have h10 : ls_n S b < 10 := by
      rcases hr with h | h
      · exact absurd c h
      · exact h
    have lt1 : ∀ i : Nat, i < ut_S S b x → (ls_P S b i).toInt < x.toInt := by
      intro i hi
      obtain ⟨k, hk⟩ : ∃ k : Nat, ut_S S b x = k + 1 := ⟨ut_S S b x - 1, by omega⟩
      have h1 := u1 k (Nat.zero_le _) (by show k < ut_S S b x; omega)
      have h2 : ¬ ls_P S b k = x := by
        intro q
        unfold ha_S at c
        rw [hk, ha_s, if_pos q] at c
        exact absurd c (by decide)
      rw [ti_le] at h1
      rw [ti_eq] at h2
      by_cases e : i = k
      · subst e; omega
      · have := hs i k (by omega) (by omega)
        omega
    have gt1 : ∀ i : Nat, ut_S S b x ≤ i → i < ls_n S b → x.toInt < (ls_P S b i).toInt := by
      intro i h1 h2
      have h3 : ¬ ls_P S b (ut_S S b x) ≤ x := u2 (by show ut_S S b x < _; omega)
      rw [ti_le] at h3
      by_cases e : i = ut_S S b x
      · rw [e]; omega
      · have := hs (ut_S S b x) i (by omega) h2
        omega
    have e : pp_S S b x v = rw_S S b (ls_n S b + 1) (in_F (ls_P S b) (ut_S S b x) (ls_n S b) x) (in_F (ls_V S b) (ut_S S b x) (ls_n S b) v) := if_pos c
    have en : ls_n (pp_S S b x v) b = ls_n S b + 1 := by rw [e, rw_n (by omega)]
    refine ⟨⟨by omega, by rw [en, e, rw_b]⟩, fun i j hij hj => ?_, fun i hi => ?_⟩
    · rw [en] at hj
      rw [e, rw_P (by omega), rw_P hj]
      rcases in_cases (g := ls_P S b) (x := x) (i := i) (Nat.lt_trans hij hj) hu with ⟨q, e1⟩ | ⟨q, e1⟩ | ⟨q, e1⟩ <;>
      rcases in_cases (g := ls_P S b) (x := x) hj hu with ⟨q2, e2⟩ | ⟨q2, e2⟩ | ⟨q2, e2⟩ <;> rw [e1, e2]
      · exact hs i j hij (by omega)
      · exact lt1 i q
      · have a1 := lt1 i q
        have a2 := gt1 (j - 1) (by omega) (by omega)
        omega
      · omega
      · omega
      · exact gt1 (j - 1) (by omega) (by omega)
      · omega
      · omega
      · exact hs (i - 1) (j - 1) (by omega) (by omega)
    · rw [en] at hi
      rw [e, rw_P hi, rw_V hi]
      rcases in_cases (g := ls_P S b) (x := x) hi hu with ⟨q, e1⟩ | ⟨q, e1⟩ | ⟨q, e1⟩ <;>
      rcases in_cases (g := ls_V S b) (x := v) hi hu with ⟨q2, e2⟩ | ⟨q2, e2⟩ | ⟨q2, e2⟩ <;> first | (exfalso; omega) | rw [e1, e2]
      · exact hp i (by omega)
      · exact ⟨hx, hv⟩
      · exact hp (i - 1) (by omega)
  · obtain ⟨k, hk, hpk⟩ := ha_k c
    have e : pp_S S b x v = upd S (b + 2 + 2 * k) v := by
      unfold pp_S
      rw [if_neg c, hk]; rfl
    have eb : pp_S S b x v b = S b := by rw [e, ud_ne (by omega)]
    have en : ls_n (pp_S S b x v) b = ls_n S b := by unfold ls_n; rw [eb]
    have eP : ∀ i : Nat, ls_P (pp_S S b x v) b i = ls_P S b i := fun i => by rw [e]; exact ud_ne (by omega)
    have eV : ∀ i : Nat, ls_V (pp_S S b x v) b i = if i = k then v else ls_V S b i := fun i => by
      rw [e]
      unfold ls_V upd
      by_cases q : i = k
      · rw [if_pos (by omega), if_pos q]
      · rw [if_neg (by omega), if_neg q]
    refine ⟨⟨by omega, by rw [en, eb]; exact hL.2⟩, fun i j hij hj => ?_, fun i hi => ?_⟩
    · rw [eP, eP]; exact hs i j hij (by omega)
    · rw [eP, eV]
      refine ⟨(hp i (by omega)).1, ?_⟩
      by_cases q : i = k
      · rw [if_pos q]; exact hv
      · rw [if_neg q]; exact (hp i (by omega)).2
theorem mp_VL {S : Nat → Int32} {b : Nat} {x v : Int32} {lo hi : Int} (h : VL S b lo hi) (hx : -20000 ≤ x.toInt ∧ x.toInt ≤ 20000) (hv : lo ≤ v.toInt ∧ v.toInt ≤ hi) (hr : ¬ ha_S S b x = 0 ∨ ls_n S b < 10) : VL (mp_S S b x v) b lo hi := (pp_VL h hx hv hr).el (pp_EL h.1)
theorem cg_cases {g : Nat → Int32} {k j i : Nat} (hi : i < j) : (i < k ∧ cg_I g k j i = g i) ∨ (k ≤ i ∧ cg_I g k j i = g (i + 1)) := by
  by_cases h : i < k
  · exact Or.inl ⟨h, cg_lt h⟩
  · exact Or.inr ⟨by omega, cg_ge (by omega) hi⟩
theorem mr_VL {S : Nat → Int32} {b : Nat} {x : Int32} {lo hi : Int} (h : VL S b lo hi) : VL (mr_S S b x) b lo hi := by
  have hE := rp_EL (x := x) h.1
  refine VL.el ?_ hE
  have hn : ls_n (rp_S S b x) b = ls_n S b - 1 := by
    have := h.1.1
    unfold rp_S
    rw [rw_n (by omega)]
  obtain ⟨hL, hs, hp⟩ := h
  refine ⟨⟨by have := hL.1; omega, by rw [hn]; unfold rp_S; rw [rw_b]⟩, fun i j hij hj => ?_, fun i hi => ?_⟩
  · rw [hn] at hj
    unfold rp_S
    rw [rw_P (by omega), rw_P hj]
    rcases cg_cases (g := ls_P S b) (k := ut_S S b x - 1) (i := i) (Nat.lt_trans hij hj) with ⟨q, e1⟩ | ⟨q, e1⟩ <;>
    rcases cg_cases (g := ls_P S b) (k := ut_S S b x - 1) hj with ⟨q2, e2⟩ | ⟨q2, e2⟩ <;> rw [e1, e2]
    · exact hs i j hij (by omega)
    · exact hs i (j + 1) (by omega) (by omega)
    · exact hs (i + 1) j (by omega) (by omega)
    · exact hs (i + 1) (j + 1) (by omega) (by omega)
  · rw [hn] at hi
    unfold rp_S
    rw [rw_P hi, rw_V hi]
    rcases cg_cases (g := ls_P S b) (k := ut_S S b x - 1) hi with ⟨q, e1⟩ | ⟨q, e1⟩ <;>
    rcases cg_cases (g := ls_V S b) (k := ut_S S b x - 1) hi with ⟨q2, e2⟩ | ⟨q2, e2⟩ <;> first | (exfalso; omega) | rw [e1, e2]
    · exact hp i (by omega)
    · exact hp (i + 1) (by omega)
theorem ct_VC {S : Nat → Int32} (h : VC S) : VC (ct_S S) := by
  obtain ⟨hL, hs, hp⟩ := h
  have h8 := hL.1
  have hn : ls_n (ct_S S) 63 = ls_n S 63 - 1 := by
    unfold ct_S
    rw [rw_n (by omega)]
  refine ⟨⟨by omega, by rw [hn]; unfold ct_S; rw [rw_b]⟩, fun i j hij hj => ?_, fun i hi => ?_⟩
  · rw [hn] at hj
    unfold ct_S
    rw [rw_V hj, rw_V (Nat.lt_trans hij hj)]
    exact hs (i + 1) (j + 1) (by omega) (by omega)
  · rw [hn] at hi
    unfold ct_S
    rw [rw_P hi]
    exact hp (i + 1) (by omega)
theorem ci_VC {S : Nat → Int32} {x y : Int32} (h : VC S) (hx : -20000 ≤ x.toInt ∧ x.toInt ≤ 20000) (hr : ls_n S 63 < 8) : VC (ci_S S x y) := by
  obtain ⟨hL, hs, hp⟩ := h
  obtain ⟨u1, u2⟩ := pr_spec (ls_V S 63) y (ls_n S 63) 0
  have hl := (pr_le (ls_V S 63) y (ls_n S 63) 0).2
  obtain ⟨u, hpu⟩ : ∃ u : Nat, pr_N (ls_V S 63) y (ls_n S 63) 0 = u := ⟨_, rfl⟩
  rw [hpu] at u1 u2 hl
  have hu : u ≤ ls_n S 63 := by omega
  have e : ci_S S x y = rw_S S 63 (ls_n S 63 + 1) (in_F (ls_P S 63) u (ls_n S 63) x) (in_F (ls_V S 63) u (ls_n S 63) y) := by unfold ci_S; rw [hpu]
  have en : ls_n (ci_S S x y) 63 = ls_n S 63 + 1 := by rw [e, rw_n (by omega)]
  have lt1 : ∀ i : Nat, i < u → y.toInt ≤ (ls_V S 63 i).toInt := by
    intro i hi
    have := u1 i (Nat.zero_le _) hi
    rw [ti_lt] at this
    omega
  have gt1 : ∀ i : Nat, u ≤ i → i < ls_n S 63 → (ls_V S 63 i).toInt ≤ y.toInt := by
    intro i h1 h2
    have h3 := u2 (by omega)
    rw [ti_lt] at h3
    by_cases e : i = u
    · rw [e]; omega
    · have := hs u i (by omega) h2
      omega
  refine ⟨⟨by omega, by rw [en, e, rw_b]⟩, fun i j hij hj => ?_, fun i hi => ?_⟩
  · rw [en] at hj
    rw [e, rw_V hj, rw_V (Nat.lt_trans hij hj)]
    rcases in_cases (g := ls_V S 63) (x := y) (i := i) (Nat.lt_trans hij hj) hu with ⟨q, e1⟩ | ⟨q, e1⟩ | ⟨q, e1⟩ <;>
    rcases in_cases (g := ls_V S 63) (x := y) hj hu with ⟨q2, e2⟩ | ⟨q2, e2⟩ | ⟨q2, e2⟩ <;> rw [e1, e2]
    · exact hs i j hij (by omega)
    · exact lt1 i q
    · have a1 := lt1 i q
      have a2 := gt1 (j - 1) (by omega) (by omega)
      omega
    · omega
    · omega
    · exact gt1 (j - 1) (by omega) (by omega)
    · omega
    · omega
    · exact hs (i - 1) (j - 1) (by omega) (by omega)
  · rw [en] at hi
    rw [e, rw_P hi]
    rcases in_cases (g := ls_P S 63) (x := x) hi hu with ⟨q, e1⟩ | ⟨q, e1⟩ | ⟨q, e1⟩ <;> rw [e1]
    · exact hp i (by omega)
    · exact hx
    · exact hp (i - 1) (by omega)
theorem xr_1 {x y : Int32} (hx : x.toInt < 0) (hy : 0 ≤ y.toInt) : x ^^^ y < 0 := by
  have h : (x ^^^ y).toBitVec.msb = true := by
    rw [Int32.toBitVec_xor, BitVec.msb_xor, BitVec.msb_eq_toInt, BitVec.msb_eq_toInt, decide_eq_true (show x.toBitVec.toInt < 0 from hx), decide_eq_false (show ¬ y.toBitVec.toInt < 0 from Int.not_lt.mpr hy)]
    rfl
  rw [BitVec.msb_eq_toInt] at h
  rw [ti_lt, t0]
  exact of_decide_eq_true h
theorem xr_0 {x y : Int32} (hx : 0 ≤ x.toInt) (hy : 0 ≤ y.toInt) : ¬ x ^^^ y < 0 := by
  have h : (x ^^^ y).toBitVec.msb = false := by
    rw [Int32.toBitVec_xor, BitVec.msb_xor, BitVec.msb_eq_toInt, BitVec.msb_eq_toInt, decide_eq_false (show ¬ x.toBitVec.toInt < 0 from Int.not_lt.mpr hx), decide_eq_false (show ¬ y.toBitVec.toInt < 0 from Int.not_lt.mpr hy)]
    rfl
  rw [BitVec.msb_eq_toInt] at h
  rw [ti_lt, t0]
  exact of_decide_eq_false h
theorem up_div {p w : Nat} (hw : 0 < w) : (w - 1 + p) / w = if p % w = 0 then p / w else p / w + 1 := by
  have h := Nat.div_add_mod p w
  have hr := Nat.mod_lt p hw
  generalize p / w = q at h ⊢
  generalize p % w = r at h hr ⊢
  subst h
  by_cases c : r = 0
  · subst c
    rw [if_pos rfl, show w - 1 + (w * q + 0) = w - 1 + w * q by omega, Nat.add_mul_div_left _ _ hw, Nat.div_eq_of_lt (by omega)]
    omega
  · rw [if_neg c, show w - 1 + (w * q + r) = (r - 1) + w * (q + 1) by rw [Nat.mul_add, Nat.mul_one]; omega, Nat.add_mul_div_left _ _ hw, Nat.div_eq_of_lt (by omega)]
    omega
theorem nn_toInt {q : Nat} (h : q < 2 ^ 31) : (-(nI q)).toInt = -(q : Int) := by
  rw [ti_neg (by rw [nI_toInt h]; omega), nI_toInt h]
theorem dv_neg {p w : Nat} (hp : p < 2 ^ 31) (hw : 0 < w) (hw2 : w < 2 ^ 31) : -(nI p) / nI w = -(nI (p / w)) := by
  have h2 : p / w < 2 ^ 31 := Nat.lt_of_le_of_lt (Nat.div_le_self p w) hp
  rw [ti_eq, Int32.toInt_div_of_ne_right _ _ (by rw [Ne, ti_eq, nI_toInt hw2]; show ¬ (w : Int) = -1; omega), nn_toInt hp, nI_toInt hw2, nn_toInt h2, Int.neg_tdiv]
  rw [Int.tdiv_eq_ediv_of_nonneg (by omega)]
  rfl
theorem fd_dn {x y : Int32} (hx : -100000000 ≤ x.toInt ∧ x.toInt ≤ 100000000) (hy : 0 < y.toInt ∧ y.toInt ≤ 100000) : fd_I x y = dn_I x y := by
  obtain ⟨w, hw, rfl⟩ := nI_of (x := y) (by rw [ti_lt, t0]; omega)
  rw [nI_toInt hw] at hy
  unfold fd_I dn_I
  by_cases c : x < 0
  · rw [if_pos c]
    have c0 : x.toInt < 0 := by rw [ti_lt, t0] at c; exact c
    obtain ⟨p, hp⟩ : ∃ p : Nat, x.toInt = -(p : Int) := ⟨(-x.toInt).toNat, by omega⟩
    have hp31 : p < 2 ^ 31 := by omega
    have ex : x = -(nI p) := by rw [ti_eq, nn_toInt hp31]; exact hp
    have e2 : nI w - 1 - x = nI (w - 1 + p) := by
      have h1 : (nI w - 1).toInt = (w : Int) - 1 := by
        rw [ti_sub (by rw [nI_toInt hw]; show _ ≤ (w : Int) - 1 ∧ (w : Int) - 1 ≤ _; omega), nI_toInt hw]; rfl
      rw [ti_eq, ti_sub (by rw [h1, hp]; omega), h1, hp, nI_toInt (by omega)]
      omega
    have e3 := dv_neg (p := p) (w := w) (by omega) (by omega) hw
    have hm : p / w * w ≤ p := Nat.div_mul_le_self p w
    have hd := Nat.div_add_mod p w
    have hc : p / w * w = w * (p / w) := Nat.mul_comm _ _
    have hq : p / w ≤ p := Nat.div_le_self p w
    rw [e2, pk_div (by omega) (by omega) hw, up_div (by omega), ex, e3]
    have hx1 : -(nI p) ^^^ nI w < 0 := xr_1 (by rw [← ex]; exact c0) (by rw [nI_toInt hw]; omega)
    rw [Int32.neg_mul, pk_mul]
    generalize p / w = q at hm hd hc hq ⊢
    rw [hc] at hm ⊢
    generalize w * q = z at hm hd ⊢
    by_cases r : p % w = 0
    · rw [if_pos r, if_neg (fun h => h.2 (by rw [show z = p by omega]))]
    · have hne : ¬ -(nI z) = -(nI p) := fun h => by
        rw [ti_eq, nn_toInt (by omega), nn_toInt (by omega)] at h
        omega
      rw [if_neg r, if_pos ⟨hx1, hne⟩, ti_eq, ti_sub (by rw [nn_toInt (by omega)]; show _ ≤ _ - (1 : Int) ∧ _ - (1 : Int) ≤ _; omega), nn_toInt (by omega), nn_toInt (by omega)]
      show -(q : Int) - 1 = -((q + 1 : Nat) : Int)
      omega
  · rw [if_neg c, if_neg (fun q => xr_0 (by rw [ti_lt, t0] at c; omega) (by rw [nI_toInt hw]; omega) q.1)]
theorem er_em {S : Nat → Int32} {x : Int32} (h : VL S 42 (-99) 99) (hx : -20000 ≤ x.toInt ∧ x.toInt ≤ 20000) : er_S S x = em_S S x := by
  obtain ⟨hL, hs, hp⟩ := h
  obtain ⟨u1, u2⟩ := ut_spec (ls_P S 42) x (ls_n S 42) 0
  have hl := (ut_le (ls_P S 42) x (ls_n S 42) 0).2
  unfold er_S em_S
  generalize ut_N (ls_P S 42) x (ls_n S 42) 0 = u at u1 u2 hl
  match u with
  | 0 =>
    rw [vb_0]
  | k + 1 =>
    rw [vb_s, if_neg (show ¬ ls_n S 42 = 0 by omega)]
    by_cases c : ls_n S 42 = k + 1
    · rw [if_pos (by omega)]
      show _ = if ls_n S 42 = k + 1 then _ else _
      rw [if_pos c]
    · have a1 := hs k (k + 1) (by omega) (by omega)
      have a2 := hp k (by omega)
      have a3 := hp (k + 1) (by omega)
      have a4 := u1 k (Nat.zero_le _) (Nat.lt_succ_self _)
      have a5 := u2 (by omega)
      rw [ti_le] at a4 a5
      have d1 : (ls_P S 42 (k + 1) - ls_P S 42 k).toInt = (ls_P S 42 (k + 1)).toInt - (ls_P S 42 k).toInt := ti_sub (by omega)
      have d2 : (ls_V S 42 (k + 1) - ls_V S 42 k).toInt = (ls_V S 42 (k + 1)).toInt - (ls_V S 42 k).toInt := ti_sub (by omega)
      have d3 : (x - ls_P S 42 k).toInt = x.toInt - (ls_P S 42 k).toInt := ti_sub (by omega)
      have m1 : -8000000 ≤ (ls_V S 42 (k + 1) - ls_V S 42 k).toInt * (x - ls_P S 42 k).toInt ∧ (ls_V S 42 (k + 1) - ls_V S 42 k).toInt * (x - ls_P S 42 k).toInt ≤ 8000000 := by
        rw [d2, d3]
        generalize hA : (ls_V S 42 (k + 1)).toInt - (ls_V S 42 k).toInt = A
        generalize hB : x.toInt - (ls_P S 42 k).toInt = B
        have hA2 : -198 ≤ A ∧ A ≤ 198 := by omega
        have hB2 : 0 ≤ B ∧ B ≤ 40000 := by omega
        have t1 : A * B ≤ 198 * B := Int.mul_le_mul_of_nonneg_right hA2.2 hB2.1
        have t2 : -198 * B ≤ A * B := Int.mul_le_mul_of_nonneg_right hA2.1 hB2.1
        omega
      rw [if_neg (by omega), if_neg (by rw [ti_le, t0]; omega), fd_dn (by rw [ti_mul (by omega)]; omega) (by omega)]
      show _ = if ls_n S 42 = k + 1 then _ else _
      rw [if_neg c]
theorem VL.nz {S : Nat → Int32} {lo hi : Int} (h : VL S 42 lo hi) : nz_P S := by
  intro i hi
  have h1 := h.2.1 i (i + 1) (by omega) hi
  have h2 := h.2.2 i (by omega)
  have h3 := h.2.2 (i + 1) hi
  rw [ti_eq, ti_sub (by omega), t0]
  omega
theorem to_to {S : Nat → Int32} : to_S S (S 2) = to_M S := by
  unfold to_S to_M mx_I
  generalize S 1 - S 2 * S 3 / 100 = y
  by_cases c : 0 < y
  · rw [if_pos c, if_pos (by rw [ti_lt] at c; rw [ti_le]; omega)]
  · rw [if_neg c]
    by_cases d : 0 ≤ y
    · rw [if_pos d, ti_eq]
      rw [ti_lt] at c
      rw [ti_le] at d
      omega
    · rw [if_neg d]
theorem bc_T : ∀ j : Nat, j < 17 → ¬ nI j < 1 → (bc_I (nI j) = 1 ↔ (nI j = 1 ∨ nI j = 2 ∨ nI j = 4 ∨ nI j = 8 ∨ nI j = 16)) := by decide +kernel
theorem nv_nm {i x : Int32} : nv_I i x = nm_I i x := by
  unfold nv_I nm_I
  by_cases c : i < 0 ∨ 6 ≤ i
  · rw [if_pos c, if_pos c]
  · rw [if_neg c, if_neg c]
    obtain ⟨k, hk, rfl⟩ := nI_of (x := i) (fun q => c (Or.inl q))
    have hk6 : k < 6 := by
      rcases Nat.lt_or_ge k 6 with h | h
      · exact h
      · exact absurd (Or.inr (nI_le h hk)) c
    rw [nI_clamp hk]
    match k, hk6 with
    | 0, _ =>
      rw [if_neg (show ¬ ¬ nI 0 = 0 from fun q => q rfl)]
      show (if x < 1 ∨ 16 < x then (0 : Int32) else _) = if x = 1 ∨ x = 2 ∨ x = 4 ∨ x = 8 ∨ x = 16 then 1 else 0
      by_cases d : x < 1 ∨ 16 < x
      · rw [if_pos d, if_neg (fun q => ?_)]
        rcases q with rfl | rfl | rfl | rfl | rfl <;> revert d <;> decide
      · rw [if_neg d]
        obtain ⟨j, hj, rfl⟩ := nI_of2 (x := x) (M := 16) (n := 16) rfl (fun q => d (Or.inl (by rw [ti_lt] at q ⊢; have : (1 : Int32).toInt = 1 := rfl; rw [t0] at q; omega))) (Int32.not_lt.mp fun q => d (Or.inr q))
        have hb := bc_T j (by omega) (fun q => d (Or.inl q))
        by_cases e : bc_I (nI j) = 1
        · rw [if_pos e, if_pos (hb.mp e)]
        · rw [if_neg e, if_neg (fun q => e (hb.mpr q))]
    | 1, _ => rw [if_pos (show ¬ nI 1 = 0 by decide)]; rfl
    | 2, _ => rw [if_pos (show ¬ nI 2 = 0 by decide)]; rfl
    | 3, _ => rw [if_pos (show ¬ nI 3 = 0 by decide)]; rfl
    | 4, _ => rw [if_pos (show ¬ nI 4 = 0 by decide)]; rfl
    | 5, _ => rw [if_pos (show ¬ nI 5 = 0 by decide)]; rfl
theorem sg_0' : ∀ x : Int32, 0 < x → sg_I x = 1 := by
  intro x h
  rw [ti_lt, t0] at h
  have hr := ti_rg x
  unfold sg_I
  have e1 : x >>> ((31 : Int32) &&& 31) = 0 := by
    rw [ti_eq, pk_shr x _ 31 (by decide), t0]
    have : x.toInt >>> 31 = x.toInt / 2 ^ 31 := Int.shiftRight_eq_div_pow _ _
    rw [this]
    omega
  have e2 : (-x).toBitVec.toNat = 4294967296 - x.toInt.toNat := by
    have h1 : (-x).toInt = -x.toInt := ti_neg (by omega)
    have h2 : (-x).toBitVec.toInt = -x.toInt := h1
    have h3 := BitVec.toInt_eq_toNat_cond (-x).toBitVec
    have h4 := (-x).toBitVec.isLt
    split at h3 <;> omega
  have e3 : ((-x).toUInt32 >>> ((31 : Int32).toUInt32 &&& Int32.toUInt32 31)).toInt32 = 1 := by
    have h5 := pk_ushr (-x) 31 31 (by decide)
    rw [e2] at h5
    have h6 : (4294967296 - x.toInt.toNat) / 2 ^ 31 = 1 := by omega
    rw [h6] at h5
    exact Int32.toBitVec_inj.mp (BitVec.eq_of_toNat_eq (by rw [h5]; rfl))
  rw [e1, e3, Int32.zero_or]
theorem sg_m : ∀ x : Int32, x < 0 → sg_I x = -1 := by
  intro x h
  rw [ti_lt, t0] at h
  have hr := ti_rg x
  unfold sg_I
  have e1 : x >>> ((31 : Int32) &&& 31) = -1 := by
    rw [ti_eq, pk_shr x _ 31 (by decide)]
    have : x.toInt >>> 31 = x.toInt / 2 ^ 31 := Int.shiftRight_eq_div_pow _ _
    rw [this]
    show _ = (-1 : Int)
    omega
  rw [e1, Int32.neg_one_or]
