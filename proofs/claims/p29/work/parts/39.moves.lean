def MI (S : Nat → Int32) (C : Int) : Prop := (1 ≤ (S 0).toInt ∧ (S 0).toInt ≤ 16) ∧ (0 ≤ (S 4).toInt ∧ (S 4).toInt ≤ 50) ∧ (-32 ≤ (S 9).toInt ∧ (S 9).toInt ≤ 32) ∧ ((S 7).toInt - 50 ≤ (S 8).toInt ∧ (S 8).toInt ≤ (S 7).toInt) ∧ ((S 7).toInt + (S 9).toInt ≤ C ∧ (S 7).toInt - (S 9).toInt ≤ C ∧ -(S 7).toInt + (S 9).toInt ≤ C ∧ -(S 7).toInt - (S 9).toInt ≤ C) ∧ VL S 21 0 200
theorem VL.cg {S T : Nat → Int32} {b : Nat} {lo hi : Int} (h : VL S b lo hi) (e : ∀ j : Nat, b ≤ j → j ≤ b + 20 → T j = S j) : VL T b lo hi := by
  have hn : ls_n T b = ls_n S b := by unfold ls_n; rw [e b (by omega) (by omega)]
  exact h.el (EL.of (N := 10) (by rw [hn]; exact h.1.1) fun j h1 h2 => (e j h1 (by omega)).symm)
theorem d_ti {d x : Int32} (hd : d = 1 ∨ d = -1) (hx : -2147483647 ≤ x.toInt) : (d = 1 ∧ (d * x).toInt = x.toInt) ∨ (d = -1 ∧ (d * x).toInt = -x.toInt) := by
  rcases hd with rfl | rfl
  · exact Or.inl ⟨rfl, by rw [Int32.one_mul]⟩
  · exact Or.inr ⟨rfl, by rw [neg1, ti_neg hx]⟩
theorem MI.w {S : Nat → Int32} {C D : Int} (h : MI S C) (hD : C ≤ D) : MI S D := by
  obtain ⟨h1, h2, h3, h4, h5, h6⟩ := h
  exact ⟨h1, h2, h3, h4, ⟨by omega, by omega, by omega, by omega⟩, h6⟩
theorem fo_ti {S : Nat → Int32} {m : Int32} (h4 : 0 ≤ (S 4).toInt ∧ (S 4).toInt ≤ 50) (hm : -2000000000 ≤ m.toInt ∧ m.toInt ≤ 2000000000) : (if S 8 < m - S 4 then m - S 4 else if m < S 8 then m else S 8).toInt = (if (S 8).toInt < m.toInt - (S 4).toInt then m.toInt - (S 4).toInt else if m.toInt < (S 8).toInt then m.toInt else (S 8).toInt) := by
  have e : (m - S 4).toInt = m.toInt - (S 4).toInt := ti_sub (by omega)
  by_cases c : S 8 < m - S 4
  · rw [if_pos c, e]
    rw [ti_lt, e] at c
    rw [if_pos c]
  · rw [if_neg c]
    rw [ti_lt, e] at c
    rw [if_neg c]
    by_cases c2 : m < S 8
    · rw [if_pos c2]
      rw [ti_lt] at c2
      rw [if_pos c2]
    · rw [if_neg c2]
      rw [ti_lt] at c2
      rw [if_neg c2]
theorem MI.ms {S : Nat → Int32} {C : Int} {d : Int32} (hd : d = 1 ∨ d = -1) (h : MI S C) (hC : C + (S 0).toInt ≤ 1000000000) : MI (ms_S S d) (C + (S 0).toInt) := by
  obtain ⟨h1, h2, h3, h4, h5, h6⟩ := h
  have e0 := d_ti (x := S 0) hd (by omega)
  have el : (S 9 + d * S 0).toInt = (S 9).toInt + (d * S 0).toInt := ti_add (by omega)
  have ho : ∀ j : Nat, (j < 6 ∨ j = 11 ∨ 17 ≤ j) → ms_S S d j = S j := fun j hj => ms_o hj
  have hV : VL (ms_S S d) 21 0 200 := h6.cg fun j a b => ho j (by omega)
  have e00 : (ms_S S d 0).toInt = (S 0).toInt := by rw [ho 0 (by omega)]
  have e04 : (ms_S S d 4).toInt = (S 4).toInt := by rw [ho 4 (by omega)]
  by_cases hst : St S
  · have h7 : ms_S S d 7 = S 7 ∧ ms_S S d 8 = S 8 ∧ ((ms_S S d 9 = S 9 + d * S 0 ∧ (-32 < (S 9 + d * S 0).toInt ∧ (S 9 + d * S 0).toInt < 32)) ∨ (ms_S S d 9 = S 9 + d * S 0 - 64 ∧ 32 ≤ (S 9 + d * S 0).toInt) ∨ (ms_S S d 9 = S 9 + d * S 0 + 64 ∧ (S 9 + d * S 0).toInt ≤ -32)) := by
      rw [ms_y hst]
      unfold mw_S
      by_cases c : S 9 + d * S 0 < 32
      · rw [if_pos (show upd (m3_S S d) 13 (S 13 + 1) 9 < 32 from c)]
        by_cases c2 : -32 < S 9 + d * S 0
        · rw [if_pos (show -32 < upd (m3_S S d) 13 (S 13 + 1) 9 from c2)]
          exact ⟨rfl, rfl, Or.inl ⟨rfl, by rw [ti_lt] at c2; exact c2, by rw [ti_lt] at c; exact c⟩⟩
        · rw [if_neg (show ¬ -32 < upd (m3_S S d) 13 (S 13 + 1) 9 from c2)]
          exact ⟨rfl, rfl, Or.inr (Or.inr ⟨rfl, by rw [ti_lt] at c2; exact Int.not_lt.mp c2⟩)⟩
      · rw [if_neg (show ¬ upd (m3_S S d) 13 (S 13 + 1) 9 < 32 from c)]
        exact ⟨rfl, rfl, Or.inr (Or.inl ⟨rfl, by rw [ti_lt] at c; exact Int.not_lt.mp c⟩)⟩
    obtain ⟨g7, g8, g9⟩ := h7
    have k9 : (ms_S S d 9).toInt = (S 9).toInt + (d * S 0).toInt ∧ -32 < (S 9).toInt + (d * S 0).toInt ∧ (S 9).toInt + (d * S 0).toInt < 32 ∨ (ms_S S d 9).toInt = (S 9).toInt + (d * S 0).toInt - 64 ∧ 32 ≤ (S 9).toInt + (d * S 0).toInt ∨ (ms_S S d 9).toInt = (S 9).toInt + (d * S 0).toInt + 64 ∧ (S 9).toInt + (d * S 0).toInt ≤ -32 := by
      rcases g9 with ⟨g, q⟩ | ⟨g, q⟩ | ⟨g, q⟩
      · rw [el] at q
        exact Or.inl ⟨by rw [g, el], q⟩
      · rw [el] at q
        exact Or.inr (Or.inl ⟨by rw [g, ti_sub (by rw [el]; show _ ≤ _ - (64 : Int) ∧ _ - (64 : Int) ≤ _; omega), el]; rfl, q⟩)
      · rw [el] at q
        exact Or.inr (Or.inr ⟨by rw [g, ti_add (by rw [el]; show _ ≤ _ + (64 : Int) ∧ _ + (64 : Int) ≤ _; omega), el]; rfl, q⟩)
    refine ⟨by omega, by omega, by omega, by rw [g7, g8]; exact h4, by rw [g7]; omega, hV⟩
  · have g7 : ms_S S d 7 = S 7 + (S 9 + d * S 0) := by rw [ms_n hst]; rfl
    have g9 : ms_S S d 9 = 0 := by rw [ms_n hst]; rfl
    have k7 : (S 7 + (S 9 + d * S 0)).toInt = (S 7).toInt + ((S 9).toInt + (d * S 0).toInt) := by rw [ti_add (by rw [el]; omega), el]
    have g8 : ms_S S d 8 = if S 8 < S 7 + (S 9 + d * S 0) - S 4 then S 7 + (S 9 + d * S 0) - S 4 else if S 7 + (S 9 + d * S 0) < S 8 then S 7 + (S 9 + d * S 0) else S 8 := by rw [ms_n hst]; rfl
    have k8 := congrArg Int32.toInt g8
    rw [fo_ti (by omega) (by rw [k7]; omega), k7] at k8
    refine ⟨by omega, by omega, by rw [g9, t0]; omega, ?_, by rw [g9, t0, g7, k7]; omega, hV⟩
    rw [k8, g7, k7]
    split
    · omega
    · split <;> omega
theorem MI.fi {d : Int32} (hd : d = 1 ∨ d = -1) {s0 : Nat} (h16 : s0 ≤ 16) : ∀ (k : Nat) (S : Nat → Int32) (C : Int), MI S C → S 0 = nI s0 → C + (k * s0 : Nat) ≤ 1000000000 → MI (fi_S d k S) (C + (k * s0 : Nat))
  | 0, S, C, h, _, _ => by
    rw [show C + (0 * s0 : Nat) = C by rw [Nat.zero_mul]; omega]
    exact h
  | k + 1, S, C, h, h0, hC => by
    have e : (k + 1) * s0 = k * s0 + s0 := Nat.succ_mul k s0
    have e0 : (S 0).toInt = s0 := by rw [h0, nI_toInt (by omega)]
    have h' := h.ms hd (by omega)
    rw [e0] at h'
    have := MI.fi hd h16 k (ms_S S d) (C + s0) h' (by rw [ms_o (by omega)]; exact h0) (by omega)
    rw [fi_s, show C + ((k + 1) * s0 : Nat) = C + s0 + (k * s0 : Nat) by omega]
    exact this
/-- where the table is, t ticks on -/
def tb (S : Nat → Int32) (d : Int32) (t : Nat) : Int := if d = 1 then (if (S 8).toInt < (S 7).toInt + t - (S 4).toInt then (S 7).toInt + t - (S 4).toInt else (S 8).toInt) else (if (S 7).toInt - t < (S 8).toInt then (S 7).toInt - t else (S 8).toInt)
theorem tb_1 {S : Nat → Int32} {t : Nat} : tb S 1 t = if (S 8).toInt < (S 7).toInt + t - (S 4).toInt then (S 7).toInt + t - (S 4).toInt else (S 8).toInt := if_pos rfl
theorem tb_m {S : Nat → Int32} {t : Nat} : tb S (-1) t = if (S 7).toInt - t < (S 8).toInt then (S 7).toInt - t else (S 8).toInt := if_neg (by decide)
def NP (S V : Nat → Int32) (d : Int32) (t k : Nat) : Prop := (∀ j : Nat, (j ≤ 5 ∨ j = 10 ∨ j = 11 ∨ j = 13 ∨ j = 14 ∨ j = 15 ∨ 17 ≤ j) → V j = S j) ∧ V 6 = S 6 + d * nI t ∧ V 7 = S 7 + d * nI t ∧ V 9 = 0 ∧ V 12 = S 12 + nI k ∧ V 16 = S 16 + nI t ∧ (V 8).toInt = tb S d t
theorem NP.u {S V W : Nat → Int32} {d : Int32} {t k : Nat} (h : NP S V d t k) (h' : NP S W d t k) : V = W := by
  obtain ⟨h1, h2, h3, h4, h5, h6, h7⟩ := h
  obtain ⟨g1, g2, g3, g4, g5, g6, g7⟩ := h'
  exact row_eq (fun j hj => (h1 j (by omega)).trans (g1 j (by omega)).symm) (h2.trans g2.symm) (h3.trans g3.symm) (ti_eq.mpr (h7.trans g7.symm)) (h4.trans g4.symm) ((h1 10 (by omega)).trans (g1 10 (by omega)).symm) (h5.trans g5.symm) ((h1 13 (by omega)).trans (g1 13 (by omega)).symm) ((h1 14 (by omega)).trans (g1 14 (by omega)).symm) ((h1 15 (by omega)).trans (g1 15 (by omega)).symm) (h6.trans g6.symm)
theorem NP.z {S : Nat → Int32} {d : Int32} (h9 : S 9 = 0) (h8 : (S 7).toInt - (S 4).toInt ≤ (S 8).toInt ∧ (S 8).toInt ≤ (S 7).toInt) : NP S S d 0 0 := by
  refine ⟨fun _ _ => rfl, by simp [nI_0], by simp [nI_0], h9, by simp [nI_0], by simp [nI_0], ?_⟩
  unfold tb
  rw [if_neg (show ¬ (S 8).toInt < (S 7).toInt + ((0 : Nat) : Int) - (S 4).toInt by omega), if_neg (show ¬ (S 7).toInt - ((0 : Nat) : Int) < (S 8).toInt by omega)]
  split <;> rfl
theorem sz_d {d : Int32} {t : Nat} (ht : t < 2147483648) (hd : d = 1 ∨ d = -1) : sz_I (d * nI t) = nI t := by
  unfold sz_I
  rcases hd with rfl | rfl
  · rw [Int32.one_mul, if_pos (nI_pos' (by omega))]
  · rw [neg1]
    by_cases c : 0 ≤ -(nI t)
    · rw [if_pos c, ti_eq, nn_toInt (by omega), nI_toInt (by omega)]
      rw [ti_le, nn_toInt (by omega), t0] at c
      omega
    · rw [if_neg c, Int32.neg_neg]
theorem NP.s {S V : Nat → Int32} {d : Int32} {t k s0 : Nat} (hd : d = 1 ∨ d = -1) (h0 : S 0 = nI s0) (h16 : s0 ≤ 16) (h4 : 0 ≤ (S 4).toInt ∧ (S 4).toInt ≤ 50) (h8 : (S 7).toInt - (S 4).toInt ≤ (S 8).toInt ∧ (S 8).toInt ≤ (S 7).toInt) (hC : -1000000000 ≤ (S 7).toInt - t ∧ (S 7).toInt + t ≤ 1000000000) (hst : ¬ St V) (h : NP S V d t k) : NP S (ms_S V d) d (t + s0) (k + 1) := by
  obtain ⟨g1, g2, g3, g5, g6, g7, g8⟩ := h
  have e0 : V 0 = nI s0 := (g1 0 (by omega)).trans h0
  have el : V 9 + d * V 0 = d * nI s0 := by rw [g5, e0, Int32.zero_add]
  have ed := d_ti (x := nI t) hd (by rw [nI_toInt (by omega)]; omega)
  have es := d_ti (x := nI s0) hd (by rw [nI_toInt (by omega)]; omega)
  rw [nI_toInt (by omega)] at ed es
  have k7 : (V 7).toInt = (S 7).toInt + (d * nI t).toInt := by rw [g3, ti_add (by omega)]
  have k7' : (V 7 + d * nI s0).toInt = (S 7).toInt + (d * nI t).toInt + (d * nI s0).toInt := by rw [ti_add (by omega), k7]
  have e4 : (V 4).toInt = (S 4).toInt := by rw [g1 4 (by omega)]
  rw [ms_n hst]
  refine ⟨fun j hj => ?_, ?_, ?_, rfl, ?_, ?_, ?_⟩
  · show mt_S (m3_S V d) j = _
    unfold mt_S fo_S
    rw [ud_ne (by omega), ud_ne (by omega), ud_ne (by omega), ud_ne (by omega), m3_o (by omega)]
    exact g1 j hj
  · show V 6 + d * V 0 = _
    rw [e0, g2, Int32.add_assoc, ← Int32.mul_add, nI_add]
  · show V 7 + (V 9 + d * V 0) = _
    rw [el, g3, Int32.add_assoc, ← Int32.mul_add, nI_add]
  · show V 12 + 1 = _
    rw [g6, Int32.add_assoc, nI_1]
  · show V 16 + sz_I (V 9 + d * V 0) = _
    rw [el, sz_d (by omega) hd, g7, Int32.add_assoc, nI_add]
  · show (if V 8 < V 7 + (V 9 + d * V 0) - V 4 then V 7 + (V 9 + d * V 0) - V 4 else if V 7 + (V 9 + d * V 0) < V 8 then V 7 + (V 9 + d * V 0) else V 8).toInt = _
    rw [el, fo_ti (by omega) (by omega), k7', e4, g8]
    rcases hd with rfl | rfl
    · rw [tb_1, tb_1]
      have ed : (1 * nI t).toInt = t := by rw [Int32.one_mul, nI_toInt (by omega)]
      have es : (1 * nI s0).toInt = s0 := by rw [Int32.one_mul, nI_toInt (by omega)]
      rw [ed, es]
      repeat' split
      all_goals omega
    · rw [tb_m, tb_m]
      have ed : (-1 * nI t).toInt = -(t : Int) := by rw [neg1, nn_toInt (by omega)]
      have es : (-1 * nI s0).toInt = -(s0 : Int) := by rw [neg1, nn_toInt (by omega)]
      rw [ed, es]
      repeat' split
      all_goals omega
theorem mn_ti {x y : Int32} : (mn_I x y).toInt = if y.toInt < x.toInt then y.toInt else x.toInt := by
  unfold mn_I
  by_cases c : y < x
  · rw [if_pos c]; rw [ti_lt] at c; rw [if_pos c]
  · rw [if_neg c]; rw [ti_lt] at c; rw [if_neg c]
theorem mx_ti {x y : Int32} : (mx_I x y).toInt = if x.toInt < y.toInt then y.toInt else x.toInt := by
  unfold mx_I
  by_cases c : x < y
  · rw [if_pos c]; rw [ti_lt] at c; rw [if_pos c]
  · rw [if_neg c]; rw [ti_lt] at c; rw [if_neg c]
theorem NP.m {S : Nat → Int32} {d : Int32} {k s0 : Nat} (hd : d = 1 ∨ d = -1) (h0 : S 0 = nI s0) (h4 : 0 ≤ (S 4).toInt ∧ (S 4).toInt ≤ 50) (h9 : S 9 = 0) (h8 : (S 7).toInt - (S 4).toInt ≤ (S 8).toInt ∧ (S 8).toInt ≤ (S 7).toInt) (hC : -1000000000 ≤ (S 7).toInt - (k * s0 : Nat) ∧ (S 7).toInt + (k * s0 : Nat) ≤ 1000000000) (hst : ¬ St S) : NP S (mm_S S d (nI k)) d (k * s0) k := by
  have e0 : d * nI k * S 0 = d * nI (k * s0) := by rw [h0, Int32.mul_assoc, pk_mul]
  unfold mm_S
  rw [if_neg (sl_0 hst)]
  unfold mb_S
  rw [e0]
  generalize k * s0 = t at hC ⊢
  have ed := d_ti (x := nI t) hd (by rw [nI_toInt (by omega)]; omega)
  rw [nI_toInt (by omega)] at ed
  have el : S 9 + d * nI t = d * nI t := by rw [h9, Int32.zero_add]
  rw [el]
  have k7 : (S 7 + d * nI t).toInt = (S 7).toInt + (d * nI t).toInt := ti_add (by omega)
  refine ⟨fun j hj => ?_, rfl, rfl, rfl, rfl, ?_, ?_⟩
  · unfold tm_S
    rw [ud_ne (by omega), ud_ne (by omega), ud_ne (by omega), ud_ne (by omega), ud_ne (by omega), ud_ne (by omega), ud_ne (by omega)]
  · show S 16 + sz_I (d * nI t) = _
    rw [sz_d (by omega) hd]
  · show (mn_I (S 7 + d * nI t) (mx_I (S 8) (S 7 + d * nI t - S 4))).toInt = _
    rw [mn_ti, mx_ti, ti_sub (x := S 7 + d * nI t) (by omega), k7]
    rcases hd with rfl | rfl
    · rw [tb_1]
      have ed : (1 * nI t).toInt = t := by rw [Int32.one_mul, nI_toInt (by omega)]
      rw [ed]
      repeat' split
      all_goals omega
    · rw [tb_m]
      have ed : (-1 * nI t).toInt = -(t : Int) := by rw [neg1, nn_toInt (by omega)]
      rw [ed]
      repeat' split
      all_goals omega
