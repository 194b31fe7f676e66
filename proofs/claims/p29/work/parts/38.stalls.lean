theorem row_eq {T U : Nat → Int32} (ho : ∀ j : Nat, (j < 6 ∨ j = 11 ∨ 17 ≤ j) → T j = U j) (h6 : T 6 = U 6) (h7 : T 7 = U 7) (h8 : T 8 = U 8) (h9 : T 9 = U 9) (h10 : T 10 = U 10) (h12 : T 12 = U 12) (h13 : T 13 = U 13) (h14 : T 14 = U 14) (h15 : T 15 = U 15) (h16 : T 16 = U 16) : T = U := by
  funext j
  by_cases c : j < 6 ∨ j = 11 ∨ 17 ≤ j
  · exact ho j c
  · have h : j = 6 ∨ j = 7 ∨ j = 8 ∨ j = 9 ∨ j = 10 ∨ j = 12 ∨ j = 13 ∨ j = 14 ∨ j = 15 ∨ j = 16 := by omega
    rcases h with rfl | rfl | rfl | rfl | rfl | rfl | rfl | rfl | rfl | rfl <;> assumption
theorem fi_a {d : Int32} (b : Nat) : ∀ (k : Nat) (S : Nat → Int32), fi_S d (k + b) S = fi_S d b (fi_S d k S)
  | 0, S => by rw [Nat.zero_add]; rfl
  | k + 1, S => by
    rw [show k + 1 + b = (k + b) + 1 by omega, fi_s, fi_s]
    exact fi_a b k _
theorem fi_sn {d : Int32} {k : Nat} {S : Nat → Int32} : fi_S d (k + 1) S = ms_S (fi_S d k S) d := fi_a 1 k S
theorem neg1 {x : Int32} : -1 * x = -x := by rw [Int32.neg_mul, Int32.one_mul]
theorem sb_sb {a x y : Int32} : a - x + -y = a - (x + y) := by rw [Int32.sub_eq_add_neg, Int32.sub_eq_add_neg, Int32.neg_add, Int32.add_assoc, Int32.sub_eq_add_neg]
theorem lo_cg {S T : Nat → Int32} {x : Int32} (h : ∀ j : Nat, 17 ≤ j → T j = S j) : lo_S T x = lo_S S x := by
  have e1 : ls_P T 21 = ls_P S 21 := funext fun i => h _ (by omega)
  have e2 : ls_V T 21 = ls_V S 21 := funext fun i => h _ (by omega)
  have e3 : ls_n T 21 = ls_n S 21 := by unfold ls_n; rw [h 21 (by omega)]
  unfold lo_S
  rw [e1, e2, e3]
/-- the next microstep stalls -/
def St (S : Nat → Int32) : Prop := to_M S < lo_S S (S 8)
theorem St.cg {S T : Nat → Int32} (h : ∀ j : Nat, (j = 1 ∨ j = 2 ∨ j = 3 ∨ j = 8 ∨ 17 ≤ j) → T j = S j) : St T ↔ St S := by
  unfold St to_M
  rw [h 1 (by omega), h 2 (by omega), h 3 (by omega), h 8 (by omega), lo_cg fun j hj => h j (by omega)]
theorem m3_o {S : Nat → Int32} {d : Int32} {j : Nat} (h : j ≠ 6 ∧ j ≠ 9 ∧ j ≠ 12) : m3_S S d j = S j := by
  unfold m3_S
  rw [ud_ne h.2.1, ud_ne h.1, ud_ne h.2.2]
theorem ms_n {S : Nat → Int32} {d : Int32} (h : ¬ St S) : ms_S S d = mt_S (m3_S S d) := by
  unfold ms_S mq_S
  exact if_neg (fun q => h ((St.cg (T := m3_S S d) fun j hj => m3_o (by omega)).mp q))
theorem ms_y {S : Nat → Int32} {d : Int32} (h : St S) : ms_S S d = mw_S (upd (m3_S S d) 13 (S 13 + 1)) := by
  unfold ms_S mq_S
  exact if_pos ((St.cg (T := m3_S S d) fun j hj => m3_o (by omega)).mpr h)
theorem sl_1 {S : Nat → Int32} (h : St S) : sl_S S = 1 := by
  unfold sl_S
  rw [to_to]; exact if_pos h
theorem sl_0 {S : Nat → Int32} (h : ¬ St S) : ¬ sl_S S = 1 := by
  unfold sl_S
  rw [to_to]
  show ¬ (if to_M S < lo_S S (S 8) then (1 : Int32) else 0) = 1
  rw [if_neg (show ¬ to_M S < lo_S S (S 8) from h)]; decide
def UP (S V : Nat → Int32) (t k : Nat) : Prop := (∀ j : Nat, (j ≤ 5 ∨ j = 7 ∨ j = 8 ∨ j = 11 ∨ j = 15 ∨ 16 ≤ j) → V j = S j) ∧ V 6 = S 6 + nI t ∧ V 12 = S 12 + nI k ∧ V 13 = S 13 + nI k ∧ ∃ q : Nat, (64 * (q : Int) ≤ (S 9).toInt + (t : Int) + 32 ∧ (S 9).toInt + (t : Int) + 32 < 64 * q + 64) ∧ V 9 = S 9 + nI t - nI (q * 64) ∧ V 10 = S 10 + nI (q * 64) ∧ V 14 = S 14 + nI q
def UPW (S V : Nat → Int32) (t k : Nat) : Prop := (∀ j : Nat, (j ≤ 5 ∨ j = 7 ∨ j = 8 ∨ j = 11 ∨ j = 15 ∨ 16 ≤ j) → V j = S j) ∧ V 6 = S 6 + nI t ∧ V 12 = S 12 + nI k ∧ V 13 = S 13 + nI k ∧ ∃ q : Nat, (64 * (q : Int) ≤ (S 9).toInt + (t : Int) + 32 ∧ (S 9).toInt + (t : Int) + 32 ≤ 64 * q + 64) ∧ V 9 = S 9 + nI t - nI (q * 64) ∧ V 10 = S 10 + nI (q * 64) ∧ V 14 = S 14 + nI q
theorem UP.w {S V : Nat → Int32} {t k : Nat} (h : UP S V t k) : UPW S V t k := by
  obtain ⟨h1, h2, h3, h4, q, h5, h6⟩ := h
  exact ⟨h1, h2, h3, h4, q, ⟨h5.1, by omega⟩, h6⟩
theorem UP.u {S V W : Nat → Int32} {t k : Nat} (h : UP S V t k) (h' : UP S W t k) : V = W := by
  obtain ⟨h1, h2, h3, h4, q, h5, h6, h7, h8⟩ := h
  obtain ⟨g1, g2, g3, g4, r, g5, g6, g7, g8⟩ := h'
  have e : q = r := by omega
  subst e
  exact row_eq (fun j hj => (h1 j (by omega)).trans (g1 j (by omega)).symm) (h2.trans g2.symm) ((h1 7 (by omega)).trans (g1 7 (by omega)).symm) ((h1 8 (by omega)).trans (g1 8 (by omega)).symm) (h6.trans g6.symm) (h7.trans g7.symm) (h3.trans g3.symm) (h4.trans g4.symm) (h8.trans g8.symm) ((h1 15 (by omega)).trans (g1 15 (by omega)).symm) ((h1 16 (by omega)).trans (g1 16 (by omega)).symm)
theorem UP.s {S V : Nat → Int32} {t k s0 : Nat} (hs : S 0 = nI s0) (h16 : 1 ≤ s0 ∧ s0 ≤ 16) (hl : -32 ≤ (S 9).toInt ∧ (S 9).toInt ≤ 32) (ht : t ≤ 1073741824) (hst : St S) (h : UPW S V t k) : UP S (ms_S V 1) (t + s0) (k + 1) := by
  obtain ⟨h1, h2, h3, h4, q, h5, h6, h7, h8⟩ := h
  have e0 : V 0 = nI s0 := (h1 0 (by omega)).trans hs
  have e1 : (S 9 + nI t).toInt = (S 9).toInt + t := by rw [ti_add (by rw [nI_toInt (by omega)]; omega), nI_toInt (by omega)]
  have e9 : (V 9).toInt = (S 9).toInt + t - 64 * q := by rw [h6, ti_sub (by rw [e1, nI_toInt (by omega)]; omega), e1, nI_toInt (by omega)]; omega
  have el : (V 9 + 1 * V 0).toInt = (S 9).toInt + t + s0 - 64 * q := by rw [e0, Int32.one_mul, ti_add (by rw [nI_toInt (show s0 < 2 ^ 31 by omega)]; omega), nI_toInt (show s0 < 2 ^ 31 by omega), e9]; omega
  have e2 : (S 9 + nI (t + s0)).toInt = (S 9).toInt + t + s0 := by rw [ti_add (by rw [nI_toInt (by omega)]; omega), nI_toInt (by omega)]; omega
  have hw : St V := (St.cg fun j hj => h1 j (by omega)).mpr hst
  have g6 : V 6 + 1 * V 0 = S 6 + nI (t + s0) := by rw [e0, Int32.one_mul, h2, Int32.add_assoc, nI_add]
  rw [ms_y hw]
  unfold mw_S
  show UP S (if V 9 + 1 * V 0 < 32 then _ else _) (t + s0) (k + 1)
  have ho : ∀ j : Nat, (j ≤ 5 ∨ j = 7 ∨ j = 8 ∨ j = 11 ∨ j = 15 ∨ 16 ≤ j) → upd (m3_S V 1) 13 (V 13 + 1) j = S j := fun j hj => by rw [ud_ne (by omega), m3_o (by omega)]; exact h1 j hj
  have g12 : V 12 + 1 = S 12 + nI (k + 1) := by rw [h3, Int32.add_assoc, nI_1]
  have g13 : V 13 + 1 = S 13 + nI (k + 1) := by rw [h4, Int32.add_assoc, nI_1]
  by_cases c : V 9 + 1 * V 0 < 32
  · rw [if_pos c]
    show UP S (if -32 < V 9 + 1 * V 0 then _ else _) (t + s0) (k + 1)
    rw [ti_lt, el] at c
    have c : _ < (32 : Int) := c
    rw [if_pos (by rw [ti_lt, el]; show (-32 : Int) < _; omega)]
    refine ⟨ho, g6, g12, g13, q, ⟨by omega, by omega⟩, ?_, h7, h8⟩
    show V 9 + 1 * V 0 = _
    rw [ti_eq, el, ti_sub (by rw [e2, nI_toInt (by omega)]; omega), e2, nI_toInt (by omega)]
    omega
  · rw [if_neg c]
    rw [ti_lt, el] at c
    have c : ¬ _ < (32 : Int) := c
    refine ⟨fun j hj => by rw [ud_ne (by omega), ud_ne (by omega), ud_ne (by omega)]; exact ho j hj, g6, g12, g13, q + 1, ⟨by omega, by omega⟩, ?_, ?_, ?_⟩
    · show V 9 + 1 * V 0 - 64 = _
      rw [ti_eq, ti_sub (by rw [el]; show _ ≤ _ - (64 : Int) ∧ _ - (64 : Int) ≤ _; omega), el, ti_sub (by rw [e2, nI_toInt (by omega)]; omega), e2, nI_toInt (by omega)]
      show _ - (64 : Int) = _
      omega
    · show V 10 + 64 = _
      rw [h7, show (64 : Int32) = nI 64 from rfl, Int32.add_assoc, nI_add, show q * 64 + 64 = (q + 1) * 64 by omega]
    · show V 14 + 1 = _
      rw [h8, Int32.add_assoc, nI_1]
theorem UP.f {S : Nat → Int32} {s0 : Nat} (hs : S 0 = nI s0) (h16 : 1 ≤ s0 ∧ s0 ≤ 16) (hl : -32 ≤ (S 9).toInt ∧ (S 9).toInt ≤ 32) (hst : St S) : ∀ k : Nat, k * s0 ≤ 1073741824 → UP S (fi_S 1 (k + 1) S) ((k + 1) * s0) (k + 1)
  | 0, _ => by
    rw [show (0 + 1) * s0 = 0 + s0 by omega]
    refine UP.s hs h16 hl (by omega) hst ⟨fun _ _ => rfl, ?_, ?_, ?_, 0, ⟨by omega, by omega⟩, ?_, ?_, ?_⟩ <;> simp [nI_0]
  | k + 1, hk => by
    have e : (k + 1) * s0 = k * s0 + s0 := Nat.succ_mul k s0
    rw [fi_sn, show (k + 1 + 1) * s0 = (k + 1) * s0 + s0 from Nat.succ_mul (k + 1) s0]
    exact UP.s hs h16 hl (by omega) hst (UP.f hs h16 hl hst k (by omega)).w
theorem UP.m {S : Nat → Int32} {s0 k : Nat} (hs : S 0 = nI s0) (h16 : 1 ≤ s0 ∧ s0 ≤ 16) (hl : -32 ≤ (S 9).toInt ∧ (S 9).toInt ≤ 32) (hst : St S) (hk : 1 ≤ k) (hk2 : k * s0 ≤ 1073741824) : UP S (mm_S S 1 (nI k)) (k * s0) k := by
  have ht : k ≤ k * s0 := Nat.le_mul_of_pos_right k (by omega)
  have e0 : 1 * nI k * S 0 = nI (k * s0) := by rw [hs, Int32.one_mul, pk_mul]
  unfold mm_S
  rw [if_pos (sl_1 hst)]
  unfold mb_S
  rw [e0]
  generalize k * s0 = t at ht hk2 ⊢
  have e1 : (S 9 + nI t).toInt = (S 9).toInt + t := by rw [ti_add (by rw [nI_toInt (by omega)]; omega), nI_toInt (by omega)] <;> omega
  have e2 : S 9 + nI t = S 9 + nI t := rfl
  have e3 : S 6 + nI t = S 6 + nI t := rfl
  have ho : ∀ j : Nat, (j ≤ 5 ∨ j = 7 ∨ j = 8 ∨ j = 11 ∨ j = 15 ∨ 16 ≤ j) → upd (upd (upd (upd S 6 (S 6 + nI t)) 9 (S 9 + nI t)) 12 (S 12 + nI k)) 13 (S 13 + nI k) j = S j := fun j hj => by rw [ud_ne (by omega), ud_ne (by omega), ud_ne (by omega), ud_ne (by omega)]
  unfold sp_S
  show UP S (if S 9 + nI t < 32 then (if -32 < S 9 + nI t then _ else _) else _) t k
  by_cases c : S 9 + nI t < 32
  · rw [if_pos c]
    rw [ti_lt, e1] at c
    have c : _ < (32 : Int) := c
    rw [if_pos (by rw [ti_lt, e1]; show (-32 : Int) < _; omega)]
    refine ⟨ho, e3, rfl, rfl, 0, ⟨by omega, by omega⟩, ?_, ?_, ?_⟩
    · show S 9 + nI t = _
      rw [e2]; simp [nI_0]
    · show S 10 = _
      simp [nI_0]
    · show S 14 = _
      simp [nI_0]
  · rw [if_neg c]
    rw [ti_lt, e1] at c
    have c : ¬ _ < (32 : Int) := c
    obtain ⟨z, hz⟩ : ∃ z : Nat, (z : Int) = (S 9).toInt + t + 32 := ⟨((S 9).toInt + t + 32).toNat, by omega⟩
    have ez : S 9 + nI t + 32 = nI z := by
      rw [ti_eq, ti_add (by rw [e1]; show _ ≤ _ + (32 : Int) ∧ _ + (32 : Int) ≤ _; omega), e1, nI_toInt (by omega)]
      show _ + (32 : Int) = _
      omega
    have eq : (S 9 + nI t + 32) / 64 = nI (z / 64) := by rw [ez]; exact pk_div (d := 64) (by omega) (by omega) (by omega)
    refine ⟨fun j hj => by unfold su_S; rw [ud_ne (by omega), ud_ne (by omega), ud_ne (by omega)]; exact ho j hj, rfl, rfl, rfl, z / 64, ⟨by omega, by omega⟩, ?_, ?_, ?_⟩
    · show S 9 + nI t - (S 9 + nI t + 32) / 64 * 64 = _
      rw [eq, show (64 : Int32) = nI 64 from rfl, pk_mul]
    · show S 10 + (S 9 + nI t + 32) / 64 * 64 = _
      rw [eq, show (64 : Int32) = nI 64 from rfl, pk_mul]
    · show S 14 + (S 9 + nI t + 32) / 64 = _
      rw [eq]
def DN (S V : Nat → Int32) (t k : Nat) : Prop := (∀ j : Nat, (j ≤ 5 ∨ j = 7 ∨ j = 8 ∨ j = 11 ∨ j = 14 ∨ 16 ≤ j) → V j = S j) ∧ V 6 = S 6 - nI t ∧ V 12 = S 12 + nI k ∧ V 13 = S 13 + nI k ∧ ∃ q : Nat, (64 * (q : Int) ≤ 32 - (S 9).toInt + (t : Int) ∧ 32 - (S 9).toInt + (t : Int) < 64 * q + 64) ∧ V 9 = S 9 - nI t + nI (q * 64) ∧ V 10 = S 10 - nI (q * 64) ∧ V 15 = S 15 + nI q
def DNW (S V : Nat → Int32) (t k : Nat) : Prop := (∀ j : Nat, (j ≤ 5 ∨ j = 7 ∨ j = 8 ∨ j = 11 ∨ j = 14 ∨ 16 ≤ j) → V j = S j) ∧ V 6 = S 6 - nI t ∧ V 12 = S 12 + nI k ∧ V 13 = S 13 + nI k ∧ ∃ q : Nat, (64 * (q : Int) ≤ 32 - (S 9).toInt + (t : Int) ∧ 32 - (S 9).toInt + (t : Int) ≤ 64 * q + 64) ∧ V 9 = S 9 - nI t + nI (q * 64) ∧ V 10 = S 10 - nI (q * 64) ∧ V 15 = S 15 + nI q
theorem DN.w {S V : Nat → Int32} {t k : Nat} (h : DN S V t k) : DNW S V t k := by
  obtain ⟨h1, h2, h3, h4, q, h5, h6⟩ := h
  exact ⟨h1, h2, h3, h4, q, ⟨h5.1, by omega⟩, h6⟩
theorem DN.u {S V W : Nat → Int32} {t k : Nat} (h : DN S V t k) (h' : DN S W t k) : V = W := by
  obtain ⟨h1, h2, h3, h4, q, h5, h6, h7, h8⟩ := h
  obtain ⟨g1, g2, g3, g4, r, g5, g6, g7, g8⟩ := h'
  have e : q = r := by omega
  subst e
  exact row_eq (fun j hj => (h1 j (by omega)).trans (g1 j (by omega)).symm) (h2.trans g2.symm) ((h1 7 (by omega)).trans (g1 7 (by omega)).symm) ((h1 8 (by omega)).trans (g1 8 (by omega)).symm) (h6.trans g6.symm) (h7.trans g7.symm) (h3.trans g3.symm) (h4.trans g4.symm) ((h1 14 (by omega)).trans (g1 14 (by omega)).symm) (h8.trans g8.symm) ((h1 16 (by omega)).trans (g1 16 (by omega)).symm)
theorem DN.s {S V : Nat → Int32} {t k s0 : Nat} (hs : S 0 = nI s0) (h16 : 1 ≤ s0 ∧ s0 ≤ 16) (hl : -32 ≤ (S 9).toInt ∧ (S 9).toInt ≤ 32) (ht : t ≤ 1073741824) (hst : St S) (h : DNW S V t k) : DN S (ms_S V (-1)) (t + s0) (k + 1) := by
  obtain ⟨h1, h2, h3, h4, q, h5, h6, h7, h8⟩ := h
  have e0 : V 0 = nI s0 := (h1 0 (by omega)).trans hs
  have e1 : (S 9 - nI t).toInt = (S 9).toInt - t := by rw [ti_sub (by rw [nI_toInt (by omega)]; omega), nI_toInt (by omega)]
  have e9 : (V 9).toInt = (S 9).toInt - t + 64 * q := by rw [h6, ti_add (by rw [e1, nI_toInt (by omega)]; omega), e1, nI_toInt (by omega)]; omega
  have el : (V 9 + -1 * V 0).toInt = (S 9).toInt - t - s0 + 64 * q := by rw [e0, neg1, ti_add (by rw [nn_toInt (show s0 < 2 ^ 31 by omega)]; omega), nn_toInt (show s0 < 2 ^ 31 by omega), e9]; omega
  have e2 : (S 9 - nI (t + s0)).toInt = (S 9).toInt - t - s0 := by rw [ti_sub (by rw [nI_toInt (by omega)]; omega), nI_toInt (by omega)]; omega
  have hw : St V := (St.cg fun j hj => h1 j (by omega)).mpr hst
  have g6 : V 6 + -1 * V 0 = S 6 - nI (t + s0) := by rw [e0, neg1, h2, sb_sb, nI_add]
  rw [ms_y hw]
  unfold mw_S
  show DN S (if V 9 + -1 * V 0 < 32 then _ else _) (t + s0) (k + 1)
  have ho : ∀ j : Nat, (j ≤ 5 ∨ j = 7 ∨ j = 8 ∨ j = 11 ∨ j = 14 ∨ 16 ≤ j) → upd (m3_S V (-1)) 13 (V 13 + 1) j = S j := fun j hj => by rw [ud_ne (by omega), m3_o (by omega)]; exact h1 j hj
  have g12 : V 12 + 1 = S 12 + nI (k + 1) := by rw [h3, Int32.add_assoc, nI_1]
  have g13 : V 13 + 1 = S 13 + nI (k + 1) := by rw [h4, Int32.add_assoc, nI_1]
  rw [if_pos (by rw [ti_lt, el]; show _ < (32 : Int); omega)]
  show DN S (if -32 < V 9 + -1 * V 0 then _ else _) (t + s0) (k + 1)
  by_cases c : -32 < V 9 + -1 * V 0
  · rw [if_pos c]
    rw [ti_lt, el] at c
    have c : (-32 : Int) < _ := c
    refine ⟨ho, g6, g12, g13, q, ⟨by omega, by omega⟩, ?_, h7, h8⟩
    show V 9 + -1 * V 0 = _
    rw [ti_eq, el, ti_add (by rw [e2, nI_toInt (by omega)]; omega), e2, nI_toInt (by omega)]
    omega
  · rw [if_neg c]
    rw [ti_lt, el] at c
    have c : ¬ (-32 : Int) < _ := c
    refine ⟨fun j hj => by rw [ud_ne (by omega), ud_ne (by omega), ud_ne (by omega)]; exact ho j hj, g6, g12, g13, q + 1, ⟨by omega, by omega⟩, ?_, ?_, ?_⟩
    · show V 9 + -1 * V 0 + 64 = _
      rw [ti_eq, ti_add (by rw [el]; show _ ≤ _ + (64 : Int) ∧ _ + (64 : Int) ≤ _; omega), el, ti_add (by rw [e2, nI_toInt (by omega)]; omega), e2, nI_toInt (by omega)]
      show _ + (64 : Int) = _
      omega
    · show V 10 - 64 = _
      rw [h7, show (64 : Int32) = nI 64 from rfl, Int32.sub_sub, nI_add, show q * 64 + 64 = (q + 1) * 64 by omega]
    · show V 15 + 1 = _
      rw [h8, Int32.add_assoc, nI_1]
theorem DN.f {S : Nat → Int32} {s0 : Nat} (hs : S 0 = nI s0) (h16 : 1 ≤ s0 ∧ s0 ≤ 16) (hl : -32 ≤ (S 9).toInt ∧ (S 9).toInt ≤ 32) (hst : St S) : ∀ k : Nat, k * s0 ≤ 1073741824 → DN S (fi_S (-1) (k + 1) S) ((k + 1) * s0) (k + 1)
  | 0, _ => by
    rw [show (0 + 1) * s0 = 0 + s0 by omega]
    refine DN.s hs h16 hl (by omega) hst ⟨fun _ _ => rfl, ?_, ?_, ?_, 0, ⟨by omega, by omega⟩, ?_, ?_, ?_⟩ <;> simp [nI_0]
  | k + 1, hk => by
    have e : (k + 1) * s0 = k * s0 + s0 := Nat.succ_mul k s0
    rw [fi_sn, show (k + 1 + 1) * s0 = (k + 1) * s0 + s0 from Nat.succ_mul (k + 1) s0]
    exact DN.s hs h16 hl (by omega) hst (DN.f hs h16 hl hst k (by omega)).w
theorem DN.m {S : Nat → Int32} {s0 k : Nat} (hs : S 0 = nI s0) (h16 : 1 ≤ s0 ∧ s0 ≤ 16) (hl : -32 ≤ (S 9).toInt ∧ (S 9).toInt ≤ 32) (hst : St S) (hk : 1 ≤ k) (hk2 : k * s0 ≤ 1073741824) : DN S (mm_S S (-1) (nI k)) (k * s0) k := by
  have ht : k ≤ k * s0 := Nat.le_mul_of_pos_right k (by omega)
  have e0 : -1 * nI k * S 0 = -(nI (k * s0)) := by rw [hs, neg1, Int32.neg_mul, pk_mul]
  unfold mm_S
  rw [if_pos (sl_1 hst)]
  unfold mb_S
  rw [e0]
  generalize k * s0 = t at ht hk2 ⊢
  have e1 : (S 9 + -(nI t)).toInt = (S 9).toInt - t := by rw [ti_add (by rw [nn_toInt (by omega)]; omega), nn_toInt (by omega)] <;> omega
  have e2 : S 9 + -(nI t) = S 9 - nI t := (Int32.sub_eq_add_neg _ _).symm
  have e3 : S 6 + -(nI t) = S 6 - nI t := (Int32.sub_eq_add_neg _ _).symm
  have ho : ∀ j : Nat, (j ≤ 5 ∨ j = 7 ∨ j = 8 ∨ j = 11 ∨ j = 14 ∨ 16 ≤ j) → upd (upd (upd (upd S 6 (S 6 + -(nI t))) 9 (S 9 + -(nI t))) 12 (S 12 + nI k)) 13 (S 13 + nI k) j = S j := fun j hj => by rw [ud_ne (by omega), ud_ne (by omega), ud_ne (by omega), ud_ne (by omega)]
  unfold sp_S
  show DN S (if S 9 + -(nI t) < 32 then (if -32 < S 9 + -(nI t) then _ else _) else _) t k
  rw [if_pos (by rw [ti_lt, e1]; show _ < (32 : Int); omega)]
  by_cases c : -32 < S 9 + -(nI t)
  · rw [if_pos c]
    rw [ti_lt, e1] at c
    have c : (-32 : Int) < _ := c
    refine ⟨ho, e3, rfl, rfl, 0, ⟨by omega, by omega⟩, ?_, ?_, ?_⟩
    · show S 9 + -(nI t) = _
      rw [e2]; simp [nI_0]
    · show S 10 = _
      simp [nI_0]
    · show S 15 = _
      simp [nI_0]
  · rw [if_neg c]
    rw [ti_lt, e1] at c
    have c : ¬ (-32 : Int) < _ := c
    obtain ⟨z, hz⟩ : ∃ z : Nat, (z : Int) = 32 - ((S 9).toInt - t) := ⟨(32 - ((S 9).toInt - t)).toNat, by omega⟩
    have ez : 32 - (S 9 + -(nI t)) = nI z := by
      rw [ti_eq, ti_sub (by rw [e1]; show _ ≤ (32 : Int) - _ ∧ (32 : Int) - _ ≤ _; omega), e1, nI_toInt (by omega)]
      show (32 : Int) - _ = _
      omega
    have eq : (32 - (S 9 + -(nI t))) / 64 = nI (z / 64) := by rw [ez]; exact pk_div (d := 64) (by omega) (by omega) (by omega)
    refine ⟨fun j hj => by unfold sd_S; rw [ud_ne (by omega), ud_ne (by omega), ud_ne (by omega)]; exact ho j hj, e3, rfl, rfl, z / 64, ⟨by omega, by omega⟩, ?_, ?_, ?_⟩
    · show S 9 + -(nI t) + (32 - (S 9 + -(nI t))) / 64 * 64 = _
      rw [eq, show (64 : Int32) = nI 64 from rfl, pk_mul, e2]
    · show S 10 - (32 - (S 9 + -(nI t))) / 64 * 64 = _
      rw [eq, show (64 : Int32) = nI 64 from rfl, pk_mul]
    · show S 15 + (32 - (S 9 + -(nI t))) / 64 = _
      rw [eq]
