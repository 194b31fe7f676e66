def BD (S : Nat → Int32) (K c : Int) : Prop := (-c ≤ (S 6).toInt ∧ (S 6).toInt ≤ c) ∧ (-(K - c) ≤ (S 7).toInt ∧ (S 7).toInt ≤ K - c) ∧ 0 ≤ (S 13).toInt ∧ (S 13).toInt ≤ K - c
def FL (S : Nat → Int32) : Prop := (S 18 = 0 ∨ S 18 = 1) ∧ (S 18 = 1 → (-20000 ≤ (S 19).toInt ∧ (S 19).toInt ≤ 20000) ∧ -20000 ≤ (S 20).toInt ∧ (S 20).toInt ≤ 20000)
def IV (S : Nat → Int32) (K : Int) : Prop := ((1 ≤ (S 0).toInt ∧ (S 0).toInt ≤ 16) ∧ (0 ≤ (S 4).toInt ∧ (S 4).toInt ≤ 50) ∧ 0 ≤ (S 5).toInt ∧ (S 5).toInt ≤ 50) ∧ ((-32 ≤ (S 9).toInt ∧ (S 9).toInt ≤ 32) ∧ (S 7).toInt - 50 ≤ (S 8).toInt ∧ (S 8).toInt ≤ (S 7).toInt) ∧ (∃ c : Int, BD S K c) ∧ FL S ∧ VL S 21 0 200 ∧ VL S 42 (-99) 99 ∧ VC S
theorem BD.w {S : Nat → Int32} {K K' c : Int} (h : BD S K c) (hK : K ≤ K') : BD S K' c := by
  obtain ⟨h1, h2, h3, h4⟩ := h
  exact ⟨h1, ⟨by omega, by omega⟩, h3, by omega⟩
theorem IV.w {S : Nat → Int32} {K K' : Int} (h : IV S K) (hK : K ≤ K') : IV S K' := by
  obtain ⟨h1, h2, ⟨c, h3⟩, h4⟩ := h
  exact ⟨h1, h2, ⟨c, h3.w hK⟩, h4⟩
theorem IV.M {S : Nat → Int32} {K c : Int} (h : IV S K) (hb : BD S K c) : MI S (K - c + 32) := by
  obtain ⟨h1, h2, h3, h4, h5, h6⟩ := h
  obtain ⟨b1, b2, b3, b4⟩ := hb
  exact ⟨h1.1, h1.2.1, h2.1, h2.2, ⟨by omega, by omega, by omega, by omega⟩, h5⟩
theorem IV.RI {S : Nat → Int32} {K : Int} (h : IV S K) : RI S := by
  obtain ⟨h1, h2, h3, h4, h5, h6, h7⟩ := h
  exact ⟨h5.1, h6.1, h7.1, h6.nz, fun q => by rw [q, t0] at h1; omega⟩
theorem IV.lk {S : Nat → Int32} {K : Int} (h : IV S K) : LK S 21 10 ∧ LK S 42 10 ∧ LK S 63 8 := ⟨h.RI.1, h.RI.2.1, h.RI.2.2.1⟩
theorem IV.ev {S T : Nat → Int32} {K : Int} (h : IV S K) (e : EV S T) : IV T K := by
  obtain ⟨h1, h2, ⟨c, h3⟩, h4, h5, h6, h7⟩ := h
  obtain ⟨e1, e2, e3, e4⟩ := e
  unfold BD FL at *
  rw [e1 0 (by omega), e1 4 (by omega), e1 5 (by omega)] at h1
  rw [e1 9 (by omega), e1 7 (by omega), e1 8 (by omega)] at h2
  rw [e1 6 (by omega), e1 7 (by omega), e1 13 (by omega)] at h3
  rw [e1 18 (by omega), e1 19 (by omega), e1 20 (by omega)] at h4
  exact ⟨h1, h2, ⟨c, h3⟩, h4, h5.el e2, h6.el e3, h7.el e4⟩
/-- other scalars, the same lists -/
theorem IV.of {S T : Nat → Int32} {K K' : Int} (h : IV S K) (h1 : (1 ≤ (T 0).toInt ∧ (T 0).toInt ≤ 16) ∧ (0 ≤ (T 4).toInt ∧ (T 4).toInt ≤ 50) ∧ 0 ≤ (T 5).toInt ∧ (T 5).toInt ≤ 50) (h2 : (-32 ≤ (T 9).toInt ∧ (T 9).toInt ≤ 32) ∧ (T 7).toInt - 50 ≤ (T 8).toInt ∧ (T 8).toInt ≤ (T 7).toInt) (h3 : ∃ c : Int, BD T K' c) (h4 : FL T) (hl : ∀ j : Nat, 21 ≤ j → T j = S j) : IV T K' := by
  obtain ⟨_, _, _, _, h5, h6, h7⟩ := h
  refine ⟨h1, h2, h3, h4, h5.cg fun j a b => hl j a, h6.cg fun j a b => hl j (by omega), h7.el ?_⟩
  refine EL.of (N := 8) ?_ fun j a b => (hl j (by omega)).symm
  have := h7.1.1
  unfold ls_n at this ⊢
  rw [hl 63 (by omega)]; exact this
theorem nm_0 {x : Int32} (h : ¬ nm_N 0 x = 0) : 1 ≤ x.toInt ∧ x.toInt ≤ 16 := by
  have q : x = 1 ∨ x = 2 ∨ x = 4 ∨ x = 8 ∨ x = 16 := Classical.not_not.mp fun q => h (if_neg q)
  rcases q with rfl | rfl | rfl | rfl | rfl <;> decide
theorem in_rg {x a b : Int32} (h : ¬ in_I x a b = 0) : a.toInt ≤ x.toInt ∧ x.toInt ≤ b.toInt := by
  have q := in_ok h
  rw [ti_lt, ti_lt] at q
  omega
theorem IV.nu {S : Nat → Int32} {K : Int} {k : Nat} {x : Int32} (h : IV S K) (hk : k < 6) (hx : ¬ nm_N k x = 0) : IV (upd S k x) K := by
  have h' := h
  obtain ⟨h1, h2, ⟨c, h3⟩, h4, h5, h6, h7⟩ := h
  have ne : ∀ j : Nat, 6 ≤ j → upd S k x j = S j := fun j hj => ud_ne (by omega)
  refine h'.of ?_ ?_ ⟨c, ?_⟩ ?_ fun j hj => ne j (by omega)
  · match k, hk, hx with
    | 0, _, hx => exact ⟨nm_0 hx, h1.2⟩
    | 1, _, _ => exact h1
    | 2, _, _ => exact h1
    | 3, _, _ => exact h1
    | 4, _, hx => exact ⟨h1.1, in_rg hx, h1.2.2⟩
    | 5, _, hx => exact ⟨h1.1, h1.2.1, in_rg hx⟩
  · rw [ne 9 (by omega), ne 7 (by omega), ne 8 (by omega)]; exact h2
  · unfold BD; rw [ne 6 (by omega), ne 7 (by omega), ne 13 (by omega)]; exact h3
  · unfold FL; rw [ne 18 (by omega), ne 19 (by omega), ne 20 (by omega)]; exact h4
theorem IV.fl {S : Nat → Int32} {K : Int} {f t : Int32} (h : IV S K) (hf : -20000 ≤ f.toInt ∧ f.toInt ≤ 20000) (ht : -20000 ≤ t.toInt ∧ t.toInt ≤ 20000) : IV (upd (upd (upd S 18 1) 19 f) 20 t) K :=
  h.of h.1 h.2.1 h.2.2.1 ⟨Or.inr rfl, fun _ => ⟨hf, ht⟩⟩ fun j hj => by rw [ud_ne (by omega), ud_ne (by omega), ud_ne (by omega)]
theorem IV.mp {S : Nat → Int32} {K : Int} {b : Nat} {x v : Int32} (h : IV S K) (hb : (b = 21 ∧ 0 ≤ v.toInt ∧ v.toInt ≤ 200) ∨ (b = 42 ∧ -99 ≤ v.toInt ∧ v.toInt ≤ 99)) (hx : -20000 ≤ x.toInt ∧ x.toInt ≤ 20000) (hr : ¬ ha_S S b x = 0 ∨ ls_n S b < 10) : IV (mp_S S b x v) K := by
  have h' := h
  obtain ⟨h1, h2, h3, h4, h5, h6, h7⟩ := h
  have hn : ls_n S b ≤ 10 := by
    rcases hb with ⟨rfl, _⟩ | ⟨rfl, _⟩
    · exact h5.1.1
    · exact h6.1.1
  have o : ∀ j : Nat, (j < b ∨ b + 20 < j) → mp_S S b x v j = S j := fun j hj => mp_o hr hn hj
  have o21 : ∀ j : Nat, j < 21 → mp_S S b x v j = S j := fun j hj => o j (by omega)
  have e63 : EL S (mp_S S b x v) 63 := by
    refine EL.of (N := 8) ?_ fun j a c => (o j (by omega)).symm
    unfold ls_n
    rw [o 63 (by omega)]
    exact h7.1.1
  refine ⟨?_, ?_, ?_, ?_, ?_, ?_, h7.el e63⟩
  · rw [o21 0 (by omega), o21 4 (by omega), o21 5 (by omega)]; exact h1
  · rw [o21 9 (by omega), o21 7 (by omega), o21 8 (by omega)]; exact h2
  · unfold BD; rw [o21 6 (by omega), o21 7 (by omega), o21 13 (by omega)]; exact h3
  · unfold FL; rw [o21 18 (by omega), o21 19 (by omega), o21 20 (by omega)]; exact h4
  · rcases hb with ⟨rfl, hv⟩ | ⟨rfl, hv⟩
    · exact mp_VL h5 hx hv hr
    · exact h5.cg fun j a c => o j (by omega)
  · rcases hb with ⟨rfl, hv⟩ | ⟨rfl, hv⟩
    · exact h6.cg fun j a c => o j (by omega)
    · exact mp_VL h6 hx hv hr
theorem IV.mr {S : Nat → Int32} {K : Int} {b : Nat} {x : Int32} (h : IV S K) (hb : b = 21 ∨ b = 42) : IV (mr_S S b x) K := by
  have h' := h
  obtain ⟨h1, h2, h3, h4, h5, h6, h7⟩ := h
  have hn : ls_n S b ≤ 10 := by
    rcases hb with rfl | rfl
    · exact h5.1.1
    · exact h6.1.1
  have o : ∀ j : Nat, (j < b ∨ b + 20 < j) → mr_S S b x j = S j := fun j hj => mr_o hn hj
  have o21 : ∀ j : Nat, j < 21 → mr_S S b x j = S j := fun j hj => o j (by omega)
  have e63 : EL S (mr_S S b x) 63 := by
    refine EL.of (N := 8) ?_ fun j a c => (o j (by omega)).symm
    unfold ls_n
    rw [o 63 (by omega)]
    exact h7.1.1
  refine ⟨?_, ?_, ?_, ?_, ?_, ?_, h7.el e63⟩
  · rw [o21 0 (by omega), o21 4 (by omega), o21 5 (by omega)]; exact h1
  · rw [o21 9 (by omega), o21 7 (by omega), o21 8 (by omega)]; exact h2
  · unfold BD; rw [o21 6 (by omega), o21 7 (by omega), o21 13 (by omega)]; exact h3
  · unfold FL; rw [o21 18 (by omega), o21 19 (by omega), o21 20 (by omega)]; exact h4
  · rcases hb with rfl | rfl
    · exact mr_VL h5
    · exact h5.cg fun j a c => o j (by omega)
  · rcases hb with rfl | rfl
    · exact h6.cg fun j a c => o j (by omega)
    · exact mr_VL h6
theorem IV.c {S T : Nat → Int32} {K : Int} (h : IV S K) (o : ∀ j : Nat, j < 63 → T j = S j) (hC : VC T) : IV T K := by
  obtain ⟨h1, h2, h3, h4, h5, h6, h7⟩ := h
  refine ⟨?_, ?_, ?_, ?_, h5.cg fun j a c => o j (by omega), h6.cg fun j a c => o j (by omega), hC⟩
  · rw [o 0 (by omega), o 4 (by omega), o 5 (by omega)]; exact h1
  · rw [o 9 (by omega), o 7 (by omega), o 8 (by omega)]; exact h2
  · unfold BD; rw [o 6 (by omega), o 7 (by omega), o 13 (by omega)]; exact h3
  · unfold FL; rw [o 18 (by omega), o 19 (by omega), o 20 (by omega)]; exact h4
theorem IV.cd {S : Nat → Int32} {K : Int} (h : IV S K) : IV (cd_S S) K := by
  have k := h.lk
  exact h.c (fun j hj => cd_o hj) ((ct_VC h.2.2.2.2.2.2).el (ct_EV k.1 k.2.1 k.2.2).2.2.2)
theorem IV.ca {S : Nat → Int32} {K : Int} {x y : Int32} (h : IV S K) (hx : -20000 ≤ x.toInt ∧ x.toInt ≤ 20000) (h8 : ls_n S 63 < 8) : IV (ca_S S x y (ls_n S 63) (pq_N (fun k => S (65 + 2 * k)) y (ls_n S 63))) K := by
  have k := h.lk
  exact h.c (fun j hj => ca_o (pq_le _) hj) ((ci_VC h.2.2.2.2.2.2 hx h8).el (ci_EV k.1 k.2.1 h.2.2.2.2.2.2 h8).2.2.2)
/-- some microsteps on -/
theorem IV.fi {S : Nat → Int32} {K K' c c' : Int} {d : Int32} {k s0 : Nat} (h : IV S K) (hb : BD S K c) (hd : d = 1 ∨ d = -1) (h0 : S 0 = nI s0) (h16 : 1 ≤ s0 ∧ s0 ≤ 16) (hT : K - c + 32 + (k * s0 : Nat) ≤ 1000000000) (h6 : -c' ≤ (fi_S d k S 6).toInt ∧ (fi_S d k S 6).toInt ≤ c') (hK : K - c + 32 + (k * s0 : Nat) ≤ K' - c') : IV (fi_S d k S) K' := by
  have hM := MI.fi hd h16.2 k S _ (h.M hb) h0 hT
  have hks : k ≤ k * s0 := Nat.le_mul_of_pos_right k (by omega)
  obtain ⟨b1, b2, b3, b4⟩ := hb
  have h13 := fi_13 (d := d) k S b3 (by omega)
  obtain ⟨m1, m2, m3, m4, m5, m6⟩ := hM
  have o : ∀ j : Nat, (j < 6 ∨ j = 11 ∨ 17 ≤ j) → fi_S d k S j = S j := fun j hj => fi_o hj k S
  refine h.of ⟨m1, m2, by rw [o 5 (by omega)]; exact h.1.2.2⟩ ⟨m3, m4⟩ ⟨c', h6, ⟨by omega, by omega⟩, by omega, by omega⟩ ?_ fun j hj => o j (by omega)
  unfold FL
  rw [o 18 (by omega), o 19 (by omega), o 20 (by omega)]
  exact h.2.2.2.1
theorem am_cg {S T : Nat → Int32} {x : Int32} (h : ∀ j : Nat, 42 ≤ j → T j = S j) : am_S T x = am_S S x := by
  have e1 : ls_P T 42 = ls_P S 42 := funext fun i => h _ (by omega)
  have e2 : ls_V T 42 = ls_V S 42 := funext fun i => h _ (by omega)
  have e3 : ls_n T 42 = ls_n S 42 := by unfold ls_n; rw [h 42 (by omega)]
  unfold am_S em_S
  rw [e1, e2, e3]
theorem IV.ai {S : Nat → Int32} {K : Int} {x : Int32} (h : IV S K) (hx : -20000 ≤ x.toInt ∧ x.toInt ≤ 20000) : ai_S S x = am_S S x := by
  unfold ai_S am_S
  rw [er_em h.2.2.2.2.2.1 hx]
/-- a move: the class' is the reference's, and how far things can come by it -/
theorem IV.mv {S : Nat → Int32} {K : Int} {x : Int32} (h : IV S K) (hK : K ≤ 400000000) (hx : -20000 ≤ x.toInt ∧ x.toInt ≤ 20000) (hp : ¬ in_I (am_S S x) (-20000) 20000 = 0) : IV (mo_S S x) (K + 41000) ∧ (tv_S S x).1 = mo_S S x := by
  obtain ⟨c, hb⟩ := h.2.2.1
  have hE := h.ai hx
  have hc : c ≤ K := by have := hb.2.2; omega
  have hc0 : 0 ≤ c := by have := hb.1; omega
  obtain ⟨d, k, s0, hd, h0, g1, g2, g3, g4⟩ := tv_mo (h.M hb) hE (by rw [hE]; exact hp) hb.1 (by omega)
  have e := g1 S rfl rfl rfl
  refine ⟨?_, by rw [g2, e]⟩
  rw [e]
  have h6 := fi_6 (d := d) k S h0.1
  refine h.fi hb hd h0.1 h0.2 (by omega) (c' := 20016) ?_ (by omega)
  rw [h6, ti_add (by omega)]
  omega
theorem IV.ro {S : Nat → Int32} {K : Int} (h : IV S K) (hK : K ≤ 400000000) (hn : 0 < ls_n S 63) : IV (ro_S S) (K + 41000) ∧ (tv_S (cd_S S) (S 64)).1 = ro_S S := by
  have hx := h.2.2.2.2.2.2.2.2 0 hn
  have hx : -20000 ≤ (S 64).toInt ∧ (S 64).toInt ≤ 20000 := hx
  have hc := h.cd
  unfold ro_S
  by_cases q : in_I (am_S (cd_S S) (S 64)) (-20000) 20000 = 0
  · rw [if_pos q]
    refine ⟨hc.w (by omega), ?_⟩
    unfold tv_S
    rw [hc.ai hx, if_pos (show ip_I (am_S (cd_S S) (S 64)) = 0 from q)]
  · rw [if_neg q]
    exact hc.mv hK hx q
theorem IV.rn : ∀ (c : Nat) (S : Nat → Int32) (K : Int), IV S K → K + 41000 * c ≤ 400000000 → IV (rn_S c S) (K + 41000 * c)
  | 0, S, K, h, _ => by rw [show K + 41000 * ((0 : Nat) : Int) = K by omega]; exact h
  | c + 1, S, K, h, hK => by
    unfold rn_S
    by_cases z : ls_n S 63 = 0
    · rw [if_pos z]; exact h.w (by omega)
    · rw [if_neg z]
      have := IV.rn c (ro_S S) (K + 41000) (h.ro (by omega) (by omega)).1 (by omega)
      rw [show K + 41000 * ((c + 1 : Nat) : Int) = K + 41000 + 41000 * (c : Int) by omega]
      exact this
/-- seeking -/
theorem IV.se {S : Nat → Int32} {K : Int} {w : Int32} (h : IV S K) (hK : K ≤ 360000000) : IV (se_S S w).1 (K + 640100) := by
  obtain ⟨c, hb⟩ := h.2.2.1
  have hc : c ≤ K := by have := hb.2.2; omega
  have hc0 : 0 ≤ c := by have := hb.1; omega
  obtain ⟨s0, h0, h16⟩ := (h.M hb).s0
  have key : ∀ (d d' : Int32) (j i : Nat), (d = 1 ∨ d = -1) → (d' = 1 ∨ d' = -1) → j + i ≤ 20001 → IV (fi_S d' i (fi_S d j S)) (K + 640100) := by
    intro d d' j i hd hd' hji
    have hm : (j + i) * s0 ≤ 20001 * 16 := Nat.mul_le_mul hji h16.2
    rw [Nat.add_mul] at hm
    have e6 := fi_6 (d := d) j S h0
    have ed := d_ti (x := nI (j * s0)) hd (by rw [nI_toInt (by omega)]; omega)
    rw [nI_toInt (by omega)] at ed
    have b1 := hb.1
    have k6 : (fi_S d j S 6).toInt = (S 6).toInt + (d * nI (j * s0)).toInt := by rw [e6, ti_add (by omega)]
    have hI : IV (fi_S d j S) (K + 32 + 2 * (j * s0 : Nat)) := h.fi hb hd h0 h16 (by omega) (c' := c + (j * s0 : Nat)) (by omega) (by omega)
    have h0' : fi_S d j S 0 = nI s0 := by rw [fi_o (by omega)]; exact h0
    have hb' : BD (fi_S d j S) (K + 32 + 2 * (j * s0 : Nat)) (c + (j * s0 : Nat)) := by
      have hM := MI.fi hd h16.2 j S _ (h.M hb) h0 (by omega)
      have hks : j ≤ j * s0 := Nat.le_mul_of_pos_right j (by omega)
      have h13 := fi_13 (d := d) j S hb.2.2.1 (by have := hb.2.2.2; omega)
      have m5 := hM.2.2.2.2.1
      have b4 := hb.2.2
      exact ⟨⟨by omega, by omega⟩, ⟨by omega, by omega⟩, by omega, by omega⟩
    have e62 := fi_6 (d := d') i (fi_S d j S) h0'
    have ed2 := d_ti (x := nI (i * s0)) hd' (by rw [nI_toInt (by omega)]; omega)
    rw [nI_toInt (by omega)] at ed2
    have k62 : (fi_S d' i (fi_S d j S) 6).toInt = (fi_S d j S 6).toInt + (d' * nI (i * s0)).toInt := by rw [e62, ti_add (by omega)]
    exact hI.fi hb' hd' h0' h16 (by omega) (c' := c + (j * s0 : Nat) + (i * s0 : Nat)) (by omega) (by omega)
  unfold se_S
  by_cases hw : w = 0
  · rw [if_pos hw]
    obtain ⟨j, j1, j2⟩ := lp_fi (c := fun T => decide (T 8 < S 19 - 16)) (d := -1) 20001 S
    obtain ⟨i, i1, i2⟩ := lp_fi (c := fun T => decide (S 19 ≤ T 8)) (d := 1) (lp_S (fun T => decide (T 8 < S 19 - 16)) (-1) 20001 S).2 (lp_S (fun T => decide (T 8 < S 19 - 16)) (-1) 20001 S).1
    rw [i1, j1]
    exact key _ _ _ _ (Or.inr rfl) (Or.inl rfl) (by omega)
  · rw [if_neg hw]
    obtain ⟨j, j1, j2⟩ := lp_fi (c := fun T => decide (S 20 + 16 < T 8)) (d := 1) 20001 S
    obtain ⟨i, i1, i2⟩ := lp_fi (c := fun T => decide (T 8 ≤ S 20)) (d := -1) (lp_S (fun T => decide (S 20 + 16 < T 8)) 1 20001 S).2 (lp_S (fun T => decide (S 20 + 16 < T 8)) 1 20001 S).1
    rw [i1, j1]
    exact key _ _ _ _ (Or.inl rfl) (Or.inr rfl) (by omega)
theorem IV.ac {S : Nat → Int32} {K : Int} {v : Int32} (h : IV S K) : IV (upd S 17 v) K := h.of h.1 h.2.1 h.2.2.1 h.2.2.2.1 fun j hj => ud_ne (by omega)
theorem IV.sk {S : Nat → Int32} {K : Int} {w : Int32} (h : IV S K) (hK : K ≤ 360000000) (hw : w = 0 ∨ w = 1) (h18 : ¬ S 18 = 0) : ((se_S S w).2 = 0 ∧ (sk_S S w).2 = 0) ∨ (¬ (se_S S w).2 = 0 ∧ sk_S S w = (upd (se_S S w).1 17 ((se_S S w).1 17 + 1), 1)) := by
  obtain ⟨c, hb⟩ := h.2.2.1
  have hc : c ≤ K := by have := hb.2.2; omega
  have hc0 : 0 ≤ c := by have := hb.1; omega
  have hf := h.2.2.2.1
  exact sk_se hw (h.M hb) (by omega) (hf.2 (hf.1.resolve_left h18))
/-- the counter told otherwise -/
theorem IV.ct {S : Nat → Int32} {K K' c c' : Int} {x y : Int32} (h : IV S K) (hb : BD S K c) (hx : -c' ≤ x.toInt ∧ x.toInt ≤ c') (hK : K - c ≤ K' - c') : IV (upd (upd S 6 x) 11 y) K' := by
  obtain ⟨b1, b2, b3, b4⟩ := hb
  refine h.of h.1 h.2.1 ⟨c', hx, ?_, ?_⟩ h.2.2.2.1 fun j hj => by rw [ud_ne (by omega), ud_ne (by omega)]
  · show -(K' - c') ≤ (S 7).toInt ∧ (S 7).toInt ≤ K' - c'
    omega
  · show 0 ≤ (S 13).toInt ∧ (S 13).toInt ≤ K' - c'
    omega
/-- the greatest speed that does not stall: the class' way -/
def cf_N (S : Nat → Int32) (H : Int32) : Nat → Nat
  | 0 => 0
  | k + 1 => if to_S S (nI (50 * (k + 1))) < H then cf_N S H k else k + 1
theorem cf_le {S : Nat → Int32} {H : Int32} : ∀ k : Nat, cf_N S H k ≤ k
  | 0 => Nat.le_refl _
  | k + 1 => by
    unfold cf_N
    split
    · exact Nat.le_succ_of_le (cf_le k)
    · exact Nat.le_refl _
theorem IV.fs {S : Nat → Int32} {K : Int} {x : Int32} (h : IV S K) (hK : K ≤ 400000000) (hx : -20000 ≤ x.toInt ∧ x.toInt ≤ 20000) (hp : ¬ in_I (am_S S x) (-20000) 20000 = 0) : ∀ k : Nat, fs_N S x k = cf_N S (tv_S (upd (upd S 1 200) 3 0) x).2 k := by
  obtain ⟨c, hb⟩ := h.2.2.1
  have hc : c ≤ K := by have := hb.2.2; omega
  have hc0 : 0 ≤ c := by have := hb.1; omega
  have hB : IV (upd (upd S 1 200) 3 0) K := h.of h.1 h.2.1 h.2.2.1 h.2.2.2.1 fun j hj => by rw [ud_ne (by omega), ud_ne (by omega)]
  have hbB : BD (upd (upd S 1 200) 3 0) K c := hb
  have eam : am_S (upd (upd S 1 200) 3 0) x = am_S S x := am_cg fun j hj => by rw [ud_ne (by omega), ud_ne (by omega)]
  have hE := hB.ai hx
  obtain ⟨d, k0, s0, hd, h0, g1, g2, g3, g4⟩ := tv_mo (hB.M hbB) hE (by rw [hE, eam]; exact hp) hbB.1 (by omega)
  have hks : k0 ≤ k0 * s0 := Nat.le_mul_of_pos_right k0 (by omega)
  have hst : ∀ v : Int32, sa_I S x v = 0 ↔ ¬ to_S S v < (tv_S (upd (upd S 1 200) 3 0) x).2 := by
    intro v
    have em : mo_S (upd S 2 v) x = fi_S d k0 (upd S 2 v) := g1 _ (by rw [eam]; exact am_cg fun j hj => ud_ne (by omega)) rfl rfl
    have et : to_M (upd S 2 v) = to_S S v := by rw [← to_to]; rfl
    have e2 : to_M (upd (upd S 1 200) 3 0) = 200 := by
      show (if 0 ≤ 200 - S 2 * 0 / 100 then 200 - S 2 * 0 / 100 else (0 : Int32)) = 200
      rw [Int32.mul_zero]; decide
    have hs : SB (upd S 2 v) (upd (upd S 1 200) 3 0) := fun j a b e => by rw [ud_ne b, ud_ne e, ud_ne a]
    have := he_st (d := d) k0 (upd S 2 v) (upd (upd S 1 200) 3 0) 0 hs et e2 hB.2.2.2.2.1 hb.2.2.1 (by have := hb.2.2.2; show (S 13).toInt + _ ≤ _; omega)
    rw [g2]
    show _ ↔ ¬ to_S S v < he_I d k0 (upd (upd S 1 200) 3 0) 0
    rw [← this]
    have hn : ¬ to_S S v < 0 := by
      unfold to_S
      rw [ti_lt, mx_ti, t0]
      split <;> omega
    unfold sa_I
    rw [em]
    show (if S 13 < fi_S d k0 (upd S 2 v) 13 then (1 : Int32) else 0) = 0 ↔ ¬ (S 13 < _ ∨ _)
    by_cases q : S 13 < fi_S d k0 (upd S 2 v) 13
    · rw [if_pos q]
      exact ⟨fun e => absurd e (by decide), fun e => absurd (Or.inl q) e⟩
    · rw [if_neg q]
      exact ⟨fun _ e => e.elim q hn, fun _ => rfl⟩
  intro k
  induction k with
  | zero => rfl
  | succ k ih =>
    unfold fs_N cf_N
    by_cases q : sa_I S x (nI (50 * (k + 1))) = 0
    · rw [if_pos q, if_neg ((hst _).mp q)]
    · rw [if_neg q, if_pos (Classical.not_not.mp fun e => q ((hst _).mpr e))]
      exact ih
