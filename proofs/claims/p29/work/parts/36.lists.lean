theorem ti_bm {z : Int} (h : -2147483648 ≤ z ∧ z ≤ 2147483647) : z.bmod (2 ^ 32) = z := Int.bmod_eq_of_le (by omega) (by omega)
theorem ti_add {x y : Int32} (h : -2147483648 ≤ x.toInt + y.toInt ∧ x.toInt + y.toInt ≤ 2147483647) : (x + y).toInt = x.toInt + y.toInt := by rw [Int32.toInt_add, ti_bm h]
theorem ti_sub {x y : Int32} (h : -2147483648 ≤ x.toInt - y.toInt ∧ x.toInt - y.toInt ≤ 2147483647) : (x - y).toInt = x.toInt - y.toInt := by rw [Int32.toInt_sub, ti_bm h]
theorem ti_mul {x y : Int32} (h : -2147483648 ≤ x.toInt * y.toInt ∧ x.toInt * y.toInt ≤ 2147483647) : (x * y).toInt = x.toInt * y.toInt := by rw [Int32.toInt_mul, ti_bm h]
theorem ti_neg {x : Int32} (h : -2147483647 ≤ x.toInt) : (-x).toInt = -x.toInt := by
  have := x.toInt_lt
  rw [Int32.toInt_neg, ti_bm (by omega)]
theorem ti_rg (x : Int32) : -2147483648 ≤ x.toInt ∧ x.toInt ≤ 2147483647 := by
  have h1 := x.toInt_lt
  have h2 := x.le_toInt
  omega
theorem ti_le {x y : Int32} : x ≤ y ↔ x.toInt ≤ y.toInt := Int32.le_iff_toInt_le
theorem ti_lt {x y : Int32} : x < y ↔ x.toInt < y.toInt := Int32.lt_iff_toInt_lt
theorem ti_eq {x y : Int32} : x = y ↔ x.toInt = y.toInt := Int32.toInt_inj.symm
theorem ut_spec (P : Nat → Int32) (x : Int32) : ∀ d i : Nat, (∀ j : Nat, i ≤ j → j < ut_N P x d i → P j ≤ x) ∧ (ut_N P x d i < i + d → ¬ P (ut_N P x d i) ≤ x)
  | 0, i => ⟨fun j h1 h2 => by unfold ut_N at h2; omega, fun h => by unfold ut_N at h; omega⟩
  | d + 1, i => by
    by_cases h : P i ≤ x
    · rw [ut_s h]
      obtain ⟨a, b⟩ := ut_spec P x d (i + 1)
      exact ⟨fun j h1 h2 => by
        by_cases e : j = i
        · subst e; exact h
        · exact a j (by omega) h2, fun q => b (by omega)⟩
    · rw [ut_e h]
      exact ⟨fun j h1 h2 => by omega, fun _ => h⟩
theorem ut_of {P : Nat → Int32} {x : Int32} : ∀ d i u : Nat, i ≤ u → u ≤ i + d → (∀ j : Nat, i ≤ j → j < u → P j ≤ x) → (u < i + d → ¬ P u ≤ x) → ut_N P x d i = u
  | 0, i, u, h1, h2, _, _ => by unfold ut_N; omega
  | d + 1, i, u, h1, h2, h3, h4 => by
    by_cases e : i = u
    · subst e; rw [ut_e (h4 (by omega))]
    · rw [ut_s (h3 i (by omega) (by omega))]
      exact ut_of d (i + 1) u (by omega) (by omega) (fun j a b => h3 j (by omega) b) (fun q => h4 (by omega))
/-- a list that rises, its places and values in range -/
def VL (S : Nat → Int32) (b : Nat) (lo hi : Int) : Prop := LK S b 10 ∧ (∀ i j : Nat, i < j → j < ls_n S b → (ls_P S b i).toInt < (ls_P S b j).toInt) ∧ ∀ i : Nat, i < ls_n S b → (-20000 ≤ (ls_P S b i).toInt ∧ (ls_P S b i).toInt ≤ 20000) ∧ lo ≤ (ls_V S b i).toInt ∧ (ls_V S b i).toInt ≤ hi
/-- two rows with the same list -/
def EL (S T : Nat → Int32) (b : Nat) : Prop := S b = T b ∧ ∀ i : Nat, i < ls_n T b → ls_P S b i = ls_P T b i ∧ ls_V S b i = ls_V T b i
theorem EL.n {S T : Nat → Int32} {b : Nat} (h : EL S T b) : ls_n S b = ls_n T b := by unfold ls_n; rw [h.1]
theorem EL.rf {S : Nat → Int32} {b : Nat} : EL S S b := ⟨rfl, fun _ _ => ⟨rfl, rfl⟩⟩
theorem EL.sy {S T : Nat → Int32} {b : Nat} (h : EL S T b) : EL T S b := ⟨h.1.symm, fun i hi => ⟨(h.2 i (h.n ▸ hi)).1.symm, (h.2 i (h.n ▸ hi)).2.symm⟩⟩
theorem EL.tr {S T U : Nat → Int32} {b : Nat} (h : EL S T b) (h' : EL T U b) : EL S U b := ⟨h.1.trans h'.1, fun i hi => ⟨(h.2 i (by rw [h'.n]; exact hi)).1.trans (h'.2 i hi).1, (h.2 i (by rw [h'.n]; exact hi)).2.trans (h'.2 i hi).2⟩⟩
theorem EL.of {S T : Nat → Int32} {b N : Nat} (hL : ls_n T b ≤ N) (h : ∀ j : Nat, b ≤ j → j ≤ b + 2 * N → S j = T j) : EL S T b := ⟨h b (by omega) (by omega), fun i hi => ⟨h _ (by omega) (by omega), h _ (by omega) (by omega)⟩⟩
theorem LK.el {S T : Nat → Int32} {b N : Nat} (h : LK S b N) (e : EL S T b) : LK T b N := h.of e.1.symm
theorem VL.el {S T : Nat → Int32} {b : Nat} {lo hi : Int} (h : VL S b lo hi) (e : EL S T b) : VL T b lo hi := by
  obtain ⟨h1, h2, h3⟩ := h
  refine ⟨h1.el e, fun i j hij hj => ?_, fun i hi => ?_⟩
  · rw [← (e.2 i (by omega)).1, ← (e.2 j hj).1]
    exact h2 i j hij (by rw [e.n]; exact hj)
  · rw [← (e.2 i hi).1, ← (e.2 i hi).2]
    exact h3 i (by rw [e.n]; exact hi)
/-- the same scalars and the same lists -/
def EV (S T : Nat → Int32) : Prop := (∀ j : Nat, j < 21 → S j = T j) ∧ EL S T 21 ∧ EL S T 42 ∧ EL S T 63
theorem EV.rf {S : Nat → Int32} : EV S S := ⟨fun _ _ => rfl, EL.rf, EL.rf, EL.rf⟩
theorem EV.tr {S T U : Nat → Int32} (h : EV S T) (h' : EV T U) : EV S U := ⟨fun j hj => (h.1 j hj).trans (h'.1 j hj), h.2.1.tr h'.2.1, h.2.2.1.tr h'.2.2.1, h.2.2.2.tr h'.2.2.2⟩
theorem EV.sy {S T : Nat → Int32} (h : EV S T) : EV T S := ⟨fun j hj => (h.1 j hj).symm, h.2.1.sy, h.2.2.1.sy, h.2.2.2.sy⟩
theorem PR.el {ν : Nat → Nat → Int32} {q b N : Nat} {S T : Nat → Int32} (h : PR ν q S b N) (hN : N < 2 ^ 31) (e : EL S T b) : PR ν q T b N := by
  obtain ⟨n, h1, h2, h3, h4⟩ := h
  have hn : ls_n T b = n := by unfold ls_n; rw [← e.1, h3, nI_clamp (by omega)]
  exact ⟨n, h1, h2, e.1.symm.trans h3, fun i hi => ⟨(h4 i hi).1.trans (e.2 i (by omega)).1, (h4 i hi).2.trans (e.2 i (by omega)).2⟩⟩
theorem AX.ev {ν : Nat → Nat → Int32} {a : Nat} {S T : Nat → Int32} (h : AX ν a S) (e : EV S T) : AX ν a T := by
  obtain ⟨g1, g2, g3, g4, g5, g6, g7⟩ := h
  obtain ⟨e1, e2, e3, e4⟩ := e
  refine ⟨fun j hj => by rw [← e1 j (by omega)]; exact g1 j hj, fun j hj => by rw [← e1 _ (by omega)]; exact g2 j hj, fun k h5 h14 => ?_, by rw [← e1 18 (by omega)]; exact g4, g5.el (by decide) e2, g6.el (by decide) e3, g7.el (by decide) e4⟩
  have := ax_ix_lt h5 h14
  rw [← e1 _ (by omega)]; exact g3 k h5 h14
theorem EV.b {S T : Nat → Int32} {b : Nat} (hb : b = 21 ∨ b = 42) (h : EL S T b) (hn : LK T 21 10 ∧ LK T 42 10 ∧ LK T 63 8) (ho : ∀ j : Nat, (j < b ∨ b + 20 < j) → S j = T j) : EV S T := by
  refine ⟨fun j hj => ho j (by omega), ?_, ?_, ?_⟩
  · rcases hb with rfl | rfl
    · exact h
    · exact EL.of hn.1.1 fun j h1 h2 => ho j (by omega)
  · rcases hb with rfl | rfl
    · exact EL.of hn.2.1.1 fun j h1 h2 => ho j (by omega)
    · exact h
  · exact EL.of hn.2.2.1 fun j h1 h2 => ho j (by omega)
theorem EV.c {S T : Nat → Int32} (h : EL S T 63) (hn : LK T 21 10 ∧ LK T 42 10) (ho : ∀ j : Nat, j < 63 → S j = T j) : EV S T :=
  ⟨fun j hj => ho j (by omega), EL.of hn.1.1 fun j h1 h2 => ho j (by omega), EL.of hn.2.1 fun j h1 h2 => ho j (by omega), h⟩
theorem in_lt {g : Nat → Int32} {u n i : Nat} {x : Int32} (h : i < u) : in_F g u n x i = g i := by
  unfold in_F upd
  rw [if_neg (by omega)]
  exact if_neg (by omega)
theorem in_eq {g : Nat → Int32} {u n : Nat} {x : Int32} : in_F g u n x u = x := by
  unfold in_F upd
  rw [if_pos rfl]
theorem in_gt {g : Nat → Int32} {u n i : Nat} {x : Int32} (h : u < i) (hn : i ≤ n) : in_F g u n x i = g (i - 1) := by
  unfold in_F upd
  rw [if_neg (by omega)]
  exact if_pos ⟨h, hn⟩
theorem sf_lo {S : Nat → Int32} {b K T j : Nat} (h : j ≤ b + K) : sf_S S b K T j = S j := if_neg (by omega)
theorem sf_hi {S : Nat → Int32} {b K T j : Nat} (h : b + K < j) (h2 : j ≤ b + T) : sf_S S b K T j = S (j - 2) := if_pos ⟨h, h2⟩
theorem ut_S_le {S : Nat → Int32} {b : Nat} {x : Int32} : ut_S S b x ≤ ls_n S b := by
  have := (ut_le (ls_P S b) x (ls_n S b) 0).2
  unfold ut_S; omega
theorem ha_k {S : Nat → Int32} {b : Nat} {x : Int32} (h : ¬ ha_S S b x = 0) : ∃ k : Nat, ut_S S b x = k + 1 ∧ ls_P S b k = x := ha_1 h
theorem ins_EL {S : Nat → Int32} {b u n : Nat} {x v : Int32} (hu : u ≤ n) (hn : n < 1000) : EL (rw_S S b (n + 1) (in_F (ls_P S b) u n x) (in_F (ls_V S b) u n v)) (upd (upd (upd (sf_S S b (2 * u + 2) (2 * n + 2)) b (nI (n + 1))) (b + 1 + 2 * u) x) (b + 2 + 2 * u) v) b := by
  have hb : upd (upd (upd (sf_S S b (2 * u + 2) (2 * n + 2)) b (nI (n + 1))) (b + 1 + 2 * u) x) (b + 2 + 2 * u) v b = nI (n + 1) := by
    rw [ud_ne (by omega), ud_ne (by omega), ud_eq]
  refine ⟨by rw [rw_b, hb], fun i hi => ?_⟩
  have hi : i < n + 1 := by
    unfold ls_n at hi
    rw [hb, nI_clamp (by omega)] at hi
    exact hi
  rw [rw_P hi, rw_V hi]
  unfold ls_P ls_V
  rcases Nat.lt_trichotomy i u with h | h | h
  · rw [in_lt h, in_lt h, ud_ne (by omega), ud_ne (by omega), ud_ne (by omega), sf_lo (by omega), ud_ne (by omega), ud_ne (by omega), ud_ne (by omega), sf_lo (by omega)]
    exact ⟨rfl, rfl⟩
  · subst h
    rw [in_eq, in_eq, ud_ne (by omega), ud_eq, ud_eq]
    exact ⟨rfl, rfl⟩
  · rw [in_gt h (by omega), in_gt h (by omega), ud_ne (by omega), ud_ne (by omega), ud_ne (by omega), sf_hi (by omega) (by omega), ud_ne (by omega), ud_ne (by omega), ud_ne (by omega), sf_hi (by omega) (by omega)]
    exact ⟨by rw [show b + 1 + 2 * i - 2 = b + 1 + 2 * (i - 1) by omega], by rw [show b + 2 + 2 * i - 2 = b + 2 + 2 * (i - 1) by omega]⟩
theorem pp_EL {S : Nat → Int32} {b : Nat} {x v : Int32} (hL : LK S b 10) : EL (pp_S S b x v) (mp_S S b x v) b := by
  unfold pp_S mp_S
  by_cases h : ha_S S b x = 0
  · rw [if_pos h, if_pos h]
    exact ins_EL ut_S_le (Nat.lt_of_le_of_lt hL.1 (by decide))
  · rw [if_neg h, if_neg h]
    obtain ⟨k, hk, hp⟩ := ha_k h
    rw [show upd S (b + 1 + 2 * (ut_S S b x - 1)) x = S by
      rw [hk, show k + 1 - 1 = k by omega]
      funext j; unfold upd
      by_cases e : j = b + 1 + 2 * k
      · rw [if_pos e, e, ← hp]; rfl
      · rw [if_neg e]]
    exact EL.rf
theorem pp_EV {S : Nat → Int32} {b : Nat} {x v : Int32} (hb : b = 21 ∨ b = 42) (h21 : LK S 21 10) (h42 : LK S 42 10) (h63 : LK S 63 8) (hr : ¬ ha_S S b x = 0 ∨ ls_n S b < 10) : EV (pp_S S b x v) (mp_S S b x v) := by
  have hL : LK S b 10 := by rcases hb with rfl | rfl <;> assumption
  have hm := mp_b (v := v) hr hL
  refine EV.b hb (pp_EL hL) ⟨?_, ?_, h63.of (mp_o hr hL.1 (by omega))⟩ fun j hj => by rw [pp_o hr hL.1 hj, mp_o hr hL.1 hj]
  · rcases hb with rfl | rfl
    · exact hm
    · exact h21.of (mp_o hr hL.1 (by omega))
  · rcases hb with rfl | rfl
    · exact h42.of (mp_o hr hL.1 (by omega))
    · exact hm
theorem cg_lt {g : Nat → Int32} {k j i : Nat} (h : i < k) : cg_I g k j i = g i := if_neg (by omega)
theorem cg_ge {g : Nat → Int32} {k j i : Nat} (h : k ≤ i) (h2 : i < j) : cg_I g k j i = g (i + 1) := if_pos ⟨h, h2⟩
theorem sg_lo {S : Nat → Int32} {b K T j : Nat} (h : j < b + K) : sg_S S b K T j = S j := if_neg (by omega)
theorem sg_hi {S : Nat → Int32} {b K T j : Nat} (h : b + K ≤ j) (h2 : j < b + T) : sg_S S b K T j = S (j + 2) := if_pos ⟨h, h2⟩
theorem sg_up {S : Nat → Int32} {b K T j : Nat} (h : b + T ≤ j) : sg_S S b K T j = S j := if_neg (by omega)
theorem rp_EL {S : Nat → Int32} {b : Nat} {x : Int32} (hL : LK S b 10) : EL (rp_S S b x) (mr_S S b x) b := by
  have h10 := hL.1
  have hb : mr_S S b x b = nI (ls_n S b - 1) := by
    unfold mr_S
    rw [sg_b (by omega), ud_eq]
  refine ⟨by unfold rp_S; rw [rw_b, hb], fun i hi => ?_⟩
  have hi : i < ls_n S b - 1 := by
    unfold ls_n at hi
    rw [hb, nI_clamp (by omega)] at hi
    exact hi
  unfold rp_S
  rw [rw_P hi, rw_V hi]
  show _ = mr_S S b x (b + 1 + 2 * i) ∧ _ = mr_S S b x (b + 2 + 2 * i)
  unfold mr_S
  by_cases c : i < ut_S S b x - 1
  · rw [cg_lt c, cg_lt c, sg_lo (by omega), sg_lo (by omega), ud_ne (by omega), ud_ne (by omega)]
    exact ⟨rfl, rfl⟩
  · rw [cg_ge (by omega) hi, cg_ge (by omega) hi, sg_hi (by omega) (by omega), sg_hi (by omega) (by omega), ud_ne (by omega), ud_ne (by omega)]
    exact ⟨by rw [show b + 1 + 2 * i + 2 = b + 1 + 2 * (i + 1) by omega]; rfl, by rw [show b + 2 + 2 * i + 2 = b + 2 + 2 * (i + 1) by omega]; rfl⟩
theorem mr_o {S : Nat → Int32} {b j : Nat} {x : Int32} (hn : ls_n S b ≤ 10) (hj : j < b ∨ b + 20 < j) : mr_S S b x j = S j := by
  unfold mr_S
  rcases hj with h | h
  · rw [sg_lo (by omega), ud_ne (by omega)]
  · rw [sg_up (by omega), ud_ne (by omega)]
theorem mr_b {S : Nat → Int32} {b : Nat} {x : Int32} (hL : LK S b 10) : LK (mr_S S b x) b 10 := by
  have h10 := hL.1
  have hb : mr_S S b x b = nI (ls_n S b - 1) := by
    unfold mr_S
    rw [sg_b (by omega), ud_eq]
  have hn : ls_n (mr_S S b x) b = ls_n S b - 1 := by
    show (mr_S S b x b).toNatClampNeg = _
    rw [hb, nI_clamp (by omega)]
  exact ⟨by omega, by rw [hn, hb]⟩
theorem rp_EV {S : Nat → Int32} {b : Nat} {x : Int32} (hb : b = 21 ∨ b = 42) (h21 : LK S 21 10) (h42 : LK S 42 10) (h63 : LK S 63 8) : EV (rp_S S b x) (mr_S S b x) := by
  have hL : LK S b 10 := by rcases hb with rfl | rfl <;> assumption
  have hm := mr_b (x := x) hL
  refine EV.b hb (rp_EL hL) ⟨?_, ?_, h63.of (mr_o hL.1 (by omega))⟩ fun j hj => by rw [rp_o hL.1 hj, mr_o hL.1 hj]
  · rcases hb with rfl | rfl
    · exact hm
    · exact h21.of (mr_o hL.1 (by omega))
  · rcases hb with rfl | rfl
    · exact h42.of (mr_o hL.1 (by omega))
    · exact hm
theorem ct_EV {S : Nat → Int32} (h21 : LK S 21 10) (h42 : LK S 42 10) (h63 : LK S 63 8) : EV (ct_S S) (cd_S S) := by
  have h8 := h63.1
  have hb : cd_S S 63 = nI (ls_n S 63 - 1) := by
    unfold cd_S
    rw [sg_b (by omega), ud_eq]
  refine EV.c ⟨by unfold ct_S; rw [rw_b, hb], fun i hi => ?_⟩ ⟨h21.of (cd_o (by omega)), h42.of (cd_o (by omega))⟩ fun j hj => by rw [cd_o hj]; unfold ct_S; rw [rw_o (by omega)]
  have hi : i < ls_n S 63 - 1 := by
    unfold ls_n at hi
    rw [hb, nI_clamp (by omega)] at hi
    exact hi
  unfold ct_S
  rw [rw_P hi, rw_V hi]
  show _ = cd_S S (63 + 1 + 2 * i) ∧ _ = cd_S S (63 + 2 + 2 * i)
  unfold cd_S
  rw [sg_hi (by omega) (by omega), sg_hi (by omega) (by omega), ud_ne (by omega), ud_ne (by omega)]
  exact ⟨by rw [show 63 + 1 + 2 * i + 2 = 63 + 1 + 2 * (i + 1) by omega]; rfl, by rw [show 63 + 2 + 2 * i + 2 = 63 + 2 + 2 * (i + 1) by omega]; rfl⟩
theorem pr_spec (V : Nat → Int32) (y : Int32) : ∀ d i : Nat, (∀ j : Nat, i ≤ j → j < pr_N V y d i → ¬ V j < y) ∧ (pr_N V y d i < i + d → V (pr_N V y d i) < y)
  | 0, i => ⟨fun j h1 h2 => by unfold pr_N at h2; omega, fun h => by unfold pr_N at h; omega⟩
  | d + 1, i => by
    by_cases h : V i < y
    · rw [pr_e h]
      exact ⟨fun j h1 h2 => by omega, fun _ => h⟩
    · rw [pr_s h]
      obtain ⟨a, b⟩ := pr_spec V y d (i + 1)
      exact ⟨fun j h1 h2 => by
        by_cases e : j = i
        · subst e; exact h
        · exact a j (by omega) h2, fun q => b (by omega)⟩
theorem pq_of {V : Nat → Int32} {y : Int32} : ∀ n u : Nat, u ≤ n → (∀ j : Nat, u ≤ j → j < n → V j < y) → (∀ k : Nat, u = k + 1 → ¬ V k < y) → pq_N V y n = u
  | 0, u, h, _, _ => by unfold pq_N; omega
  | n + 1, u, h, h1, h2 => by
    unfold pq_N
    by_cases e : u = n + 1
    · rw [if_neg (h2 n e), e]
    · rw [if_pos (h1 n (by omega) (by omega))]
      exact pq_of n u (by omega) (fun j a b => h1 j a (by omega)) h2
theorem pr_pq {V : Nat → Int32} {y : Int32} {n : Nat} (hs : ∀ i j : Nat, i < j → j < n → (V j).toInt ≤ (V i).toInt) : pq_N V y n = pr_N V y n 0 := by
  obtain ⟨a, b⟩ := pr_spec V y n 0
  have hl := (pr_le V y n 0).2
  refine pq_of n _ (by omega) (fun j h1 h2 => ?_) (fun k hk => a k (by omega) (by omega))
  have hu := b (by omega)
  by_cases e : j = pr_N V y n 0
  · rw [e]; exact hu
  · have := hs _ j (Nat.lt_of_le_of_ne h1 (Ne.symm e)) h2
    rw [ti_lt] at hu ⊢
    omega
theorem ca_o {S : Nat → Int32} {x y : Int32} {n u j : Nat} (hu : u ≤ n) (h : j < 63) : ca_S S x y n u j = S j := by
  unfold ca_S
  rw [ud_ne (by omega), ud_ne (by omega), ud_ne (by omega), sf_lo (by omega)]
/-- commands by falling priority, their places in range -/
def VC (S : Nat → Int32) : Prop := LK S 63 8 ∧ (∀ i j : Nat, i < j → j < ls_n S 63 → (ls_V S 63 j).toInt ≤ (ls_V S 63 i).toInt) ∧ ∀ i : Nat, i < ls_n S 63 → -20000 ≤ (ls_P S 63 i).toInt ∧ (ls_P S 63 i).toInt ≤ 20000
theorem VC.el {S T : Nat → Int32} (h : VC S) (e : EL S T 63) : VC T := by
  obtain ⟨h1, h2, h3⟩ := h
  refine ⟨h1.el e, fun i j hij hj => ?_, fun i hi => ?_⟩
  · rw [← (e.2 i (by omega)).2, ← (e.2 j hj).2]
    exact h2 i j hij (by rw [e.n]; exact hj)
  · rw [← (e.2 i hi).1]
    exact h3 i (by rw [e.n]; exact hi)
theorem ci_EV {S : Nat → Int32} {x y : Int32} (h21 : LK S 21 10) (h42 : LK S 42 10) (h63 : VC S) (h8 : ls_n S 63 < 8) : EV (ci_S S x y) (ca_S S x y (ls_n S 63) (pq_N (fun k => S (65 + 2 * k)) y (ls_n S 63))) := by
  have hq : pq_N (fun k => S (65 + 2 * k)) y (ls_n S 63) = pr_N (ls_V S 63) y (ls_n S 63) 0 := pr_pq (V := ls_V S 63) h63.2.1
  have hl := (pr_le (ls_V S 63) y (ls_n S 63) 0).2
  obtain ⟨u, hpu⟩ : ∃ u : Nat, pr_N (ls_V S 63) y (ls_n S 63) 0 = u := ⟨_, rfl⟩
  rw [hpu] at hq hl
  rw [hq]
  have hu : u ≤ ls_n S 63 := by omega
  refine EV.c ?_ ⟨h21.of (ca_o hu (by omega)), h42.of (ca_o hu (by omega))⟩ fun j hj => ?_
  · have h := ins_EL (S := S) (b := 63) (x := x) (v := y) hu (by omega)
    have e : ca_S S x y (ls_n S 63) u = upd (upd (upd (sf_S S 63 (2 * u + 2) (2 * ls_n S 63 + 2)) 63 (nI (ls_n S 63 + 1))) (63 + 1 + 2 * u) x) (63 + 2 + 2 * u) y := by
      unfold ca_S
      funext j
      rw [show 63 + 1 + 2 * u = 64 + 2 * u by omega, show 63 + 2 + 2 * u = 65 + 2 * u by omega]
      unfold upd
      by_cases e1 : j = 63
      · rw [if_pos e1, if_neg (by omega), if_neg (by omega), if_pos e1]
      · rw [if_neg e1, if_neg e1]
    rw [e]
    unfold ci_S
    rw [hpu]
    exact h
  · rw [ca_o hu hj]; unfold ci_S; rw [rw_o (by omega)]
