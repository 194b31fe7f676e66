/-! the text read by both: the same items, the same errors -/
theorem hr_ev {S T : Nat → Int32} {b : Nat} {x : Int32} (e : EL S T b) : hr_I S b x = hr_I T b x ∧ ha_S S b x = ha_S T b x ∧ ut_S S b x = ut_S T b x := by
  have hn := e.n
  have hu : ut_S S b x = ut_S T b x := by
    unfold ut_S
    rw [hn]
    exact ut_cg _ _ fun j _ hj => (e.2 j (by omega)).1
  have hh : ha_S S b x = ha_S T b x := by
    have hl : ut_S T b x ≤ ls_n T b := ut_S_le
    unfold ha_S
    rw [hu]
    generalize ut_S T b x = u at hl
    match u with
    | 0 => rfl
    | k + 1 => rw [ha_s, ha_s, (e.2 k (by omega)).1]
  refine ⟨?_, hh, hu⟩
  unfold hr_I
  rw [hn, hh]
theorem pp_cg {S T : Nat → Int32} {b : Nat} {x v : Int32} (e : EL S T b) (hn : ls_n T b ≤ 10) : EL (pp_S S b x v) (pp_S T b x v) b := by
  obtain ⟨_, hh, hu⟩ := hr_ev (x := x) e
  have hl : ut_S T b x ≤ ls_n T b := ut_S_le
  have en := e.n
  by_cases c : ha_S T b x = 0
  · have e1 : pp_S S b x v = rw_S S b (ls_n T b + 1) (in_F (ls_P S b) (ut_S T b x) (ls_n T b) x) (in_F (ls_V S b) (ut_S T b x) (ls_n T b) v) := by
      unfold pp_S
      rw [hh, if_pos c, hu, en]
    have e2 : pp_S T b x v = rw_S T b (ls_n T b + 1) (in_F (ls_P T b) (ut_S T b x) (ls_n T b) x) (in_F (ls_V T b) (ut_S T b x) (ls_n T b) v) := if_pos c
    rw [e1, e2]
    refine ⟨by rw [rw_b, rw_b], fun i hi => ?_⟩
    rw [rw_n (by omega)] at hi
    rw [rw_P hi, rw_P hi, rw_V hi, rw_V hi]
    exact ⟨in_cg (fun j hj => (e.2 j hj).1) hi hl, in_cg (fun j hj => (e.2 j hj).2) hi hl⟩
  · obtain ⟨k, hk, hp⟩ := ha_k c
    have e1 : pp_S S b x v = upd S (b + 2 + 2 * k) v := by
      unfold pp_S
      rw [hh, if_neg c, hu, hk]; rfl
    have e2 : pp_S T b x v = upd T (b + 2 + 2 * k) v := by
      unfold pp_S
      rw [if_neg c, hk]; rfl
    rw [e1, e2]
    refine ⟨by rw [ud_ne (by omega), ud_ne (by omega)]; exact e.1, fun i hi => ?_⟩
    have hi : i < ls_n T b := by
      unfold ls_n at hi ⊢
      rw [ud_ne (by omega)] at hi
      exact hi
    have q := e.2 i hi
    unfold ls_P ls_V at q ⊢
    refine ⟨by rw [ud_ne (by omega), ud_ne (by omega)]; exact q.1, ?_⟩
    by_cases z : i = k
    · subst z; rw [ud_eq, ud_eq]
    · rw [ud_ne (by omega), ud_ne (by omega)]; exact q.2
theorem EL.cg2 {A B S T : Nat → Int32} {b N : Nat} (h : EL S T b) (hn : ls_n T b ≤ N) (ha : ∀ j : Nat, b ≤ j → j ≤ b + 2 * N → A j = S j) (hb : ∀ j : Nat, b ≤ j → j ≤ b + 2 * N → B j = T j) : EL A B b :=
  ((EL.of (N := N) (by rw [h.n]; exact hn) ha).tr h).tr (EL.of (S := B) hn hb).sy
theorem pp_ev2 {S T : Nat → Int32} {b : Nat} {x v : Int32} {K : Int} (h : EV S T) (hT : IV T K) (hb : b = 21 ∨ b = 42) (hr : ¬ hr_I T b x = 0) : EV (pp_S S b x v) (mp_S T b x v) := by
  have k := hT.lk
  have kS := (hT.ev h.sy).lk
  have e : EL S T b := by
    rcases hb with rfl | rfl
    · exact h.2.1
    · exact h.2.2.1
  have hrT := hr_o hr
  have hrS := hr_o (S := S) (b := b) (x := x) (by rw [(hr_ev e).1]; exact hr)
  have nS : ls_n S b ≤ 10 := by
    rcases hb with rfl | rfl
    · exact kS.1.1
    · exact kS.2.1.1
  have nT : ls_n T b ≤ 10 := by
    rcases hb with rfl | rfl
    · exact k.1.1
    · exact k.2.1.1
  have oS : ∀ j : Nat, (j < b ∨ b + 20 < j) → pp_S S b x v j = S j := fun j hj => pp_o hrS nS hj
  have oT : ∀ j : Nat, (j < b ∨ b + 20 < j) → pp_S T b x v j = T j := fun j hj => pp_o hrT nT hj
  refine EV.tr ⟨fun j hj => by rw [oS j (by omega), oT j (by omega)]; exact h.1 j hj, ?_, ?_, h.2.2.2.cg2 k.2.2.1 (fun j h1 h2 => oS j (by omega)) (fun j h1 h2 => oT j (by omega))⟩ (pp_EV hb k.1 k.2.1 k.2.2 hrT)
  · rcases hb with rfl | rfl
    · exact pp_cg e nT
    · exact h.2.1.cg2 k.1.1 (fun j h1 h2 => oS j (by omega)) (fun j h1 h2 => oT j (by omega))
  · rcases hb with rfl | rfl
    · exact h.2.2.1.cg2 k.2.1.1 (fun j h1 h2 => oS j (by omega)) (fun j h1 h2 => oT j (by omega))
    · exact pp_cg e nT
theorem er_rg {c : Nat → Int32} {L o : Nat} {lo hi mb : Int32} (hL : L ≤ 100) (ho : o ≤ L) (h : er_9 c L lo hi mb o = -1) : ¬ va_9 c L mb o < lo ∧ ¬ hi < va_9 c L mb o := by
  have hf := fi_le (c := c) (mb := mb) ho
  have hr := rv_le (c := c) (mb := mb) ho
  unfold er_9 at h
  by_cases c1 : fi_N c L mb o < (rv_N c L mb o).2 ∧ ((fi_N c L mb o + 1 < (rv_N c L mb o).2 ∧ c (fi_N c L mb o) = 48) ∨ va_9 c L mb o < lo ∨ hi < va_9 c L mb o)
  · rw [if_pos c1] at h
    exact absurd h (nI_m1 (by omega))
  · rw [if_neg c1] at h
    by_cases c2 : (rv_N c L mb o).2 = fi_N c L mb o ∨ ¬ dg_I (nx_I c L (rv_N c L mb o).2) = 0
    · rw [if_pos c2] at h
      exact absurd h (nI_m1 (by omega))
    · have c3 : fi_N c L mb o < (rv_N c L mb o).2 := by
        have : ¬ (rv_N c L mb o).2 = fi_N c L mb o := fun q => c2 (Or.inl q)
        omega
      exact ⟨fun q => c1 ⟨c3, Or.inr (Or.inl q)⟩, fun q => c1 ⟨c3, Or.inr (Or.inr q)⟩⟩
theorem rn_rg {c : Nat → Int32} {L : Nat} {lo hi mb : Int32} {p : Nat × Int32} (hL : L ≤ 100) (hp : p.1 ≤ L) (h : (rn_F c L lo hi mb p).2.2 = -1) : p.2 = -1 ∧ ¬ (rn_F c L lo hi mb p).1 < lo ∧ ¬ hi < (rn_F c L lo hi mb p).1 := by
  by_cases q : p.2 = -1
  · have e : rn_F c L lo hi mb p = (va_9 c L mb p.1, (rv_N c L mb p.1).2, er_9 c L lo hi mb p.1) := if_pos q
    rw [e] at h ⊢
    exact ⟨q, er_rg hL hp h⟩
  · rw [rn_e q] at h
    exact absurd h q
theorem ex_rg {c : Nat → Int32} {L : Nat} {ch : Int32} {p : Nat × Int32} (h : (ex_F c L ch p).2 = -1) : p.2 = -1 := by
  by_cases q : p.2 = -1
  · exact q
  · rw [ex_e q] at h
    exact h
theorem it_rg {c : Nat → Int32} {L o : Nat} {k : Int32} (hL : L ≤ 100) (ho : o < L) (h : (i4_F c L k o).2 = -1) : (-20000 ≤ (i1_F c L o).1.toInt ∧ (i1_F c L o).1.toInt ≤ 20000) ∧ (ls_I k (i1_F c L o).1).toInt ≤ (i3_F c L k o).1.toInt ∧ (i3_F c L k o).1.toInt ≤ (gs_I k).toInt := by
  have h3 : (i3_F c L k o).2.2 = -1 := ex_rg h
  have l2 := i2_L (c := c) ho
  have g3 := rn_rg hL l2.2 h3
  have h1 : (i1_F c L o).2.2 = -1 := ex_rg g3.1
  have g1 := rn_rg (p := (o + 1, -1)) hL ho h1
  have a1 : ¬ (i1_F c L o).1 < -20000 := g1.2.1
  have a2 : ¬ 20000 < (i1_F c L o).1 := g1.2.2
  have b1 : ¬ (i3_F c L k o).1 < ls_I k (i1_F c L o).1 := g3.2.1
  have b2 : ¬ gs_I k < (i3_F c L k o).1 := g3.2.2
  rw [ti_lt] at a1 a2 b1 b2
  exact ⟨⟨Int.not_lt.mp a1, Int.not_lt.mp a2⟩, Int.not_lt.mp b1, Int.not_lt.mp b2⟩
theorem it_ev {c : Nat → Int32} {L o : Nat} {S T : Nat → Int32} (h : EV S T) : (it_F c L S o).1 = (it_F c L T o).1 := by
  have hr : ∀ (b : Nat) (x : Int32), b = 21 ∨ b = 42 → hr_I S b x = hr_I T b x := fun b x hb => by
    rcases hb with rfl | rfl
    · exact (hr_ev h.2.1).1
    · exact (hr_ev h.2.2.1).1
  by_cases hk : nx_I c L o = 108 ∨ nx_I c L o = 99 ∨ nx_I c L o = 102
  · by_cases h4 : (i4_F c L (nx_I c L o) o).2 = -1
    · rw [it_b hk h4, it_b hk h4]
      dsimp only
      unfold si_E
      rw [hr _ _ (show kb_N (nx_I c L o) = 21 ∨ kb_N (nx_I c L o) = 42 by unfold kb_N; split; exact Or.inl rfl; exact Or.inr rfl)]
    · rw [it_a hk h4, it_a hk h4]
  · rw [it_c hk, it_c hk]
/-- an item that goes well, on both sides -/
theorem it_row {c : Nat → Int32} {L o : Nat} {S T : Nat → Int32} {K : Int} (hL : L ≤ 100) (ho : o < L) (h : EV S T) (hT : IV T K) (he : (it_F c L T o).1.2 = -1) : EV (it_F c L S o).2 (im_S c L T o) ∧ IV (im_S c L T o) K := by
  have hk : nx_I c L o = 108 ∨ nx_I c L o = 99 ∨ nx_I c L o = 102 := Classical.not_not.mp fun q => by
    rw [it_c q] at he
    exact absurd he (nI_m1 (by omega))
  have h4 : (i4_F c L (nx_I c L o) o).2 = -1 := Classical.not_not.mp fun q => by
    rw [it_a hk q] at he
    exact absurd he q
  have hk2 := it_k (by omega) he
  obtain ⟨r1, r2⟩ := it_rg hL ho h4
  rw [it_b hk h4]
  show EV (si_S S (nx_I c L o) (i1_F c L o).1 (i3_F c L (nx_I c L o) o).1) (sm_S T (nx_I c L o) (i1_F c L o).1 (i3_F c L (nx_I c L o) o).1) ∧ IV (sm_S T (nx_I c L o) (i1_F c L o).1 (i3_F c L (nx_I c L o) o).1) K
  generalize (i3_F c L (nx_I c L o) o).1 = y at r2 ⊢
  generalize (i1_F c L o).1 = x at r1 r2 hk2 ⊢
  generalize nx_I c L o = k at r2 hk hk2 ⊢
  by_cases q : k = 102
  · subst q
    have e1 : si_S S 102 x y = upd (upd (upd S 18 1) 19 x) 20 y := if_pos rfl
    have e2 : sm_S T 102 x y = upd (upd (upd T 18 1) 19 x) 20 y := if_pos rfl
    rw [e1, e2]
    have g1 : (ls_I 102 x).toInt = x.toInt + 1 := by
      show (x + 1).toInt = _
      rw [ti_add (by show _ ≤ _ + (1 : Int) ∧ _ + (1 : Int) ≤ _; omega)]; rfl
    have g2 : (gs_I 102).toInt = 20000 := by decide
    have o : ∀ (U : Nat → Int32) (j : Nat), (j < 18 ∨ 20 < j) → upd (upd (upd U 18 1) 19 x) 20 y j = U j := fun U j hj => by rw [ud_ne (by omega), ud_ne (by omega), ud_ne (by omega)]
    refine ⟨⟨fun j hj => ?_, h.2.1.cg2 hT.lk.1.1 (fun j a b => o S j (by omega)) (fun j a b => o T j (by omega)), h.2.2.1.cg2 hT.lk.2.1.1 (fun j a b => o S j (by omega)) (fun j a b => o T j (by omega)), h.2.2.2.cg2 hT.lk.2.2.1 (fun j a b => o S j (by omega)) (fun j a b => o T j (by omega))⟩, hT.fl r1 ⟨by omega, by omega⟩⟩
    by_cases z : j < 18
    · rw [o S j (Or.inl z), o T j (Or.inl z)]; exact h.1 j hj
    · have z2 : j = 18 ∨ j = 19 ∨ j = 20 := by omega
      rcases z2 with rfl | rfl | rfl <;> rfl
  · have hr : ¬ hr_I T (kb_N k) x = 0 := by
      rcases hk2 with z | z
      · exact absurd z q
      · exact z.2
    have hb : (kb_N k = 21 ∧ 0 ≤ y.toInt ∧ y.toInt ≤ 200) ∨ (kb_N k = 42 ∧ -99 ≤ y.toInt ∧ y.toInt ≤ 99) := by
      rcases hk with rfl | rfl | z
      · exact Or.inl ⟨rfl, r2⟩
      · exact Or.inr ⟨rfl, r2⟩
      · exact absurd z q
    have hb2 : kb_N k = 21 ∨ kb_N k = 42 := hb.elim (fun z => Or.inl z.1) (fun z => Or.inr z.1)
    have e : EL S T (kb_N k) := by
      rcases hb2 with z | z <;> rw [z]
      · exact h.2.1
      · exact h.2.2.1
    have e1 : si_S S k x y = pp_S S (kb_N k) x y := by
      unfold si_S
      rw [if_neg q, if_neg (by rw [(hr_ev e).1]; exact hr)]
    have e2 : sm_S T k x y = mp_S T (kb_N k) x y := if_neg q
    rw [e1, e2]
    exact ⟨pp_ev2 h hT hb2 hr, hT.mp hb r1 (hr_o hr)⟩
theorem ri_rm {c : Nat → Int32} {L : Nat} (hL : L ≤ 100) : ∀ (f i : Nat) (p : Nat × Int32) (S T : Nat → Int32) (K : Int), EV S T → IV T K → p.1 ≤ L → (ri_F c L f i p S).1 = (rm_F c L f i p T).1 ∧ (ri_F c L f i p S).2.1 = (rm_F c L f i p T).2.1 ∧ ((rm_F c L f i p T).2.1.2 = -1 → EV (ri_F c L f i p S).2.2 (rm_F c L f i p T).2.2 ∧ IV (rm_F c L f i p T).2.2 K)
  | 0, i, p, S, T, K, h, hT, _ => ⟨rfl, rfl, fun _ => ⟨h, hT⟩⟩
  | f + 1, i, p, S, T, K, h, hT, hp => by
    by_cases q : p.1 < L ∧ p.2 = -1
    · have e1 : ri_F c L (f + 1) i p S = ri_F c L f (i + 1) (so c L (it_F c L S p.1).1.1, (it_F c L S p.1).1.2) (it_F c L S p.1).2 := if_pos q
      have e2 : rm_F c L (f + 1) i p T = rm_F c L f (i + 1) (so c L (it_F c L T p.1).1.1, (it_F c L T p.1).1.2) (im_S c L T p.1) := if_pos q
      rw [e1, e2, it_ev h]
      have hl := (it_L (c := c) (S := T) hL q.1).1
      have hw := it_row (c := c) hL q.1 h hT
      generalize (it_F c L T p.1).1 = r at hl hw ⊢
      generalize (it_F c L S p.1).2 = S' at hw ⊢
      generalize im_S c L T p.1 = T' at hw ⊢
      by_cases z : r.2 = -1
      · exact ri_rm hL f (i + 1) (so c L r.1, r.2) S' T' K (hw z).1 (hw z).2 (so_L hl)
      · have hz : ¬ ((so c L r.1, r.2).1 < L ∧ (so c L r.1, r.2).2 = -1) := fun y => z y.2
        rw [ri_x (p := (so c L r.1, r.2)) f hz, rm_x (p := (so c L r.1, r.2)) f hz]
        exact ⟨rfl, rfl, fun y => absurd y z⟩
    · rw [ri_x (f + 1) q, rm_x (f + 1) q]
      exact ⟨rfl, rfl, fun _ => ⟨h, hT⟩⟩
/-- what an error can be -/
def PE (x : Int32) : Prop := x = -1 ∨ ∃ z : Nat, z ≤ 100 ∧ x = nI z
theorem rm_n {c : Nat → Int32} {L : Nat} : ∀ (f i : Nat) (p : Nat × Int32) (T : Nat → Int32), (rm_F c L f i p T).1 ≤ i + f
  | 0, i, p, T => Nat.le_refl _
  | f + 1, i, p, T => by
    by_cases q : p.1 < L ∧ p.2 = -1
    · have e2 : rm_F c L (f + 1) i p T = rm_F c L f (i + 1) (so c L (it_F c L T p.1).1.1, (it_F c L T p.1).1.2) (im_S c L T p.1) := if_pos q
      rw [e2]
      have := rm_n (c := c) (L := L) f (i + 1) (so c L (it_F c L T p.1).1.1, (it_F c L T p.1).1.2) (im_S c L T p.1)
      omega
    · rw [rm_x (f + 1) q]
      show i ≤ _
      omega
theorem PE.er {c : Nat → Int32} {L o : Nat} {lo hi mb : Int32} (hL : L ≤ 100) (ho : o ≤ L) : PE (er_9 c L lo hi mb o) := by
  have hf := fi_le (c := c) (mb := mb) ho
  have hr := rv_le (c := c) (mb := mb) ho
  unfold er_9
  split
  · exact Or.inr ⟨_, by omega, rfl⟩
  · split
    · exact Or.inr ⟨_, by omega, rfl⟩
    · exact Or.inl rfl
theorem PE.rn {c : Nat → Int32} {L : Nat} {lo hi mb : Int32} {p : Nat × Int32} (hL : L ≤ 100) (hp : p.1 ≤ L) (h : PE p.2) : PE (rn_F c L lo hi mb p).2.2 := by
  unfold rn_F
  split
  · exact PE.er hL hp
  · exact h
theorem PE.ex {c : Nat → Int32} {L : Nat} {ch : Int32} {p : Nat × Int32} (hL : L ≤ 100) (hp : p.1 ≤ L) (h : PE p.2) : PE (ex_F c L ch p).2 := by
  have := so_L (c := c) hp
  unfold ex_F
  split
  · split
    · exact Or.inl rfl
    · exact Or.inr ⟨_, by omega, rfl⟩
  · exact h
theorem PE.it {c : Nat → Int32} {L o : Nat} {T : Nat → Int32} (hL : L ≤ 100) (ho : o < L) : PE (it_F c L T o).1.2 := by
  have h1 : PE (i1_F c L o).2.2 := PE.rn (p := (o + 1, -1)) hL ho (Or.inl rfl)
  have h2 : PE (i2_F c L o).2 := PE.ex hL (i1_L ho).2 h1
  have h3 : PE (i3_F c L (nx_I c L o) o).2.2 := PE.rn hL (i2_L ho).2 h2
  have h4 : PE (i4_F c L (nx_I c L o) o).2 := PE.ex hL (i3_L ho).2 h3
  by_cases hk : nx_I c L o = 108 ∨ nx_I c L o = 99 ∨ nx_I c L o = 102
  · by_cases z : (i4_F c L (nx_I c L o) o).2 = -1
    · rw [it_b hk z]
      show PE (si_E T (nx_I c L o) (i1_F c L o).1 (nI o))
      unfold si_E
      split
      · exact Or.inl rfl
      · split
        · exact Or.inr ⟨o, by omega, rfl⟩
        · exact Or.inl rfl
    · rw [it_a hk z]; exact h4
  · rw [it_c hk]
    exact Or.inr ⟨o, by omega, rfl⟩
theorem PE.rm {c : Nat → Int32} {L : Nat} (hL : L ≤ 100) : ∀ (f i : Nat) (p : Nat × Int32) (T : Nat → Int32), p.1 ≤ L → PE p.2 → PE (rm_F c L f i p T).2.1.2
  | 0, i, p, T, _, h => h
  | f + 1, i, p, T, hp, h => by
    by_cases q : p.1 < L ∧ p.2 = -1
    · have e2 : rm_F c L (f + 1) i p T = rm_F c L f (i + 1) (so c L (it_F c L T p.1).1.1, (it_F c L T p.1).1.2) (im_S c L T p.1) := if_pos q
      rw [e2]
      have hl := (it_L (c := c) (S := T) hL q.1).1
      have hw := PE.it (c := c) (T := T) hL q.1
      generalize (it_F c L T p.1).1 = r at hl hw ⊢
      exact PE.rm hL f (i + 1) (so c L r.1, r.2) (im_S c L T p.1) (so_L hl) hw
    · rw [rm_x (f + 1) q]; exact h
/-- the answer of load tells whether there was an error -/
theorem re_0 {r : Nat × (Nat × Int32) × (Nat → Int32)} (hn : r.1 ≤ 100) (he : PE r.2.1.2) : (r.2.1.2 = -1 ∧ re_I r = nI r.1 ∧ ¬ re_I r < 0) ∨ (¬ r.2.1.2 = -1 ∧ re_I r < 0) := by
  unfold re_I
  by_cases q : r.2.1.2 = -1
  · rw [if_pos q]
    exact Or.inl ⟨q, rfl, nI_pos (by omega)⟩
  · rw [if_neg q]
    obtain ⟨z, hz, e⟩ := he.resolve_left q
    refine Or.inr ⟨q, ?_⟩
    have o : (-2000000 : Int32).toInt = -2000000 := by decide
    rw [ti_lt, e, ti_sub (by rw [o, nI_toInt (by omega)]; omega), o, nI_toInt (by omega), t0]
    omega
