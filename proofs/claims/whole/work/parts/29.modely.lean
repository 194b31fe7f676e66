/-! the reference reads items -/
theorem rs_d {c : Nat → Int32} {L o : Nat} {lo hi mb : Int32} (h : ¬ rs_I c L lo hi mb o = 0) : ¬ dg_I (nx_I c L (fi_N c L mb o)) = 0 := fun q => h (if_pos q)
theorem rd_s {c : Nat → Int32} {L o : Nat} {v : Int32} (h : ¬ dg_I (nx_I c L o) = 0) : o < (rd_D c L 5 o v).2 := by
  have h1 : rd_D c L 5 o v = rd_D c L 4 (o + 1) (v * 10 + nx_I c L o - 48) := if_neg h
  rw [h1]
  exact (rd_le 4 (o + 1) _).1
theorem rs_0 {c : Nat → Int32} {L o : Nat} {lo hi mb : Int32} (h : rs_I c L lo hi mb o = 0) : er_9 c L lo hi mb o = nI (fi_N c L mb o) := by
  by_cases hd : dg_I (nx_I c L (fi_N c L mb o)) = 0
  · have e : rv_N c L mb o = (0, fi_N c L mb o) := by unfold rv_N; exact if_pos hd
    unfold er_9
    rw [e]; dsimp only
    rw [if_neg (fun q => Nat.lt_irrefl _ q.1), if_pos (Or.inl rfl)]
  · have hlt : fi_N c L mb o < (rv_N c L mb o).2 := rd_s hd
    unfold er_9
    refine if_pos ⟨hlt, ?_⟩
    unfold rs_I at h
    rw [if_neg hd] at h
    by_cases h2 : in_I (va_9 c L mb o) lo hi = 0
    · right
      unfold in_I at h2
      by_cases h3 : va_9 c L mb o < lo ∨ hi < va_9 c L mb o
      · exact h3
      · rw [if_neg h3] at h2; exact absurd h2 (by decide)
    · rw [if_neg h2] at h
      by_cases h4 : c (fi_N c L mb o) = 48 ∧ fi_N c L mb o + 1 < (rv_N c L mb o).2
      · exact Or.inl ⟨h4.2, h4.1⟩
      · rw [if_neg h4] at h; exact absurd h (by decide)
theorem rs_1 {c : Nat → Int32} {L o : Nat} {lo hi mb : Int32} (h : ¬ rs_I c L lo hi mb o = 0) : er_9 c L lo hi mb o = if ¬ dg_I (nx_I c L (rv_N c L mb o).2) = 0 then nI (rv_N c L mb o).2 else -1 := by
  have hd := rs_d h
  have hlt : fi_N c L mb o < (rv_N c L mb o).2 := rd_s hd
  unfold rs_I at h
  rw [if_neg hd] at h
  have h2 : ¬ in_I (va_9 c L mb o) lo hi = 0 := fun q => h (if_pos q)
  rw [if_neg h2] at h
  have h4 : ¬ (c (fi_N c L mb o) = 48 ∧ fi_N c L mb o + 1 < (rv_N c L mb o).2) := fun q => h (if_pos q)
  have h3 := in_ok h2
  unfold er_9
  rw [if_neg (fun q => q.2.elim (fun z => h4 ⟨z.2, z.1⟩) (fun z => z.elim h3.1 h3.2))]
  by_cases h5 : dg_I (nx_I c L (rv_N c L mb o).2) = 0
  · rw [if_neg (fun q => q.elim (fun z => by omega) (fun z => z h5)), if_neg (fun q => q h5)]
  · rw [if_pos (Or.inr h5), if_pos h5]
theorem ro_0 {c : Nat → Int32} {L o : Nat} {lo hi mb : Int32} (h : rs_I c L lo hi mb o = 0) : ro_N c L lo hi mb o = fi_N c L mb o := if_pos h
theorem ro_1 {c : Nat → Int32} {L o : Nat} {lo hi mb : Int32} (h : ¬ rs_I c L lo hi mb o = 0) : ro_N c L lo hi mb o = (rv_N c L mb o).2 := if_neg h
theorem ro_L {c : Nat → Int32} {L o : Nat} {lo hi mb : Int32} (h : o ≤ L) : o ≤ ro_N c L lo hi mb o ∧ ro_N c L lo hi mb o ≤ L := by
  have h1 := fi_le (c := c) (L := L) (o := o) (mb := mb) h
  have h2 := rv_le (c := c) (L := L) (o := o) (mb := mb) h
  by_cases h3 : rs_I c L lo hi mb o = 0
  · rw [ro_0 h3]; exact h1
  · rw [ro_1 h3]; exact ⟨by omega, h2.2⟩
theorem tk_0 {c : Nat → Int32} {L o : Nat} {ch : Int32} (h : tk_I c L ch o = 0) : ¬ nx_I c L (so c L o) = ch := fun q => absurd ((if_pos q).symm.trans h) (by decide)
theorem tk_1 {c : Nat → Int32} {L o : Nat} {ch : Int32} (h : ¬ tk_I c L ch o = 0) : nx_I c L (so c L o) = ch := Classical.not_not.mp fun q => h (if_neg q)
theorem ex_e {c : Nat → Int32} {L : Nat} {ch : Int32} {p : Nat × Int32} (h : ¬ p.2 = -1) : ex_F c L ch p = p := if_neg h
theorem ex_1 {c : Nat → Int32} {L : Nat} {ch : Int32} {u : Nat} (h : nx_I c L (so c L u) = ch) : ex_F c L ch (u, -1) = (so c L u + 1, -1) := by
  unfold ex_F; rw [if_pos rfl]; exact if_pos h
theorem ex_0 {c : Nat → Int32} {L : Nat} {ch : Int32} {u : Nat} (h : ¬ nx_I c L (so c L u) = ch) : ex_F c L ch (u, -1) = (so c L u, nI (so c L u)) := by
  unfold ex_F; rw [if_pos rfl]; exact if_neg h
theorem rn_e {c : Nat → Int32} {L : Nat} {lo hi mb : Int32} {p : Nat × Int32} (h : ¬ p.2 = -1) : rn_F c L lo hi mb p = (0, p) := if_neg h
theorem rn_1 {c : Nat → Int32} {L u : Nat} {lo hi mb : Int32} : rn_F c L lo hi mb (u, -1) = (va_9 c L mb u, (rv_N c L mb u).2, er_9 c L lo hi mb u) := by
  unfold rn_F; exact if_pos rfl
theorem dg_so {c : Nat → Int32} {L u : Nat} (h : ¬ dg_I (nx_I c L u) = 0) : so c L u = u := so_f (fun q => h (by rw [q]; decide))
theorem num_0 {c : Nat → Int32} {L o : Nat} {lo hi mb ch : Int32} (h100 : L ≤ 100) (ho : o ≤ L) (h : rs_I c L lo hi mb o = 0) : (ex_F c L ch (rn_F c L lo hi mb (o, -1)).2).2 = nI (ro_N c L lo hi mb o) := by
  have h1 := fi_le (c := c) (L := L) (o := o) (mb := mb) ho
  rw [rn_1, rs_0 h, ro_0 h]; dsimp only
  rw [ex_e (nI_m1 (by omega))]
theorem num_1 {c : Nat → Int32} {L o : Nat} {lo hi mb ch : Int32} (h100 : L ≤ 100) (ho : o ≤ L) (h : ¬ rs_I c L lo hi mb o = 0) (ht : tk_I c L ch (ro_N c L lo hi mb o) = 0) : (ex_F c L ch (rn_F c L lo hi mb (o, -1)).2).2 = nI (tk_N c L ch (ro_N c L lo hi mb o)) := by
  have h2 := rv_le (c := c) (L := L) (o := o) (mb := mb) ho
  have ht := tk_0 ht
  rw [ro_1 h] at ht ⊢
  rw [rn_1, rs_1 h]; dsimp only
  rw [show tk_N c L ch (rv_N c L mb o).2 = so c L (rv_N c L mb o).2 from if_neg ht]
  by_cases hd : dg_I (nx_I c L (rv_N c L mb o).2) = 0
  · rw [if_neg (fun q => q hd), ex_0 ht]
  · rw [if_pos hd, ex_e (nI_m1 (by omega)), dg_so hd]
theorem num_2 {c : Nat → Int32} {L o : Nat} {lo hi mb ch : Int32} (hch : dg_I ch = 0) (h : ¬ rs_I c L lo hi mb o = 0) (ht : ¬ tk_I c L ch (ro_N c L lo hi mb o) = 0) : ex_F c L ch (rn_F c L lo hi mb (o, -1)).2 = (tk_N c L ch (ro_N c L lo hi mb o), -1) ∧ (rn_F c L lo hi mb (o, -1)).1 = va_9 c L mb o := by
  have ht := tk_1 ht
  rw [ro_1 h] at ht ⊢
  rw [rn_1, rs_1 h]; dsimp only
  have hd : dg_I (nx_I c L (rv_N c L mb o).2) = 0 := Classical.not_not.mp fun q => by
    rw [dg_so q] at ht
    exact q (by rw [ht]; exact hch)
  rw [if_neg (fun q => q hd), ex_1 ht, show tk_N c L ch (rv_N c L mb o).2 = so c L (rv_N c L mb o).2 + 1 from if_pos ht]
  exact ⟨rfl, rfl⟩
/-- how an item goes wrong, one place after another -/
theorem itE1 {c : Nat → Int32} {L o : Nat} {S : Nat → Int32} (h100 : L ≤ 100) (ho : o < L) (hk : nx_I c L o = 108 ∨ nx_I c L o = 99 ∨ nx_I c L o = 102) (h : rs_I c L (-20000) 20000 1 (o + 1) = 0) : (it_F c L S o).1.2 = nI (ro_N c L (-20000) 20000 1 (o + 1)) := by
  have hz := (ro_L (c := c) (lo := -20000) (hi := 20000) (mb := 1) (o := o + 1) (L := L) ho).2
  have e2 : (i2_F c L o).2 = nI (ro_N c L (-20000) 20000 1 (o + 1)) := by unfold i2_F i1_F; exact num_0 h100 ho h
  have e4 : i4_F c L (nx_I c L o) o = i2_F c L o := by
    unfold i4_F i3_F
    rw [rn_e (by rw [e2]; exact nI_m1 (by omega))]; dsimp only
    rw [ex_e (by rw [e2]; exact nI_m1 (by omega))]
  rw [it_a hk (by rw [e4, e2]; exact nI_m1 (by omega))]; dsimp only
  rw [e4, e2]
theorem itE2 {c : Nat → Int32} {L o : Nat} {S : Nat → Int32} (h100 : L ≤ 100) (ho : o < L) (hk : nx_I c L o = 108 ∨ nx_I c L o = 99 ∨ nx_I c L o = 102) (h : ¬ rs_I c L (-20000) 20000 1 (o + 1) = 0) (ht : tk_I c L 58 (ro_N c L (-20000) 20000 1 (o + 1)) = 0) : (it_F c L S o).1.2 = nI (tk_N c L 58 (ro_N c L (-20000) 20000 1 (o + 1))) := by
  have hz := (ro_L (c := c) (lo := -20000) (hi := 20000) (mb := 1) (o := o + 1) (L := L) ho).2
  have hz2 := (tk_L (c := c) (ch := 58) (by decide) hz).2
  have e2 : (i2_F c L o).2 = nI (tk_N c L 58 (ro_N c L (-20000) 20000 1 (o + 1))) := by unfold i2_F i1_F; exact num_1 h100 ho h ht
  have e4 : i4_F c L (nx_I c L o) o = i2_F c L o := by
    unfold i4_F i3_F
    rw [rn_e (by rw [e2]; exact nI_m1 (by omega))]; dsimp only
    rw [ex_e (by rw [e2]; exact nI_m1 (by omega))]
  rw [it_a hk (by rw [e4, e2]; exact nI_m1 (by omega))]; dsimp only
  rw [e4, e2]
theorem i3_e {c : Nat → Int32} {L o : Nat} {lo hi mb : Int32} (h : ¬ rs_I c L (-20000) 20000 1 (o + 1) = 0) (ht : ¬ tk_I c L 58 (ro_N c L (-20000) 20000 1 (o + 1)) = 0) (hlo : ls_I (nx_I c L o) (va_9 c L 1 (o + 1)) = lo) (hhi : gs_I (nx_I c L o) = hi) (hmb : (if nx_I c L o = 108 then 0 else 1) = mb) : i3_F c L (nx_I c L o) o = rn_F c L lo hi mb (tk_N c L 58 (ro_N c L (-20000) 20000 1 (o + 1)), -1) ∧ (i1_F c L o).1 = va_9 c L 1 (o + 1) := by
  have e := num_2 (c := c) (L := L) (ch := 58) (by decide) h ht
  have e1 : (i1_F c L o).1 = va_9 c L 1 (o + 1) := by unfold i1_F; exact e.2
  have e2 : i2_F c L o = (tk_N c L 58 (ro_N c L (-20000) 20000 1 (o + 1)), -1) := by unfold i2_F i1_F; exact e.1
  unfold i3_F
  rw [e1, e2, hlo, hhi, hmb]
  exact ⟨rfl, rfl⟩
theorem itE3 {c : Nat → Int32} {L o : Nat} {S : Nat → Int32} {lo hi mb : Int32} (h100 : L ≤ 100) (ho : o < L) (hk : nx_I c L o = 108 ∨ nx_I c L o = 99 ∨ nx_I c L o = 102) (h : ¬ rs_I c L (-20000) 20000 1 (o + 1) = 0) (ht : ¬ tk_I c L 58 (ro_N c L (-20000) 20000 1 (o + 1)) = 0) (hlo : ls_I (nx_I c L o) (va_9 c L 1 (o + 1)) = lo) (hhi : gs_I (nx_I c L o) = hi) (hmb : (if nx_I c L o = 108 then 0 else 1) = mb) (h2 : rs_I c L lo hi mb (tk_N c L 58 (ro_N c L (-20000) 20000 1 (o + 1))) = 0) : (it_F c L S o).1.2 = nI (ro_N c L lo hi mb (tk_N c L 58 (ro_N c L (-20000) 20000 1 (o + 1)))) := by
  have hz := (ro_L (c := c) (lo := -20000) (hi := 20000) (mb := 1) (o := o + 1) (L := L) ho).2
  have hz2 := (tk_L (c := c) (ch := 58) (by decide) hz).2
  have hz3 := (ro_L (c := c) (lo := lo) (hi := hi) (mb := mb) hz2).2
  have e4 : (i4_F c L (nx_I c L o) o).2 = nI (ro_N c L lo hi mb (tk_N c L 58 (ro_N c L (-20000) 20000 1 (o + 1)))) := by
    unfold i4_F; rw [(i3_e h ht hlo hhi hmb).1]; exact num_0 h100 hz2 h2
  rw [it_a hk (by rw [e4]; exact nI_m1 (by omega))]; dsimp only
  rw [e4]
theorem itE4 {c : Nat → Int32} {L o : Nat} {S : Nat → Int32} {lo hi mb : Int32} (h100 : L ≤ 100) (ho : o < L) (hk : nx_I c L o = 108 ∨ nx_I c L o = 99 ∨ nx_I c L o = 102) (h : ¬ rs_I c L (-20000) 20000 1 (o + 1) = 0) (ht : ¬ tk_I c L 58 (ro_N c L (-20000) 20000 1 (o + 1)) = 0) (hlo : ls_I (nx_I c L o) (va_9 c L 1 (o + 1)) = lo) (hhi : gs_I (nx_I c L o) = hi) (hmb : (if nx_I c L o = 108 then 0 else 1) = mb) (h2 : ¬ rs_I c L lo hi mb (tk_N c L 58 (ro_N c L (-20000) 20000 1 (o + 1))) = 0) (ht2 : tk_I c L 59 (ro_N c L lo hi mb (tk_N c L 58 (ro_N c L (-20000) 20000 1 (o + 1)))) = 0) : (it_F c L S o).1.2 = nI (tk_N c L 59 (ro_N c L lo hi mb (tk_N c L 58 (ro_N c L (-20000) 20000 1 (o + 1))))) := by
  have hz := (ro_L (c := c) (lo := -20000) (hi := 20000) (mb := 1) (o := o + 1) (L := L) ho).2
  have hz2 := (tk_L (c := c) (ch := 58) (by decide) hz).2
  have hz3 := (ro_L (c := c) (lo := lo) (hi := hi) (mb := mb) hz2).2
  have hz4 := (tk_L (c := c) (ch := 59) (by decide) hz3).2
  have e4 : (i4_F c L (nx_I c L o) o).2 = nI (tk_N c L 59 (ro_N c L lo hi mb (tk_N c L 58 (ro_N c L (-20000) 20000 1 (o + 1))))) := by
    unfold i4_F; rw [(i3_e h ht hlo hhi hmb).1]; exact num_1 h100 hz2 h2 ht2
  rw [it_a hk (by rw [e4]; exact nI_m1 (by omega))]; dsimp only
  rw [e4]
theorem itE5 {c : Nat → Int32} {L o : Nat} {S : Nat → Int32} {lo hi mb : Int32} (hk : nx_I c L o = 108 ∨ nx_I c L o = 99 ∨ nx_I c L o = 102) (h : ¬ rs_I c L (-20000) 20000 1 (o + 1) = 0) (ht : ¬ tk_I c L 58 (ro_N c L (-20000) 20000 1 (o + 1)) = 0) (hlo : ls_I (nx_I c L o) (va_9 c L 1 (o + 1)) = lo) (hhi : gs_I (nx_I c L o) = hi) (hmb : (if nx_I c L o = 108 then 0 else 1) = mb) (h2 : ¬ rs_I c L lo hi mb (tk_N c L 58 (ro_N c L (-20000) 20000 1 (o + 1))) = 0) (ht2 : ¬ tk_I c L 59 (ro_N c L lo hi mb (tk_N c L 58 (ro_N c L (-20000) 20000 1 (o + 1)))) = 0) : (it_F c L S o).1 = (tk_N c L 59 (ro_N c L lo hi mb (tk_N c L 58 (ro_N c L (-20000) 20000 1 (o + 1)))), si_E S (nx_I c L o) (va_9 c L 1 (o + 1)) (nI o)) ∧ (i1_F c L o).1 = va_9 c L 1 (o + 1) ∧ (i3_F c L (nx_I c L o) o).1 = va_9 c L mb (tk_N c L 58 (ro_N c L (-20000) 20000 1 (o + 1))) := by
  have e3 := i3_e h ht hlo hhi hmb
  have e := num_2 (c := c) (L := L) (ch := 59) (by decide) h2 ht2
  have e4 : i4_F c L (nx_I c L o) o = (tk_N c L 59 (ro_N c L lo hi mb (tk_N c L 58 (ro_N c L (-20000) 20000 1 (o + 1)))), -1) := by
    unfold i4_F; rw [e3.1]; exact e.1
  refine ⟨?_, e3.2, by rw [e3.1]; exact e.2⟩
  rw [it_b hk (by rw [e4]), e4, e3.2]
theorem hr_n {S : Nat → Int32} {b : Nat} {x : Int32} (hL : LK S b 10) (q : hr_I S b x = 0) : S b = 10 ∧ ha_S S b x = 0 := by
  have h9 := hL.1
  unfold hr_I at q
  by_cases h8 : ls_n S b < 10
  · rw [if_pos h8] at q; exact absurd q (by decide)
  · rw [if_neg h8] at q
    exact ⟨by rw [hL.2, show ls_n S b = 10 by omega]; rfl, q⟩
theorem hr_y {S : Nat → Int32} {b : Nat} {x : Int32} (hL : LK S b 10) (h : S b = 10) (q : ha_S S b x = 0) : hr_I S b x = 0 := by
  have h9 := hL.1
  have h8 : ls_n S b = 10 := by
    rw [hL.2] at h
    exact (nI_eq (b := 10) (by omega) (by omega)).mp h
  unfold hr_I
  rw [if_neg (by omega)]; exact q
theorem si_e {S : Nat → Int32} {k x e : Int32} (hk : ¬ k = 102) (h : hr_I S (kb_N k) x = 0) : si_E S k x e = e := (if_neg hk).trans (if_pos h)
def sm_S (S : Nat → Int32) (k x y : Int32) : Nat → Int32 := if k = 102 then upd (upd (upd S 18 1) 19 x) 20 y else mp_S S (kb_N k) x y
def im_S (c : Nat → Int32) (L : Nat) (S : Nat → Int32) (o : Nat) : Nat → Int32 := sm_S S (nx_I c L o) (i1_F c L o).1 (i3_F c L (nx_I c L o) o).1
def pi_P (τ : Nat × (Nat → sh_T)) (ν : Nat → Nat → Int32) (m : Nat) (X : Nat → Nat → Int32) (R : (Nat × Int32)) (M : Nat → Int32) : Option Value → mm_T → Prop := fun v μ' => ∃ (n : Int32) (T : Nat → Int32), v = some (.int (if R.2 = -1 then 1 else 0)) ∧ μ' = (τ, mv_N ν m (va_up (rx_N X (if R.2 = -1 then nI R.1 else R.2) n) 1 T)) ∧ (R.2 = -1 → T = M)
theorem pi_f {τ : Nat × (Nat → sh_T)} {ν : Nat → Nat → Int32} {m z : Nat} {X : Nat → Nat → Int32} {R : Nat × Int32} {M T : Nat → Int32} {n : Int32} (h : R.2 = nI z) (hz : z ≤ 100) : pi_P τ ν m X R M (some (.int 0)) (τ, mv_N ν m (va_up (rx_N X (nI z) n) 1 T)) := by
  have h1 : ¬ R.2 = -1 := by rw [h]; exact nI_m1 (by omega)
  exact ⟨n, T, by rw [if_neg h1], by rw [if_neg h1, h], fun q => absurd q h1⟩
theorem pi_t {τ : Nat × (Nat → sh_T)} {ν : Nat → Nat → Int32} {m z : Nat} {X : Nat → Nat → Int32} {R : Nat × Int32} {M : Nat → Int32} {n : Int32} (h : R = (z, -1)) : pi_P τ ν m X R M (some (.int 1)) (τ, mv_N ν m (va_up (rx_N X (nI z) n) 1 M)) := by
  subst h
  exact ⟨n, M, rfl, rfl, fun _ => rfl⟩
theorem sp_M_putsG {Γ : cx_T} {τ : Nat × (Nat → sh_T)} {ν : Nat → Nat → Int32} {X : Nat → Nat → Int32} {S : Nat → Int32} {m : Nat} (hm : sh_M τ.2 m) {b x y : Int32} {b0 : Nat} (hb : b = nI b0) (hL : LK S b0 10) (hN : b0 ≤ 42) (hh : ¬ ha_S S b0 x = 0 ∨ ls_n S b0 < 10) : mt_P Γ mk_M_puts [.ref m, .int b, .int x, .int y] (τ, mv_N ν m (va_up X 1 S)) (fun v μ' => v = none ∧ μ' = (τ, mv_N ν m (va_up X 1 (mp_S S b0 x y)))) := by
  have hL1 := hL.1
  by_cases c : ha_S S b0 x = 0
  · exact sp_M_putsN hm hb hL (by omega) c (by omega)
  · exact sp_M_putsY hm hb hL (by omega) c
set_option maxRecDepth 100000 in
set_option maxHeartbeats 4000000 in
theorem sp_M_readsPoint21 {Γ : cx_T} {τ : Nat × (Nat → sh_T)} {ν : Nat → Nat → Int32} {X : Nat → Nat → Int32} {S : Nat → Int32} {m L : Nat} {c : Nat → Int32} (hm : sh_M τ.2 m) (hT : TR X c L) {o : Nat} {n : Int32} (ho : o < L) (hk : nx_I c L o = 108) (hL21 : LK S 21 10) : mt_P Γ mk_M_readsPoint [.ref m, .int 21, .int (nI o)] (τ, mv_N ν m (va_up (rx_N X (nI (o + 1)) (n)) 1 (S))) (pi_P τ ν m X (it_F c L S o).1 (im_S c L S o)) := by
  refine mt_of (L := [some (.ref m), some (.int 21), some (.int (nI o)), none, none, none]) (by decide +kernel) (by simp [Value.category]) (Nat.le_of_ble_eq_true rfl) (lc_3_6 ()) ?_
  have h100 := hT.2.1
  have hz1a := (ro_L (c := c) (lo := -20000) (hi := 20000) (mb := 1) (o := o + 1) (L := L) ho).2
  have hz2a := (tk_L (c := c) (ch := 58) (by decide) hz1a).2
  have hz3a := (ro_L (c := c) (lo := 0) (hi := 200) (mb := 0) hz2a).2
  have hz4a := (tk_L (c := c) (ch := 59) (by decide) hz3a).2
  have hz1 := Nat.le_trans hz1a h100
  have hz2 := Nat.le_trans hz2a h100
  have hz3 := Nat.le_trans hz3a h100
  have hz4 := Nat.le_trans hz4a h100
  refine gg_ildn dc_M_readsPoint_0 rfl rfl ?_
  refine gg_bipush (v := 21) dc_M_readsPoint_1 (by decide) ?_
  refine gg_icne dc_M_readsPoint_3 (fun c_3 => ?_) (fun c_3 => ?_)
  · exact absurd rfl c_3
  · refine gg_iconst (v := 1) dc_M_readsPoint_6 (by decide) ?_
    refine gg_goto dc_M_readsPoint_7 ?_
    refine gg_istn (i := 3) dc_M_readsPoint_11 rfl (Nat.le_of_ble_eq_true rfl) rfl ?_
    dsimp only [List.set]
    refine gg_aldn dc_M_readsPoint_12 rfl rfl ?_
    refine gg_iconst (v := 1) dc_M_readsPoint_13 (by decide) ?_
    refine gg_sipush (v := (-20000)) dc_M_readsPoint_14 (by decide) ?_
    refine gg_sipush (v := 20000) dc_M_readsPoint_17 (by decide) ?_
    refine gg_okV (sp_M_reads hm hT ho) dc_M_readsPoint_20 ml_M_92 ce_M_reads ⟨Nat.le_of_ble_eq_true rfl, Nat.le_of_ble_eq_true rfl⟩ hm.1 rfl rfl (Nat.le_of_ble_eq_true rfl) ⟨rfl, rfl⟩ ⟨Nat.le_of_ble_eq_true rfl, Nat.le_of_ble_eq_true rfl⟩ ?_
    refine gg_ifne dc_M_readsPoint_23 (fun c_23 => ?_) (fun c_23 => ?_)
    · refine gg_aldn dc_M_readsPoint_28 rfl rfl ?_
      refine grx_9 dc_M_readsPoint_29 lf_M_89 hm ?_
      refine gx_top (if_neg (rs_d c_23)) ?_
      refine gg_ist (i := 4) dc_M_readsPoint_32 (Nat.le_of_ble_eq_true rfl) rfl ?_
      dsimp only [List.set]
      refine gg_aldn dc_M_readsPoint_34 rfl rfl ?_
      refine gg_bipush (v := 58) dc_M_readsPoint_35 (by decide) ?_
      refine gg_okV (sp_M_takes hm hT hz1a) dc_M_readsPoint_37 ml_M_86 ce_M_takes ⟨Nat.le_of_ble_eq_true rfl, Nat.le_of_ble_eq_true rfl⟩ hm.1 rfl rfl (Nat.le_of_ble_eq_true rfl) ⟨rfl, rfl⟩ ⟨Nat.le_of_ble_eq_true rfl, Nat.le_of_ble_eq_true rfl⟩ ?_
      refine gg_ifeq dc_M_readsPoint_40 (fun c_40 => ?_) (fun c_40 => ?_)
      · refine gg_iconst (v := 0) dc_M_readsPoint_81 (by decide) ?_
        exact gg_zret dc_M_readsPoint_82 rfl (by first | exact Or.inl rfl | exact Or.inr rfl | assumption) ⟨Nat.le_of_ble_eq_true rfl, Nat.le_of_ble_eq_true rfl⟩ (pi_f (itE2 h100 ho (by rw [hk]; exact Or.inl rfl) c_23 c_40) hz2)
      · refine gg_aldn dc_M_readsPoint_43 rfl rfl ?_
        refine gg_ildn dc_M_readsPoint_44 rfl rfl ?_
        refine gg_ifne dc_M_readsPoint_45 (fun c_45 => ?_) (fun c_45 => ?_)
        · refine gg_iconst (v := 0) dc_M_readsPoint_52 (by decide) ?_
          refine gg_ildn dc_M_readsPoint_53 rfl rfl ?_
          refine gg_ifeq dc_M_readsPoint_54 (fun c_54 => ?_) (fun c_54 => ?_)
          · exact absurd c_54 (by decide)
          · refine gg_iconst (v := 0) dc_M_readsPoint_57 (by decide) ?_
            refine gg_goto dc_M_readsPoint_58 ?_
            refine gg_ildn dc_M_readsPoint_63 rfl rfl ?_
            refine gg_ifeq dc_M_readsPoint_64 (fun c_64 => ?_) (fun c_64 => ?_)
            · exact absurd c_64 (by decide)
            · refine gg_sipush (v := 200) dc_M_readsPoint_67 (by decide) ?_
              refine gg_goto dc_M_readsPoint_70 ?_
              refine gg_okV (sp_M_reads hm hT hz2a) dc_M_readsPoint_75 ml_M_92 ce_M_reads ⟨Nat.le_of_ble_eq_true rfl, Nat.le_of_ble_eq_true rfl⟩ hm.1 rfl rfl (Nat.le_of_ble_eq_true rfl) ⟨rfl, rfl⟩ ⟨Nat.le_of_ble_eq_true rfl, Nat.le_of_ble_eq_true rfl⟩ ?_
              refine gg_ifne dc_M_readsPoint_78 (fun c_78 => ?_) (fun c_78 => ?_)
              · refine gg_aldn dc_M_readsPoint_83 rfl rfl ?_
                refine grx_9 dc_M_readsPoint_84 lf_M_89 hm ?_
                refine gx_top (if_neg (rs_d c_78)) ?_
                refine gg_ist (i := 5) dc_M_readsPoint_87 (Nat.le_of_ble_eq_true rfl) rfl ?_
                dsimp only [List.set]
                refine gg_aldn dc_M_readsPoint_89 rfl rfl ?_
                refine gg_bipush (v := 59) dc_M_readsPoint_90 (by decide) ?_
                refine gg_okV (sp_M_takes hm hT hz3a) dc_M_readsPoint_92 ml_M_86 ce_M_takes ⟨Nat.le_of_ble_eq_true rfl, Nat.le_of_ble_eq_true rfl⟩ hm.1 rfl rfl (Nat.le_of_ble_eq_true rfl) ⟨rfl, rfl⟩ ⟨Nat.le_of_ble_eq_true rfl, Nat.le_of_ble_eq_true rfl⟩ ?_
                refine gg_ifne dc_M_readsPoint_95 (fun c_95 => ?_) (fun c_95 => ?_)
                · refine gg_aldn dc_M_readsPoint_100 rfl rfl ?_
                  refine gg_getr dc_M_readsPoint_101 lf_M_7 hm.1 rfl ?_
                  refine gg_ildn dc_M_readsPoint_104 rfl rfl ?_
                  refine gms_r (k := 21) dc_M_readsPoint_105 hm (⟨rfl, by omega⟩) ?_
                  refine gg_bipush (v := 10) dc_M_readsPoint_106 (by decide) ?_
                  refine gg_icne dc_M_readsPoint_108 (fun c_108 => ?_) (fun c_108 => ?_)
                  · refine gg_aldn dc_M_readsPoint_128 rfl rfl ?_
                    refine gg_ildn dc_M_readsPoint_129 rfl rfl ?_
                    refine gg_ild dc_M_readsPoint_130 rfl ?_
                    refine gg_ild dc_M_readsPoint_132 rfl ?_
                    refine gg_okVv (sp_M_putsG hm (b0 := 21) rfl hL21 (by omega) (hr_o (show ¬ hr_I S 21 (va_9 c L 1 (o + 1)) = 0 from fun q => c_108 (hr_n hL21 q).1))) dc_M_readsPoint_134 ml_M_57 ce_M_puts ⟨Nat.le_of_ble_eq_true rfl, Nat.le_of_ble_eq_true rfl⟩ hm.1 rfl rfl (Nat.le_of_ble_eq_true rfl) ⟨rfl, rfl⟩ ⟨Nat.le_of_ble_eq_true rfl, Nat.le_of_ble_eq_true rfl⟩ ?_
                    refine gg_iconst (v := 1) dc_M_readsPoint_137 (by decide) ?_
                    refine gg_zret dc_M_readsPoint_138 rfl (by first | exact Or.inl rfl | exact Or.inr rfl | assumption) ⟨Nat.le_of_ble_eq_true rfl, Nat.le_of_ble_eq_true rfl⟩ ?_
                    have e5 := itE5 (S := S) (by rw [hk]; exact Or.inl rfl) c_23 c_40 (show ls_I (nx_I c L o) (va_9 c L 1 (o + 1)) = 0 by rw [hk]; rfl) (show gs_I (nx_I c L o) = 200 by rw [hk]; rfl) (show (if nx_I c L o = 108 then 0 else 1) = 0 by rw [hk]; rfl) c_78 c_95
                    have hE : (it_F c L S o).1 = (tk_N c L 59 (ro_N c L 0 200 0 (tk_N c L 58 (ro_N c L (-20000) 20000 1 (o + 1)))), -1) := by
                      rw [e5.1, hk, show si_E S 108 (va_9 c L 1 (o + 1)) (nI o) = -1 from (if_neg (by decide)).trans (if_neg (show ¬ hr_I S 21 (va_9 c L 1 (o + 1)) = 0 from fun q => c_108 (hr_n hL21 q).1))]
                    have hM : im_S c L S o = mp_S S 21 (va_9 c L 1 (o + 1)) (va_9 c L 0 (tk_N c L 58 (ro_N c L (-20000) 20000 1 (o + 1)))) := by
                      unfold im_S; rw [e5.2.1, e5.2.2, hk]; rfl
                    rw [hM]
                    exact pi_t hE
                  · refine gg_aldn dc_M_readsPoint_111 rfl rfl ?_
                    refine gg_ildn dc_M_readsPoint_112 rfl rfl ?_
                    refine gg_ild dc_M_readsPoint_113 rfl ?_
                    refine gg_okV (sp_M_has hm (b0 := 21) rfl hL21 (by omega)) dc_M_readsPoint_115 ml_M_42 ce_M_has ⟨Nat.le_of_ble_eq_true rfl, Nat.le_of_ble_eq_true rfl⟩ hm.1 rfl rfl (Nat.le_of_ble_eq_true rfl) ⟨rfl, rfl⟩ ⟨Nat.le_of_ble_eq_true rfl, Nat.le_of_ble_eq_true rfl⟩ ?_
                    refine gg_ifne dc_M_readsPoint_118 (fun c_118 => ?_) (fun c_118 => ?_)
                    · refine gg_aldn dc_M_readsPoint_128 rfl rfl ?_
                      refine gg_ildn dc_M_readsPoint_129 rfl rfl ?_
                      refine gg_ild dc_M_readsPoint_130 rfl ?_
                      refine gg_ild dc_M_readsPoint_132 rfl ?_
                      refine gg_okVv (sp_M_putsG hm (b0 := 21) rfl hL21 (by omega) (hr_o (show ¬ hr_I S 21 (va_9 c L 1 (o + 1)) = 0 from fun q => c_118 (hr_n hL21 q).2))) dc_M_readsPoint_134 ml_M_57 ce_M_puts ⟨Nat.le_of_ble_eq_true rfl, Nat.le_of_ble_eq_true rfl⟩ hm.1 rfl rfl (Nat.le_of_ble_eq_true rfl) ⟨rfl, rfl⟩ ⟨Nat.le_of_ble_eq_true rfl, Nat.le_of_ble_eq_true rfl⟩ ?_
                      refine gg_iconst (v := 1) dc_M_readsPoint_137 (by decide) ?_
                      refine gg_zret dc_M_readsPoint_138 rfl (by first | exact Or.inl rfl | exact Or.inr rfl | assumption) ⟨Nat.le_of_ble_eq_true rfl, Nat.le_of_ble_eq_true rfl⟩ ?_
                      have e5 := itE5 (S := S) (by rw [hk]; exact Or.inl rfl) c_23 c_40 (show ls_I (nx_I c L o) (va_9 c L 1 (o + 1)) = 0 by rw [hk]; rfl) (show gs_I (nx_I c L o) = 200 by rw [hk]; rfl) (show (if nx_I c L o = 108 then 0 else 1) = 0 by rw [hk]; rfl) c_78 c_95
                      have hE : (it_F c L S o).1 = (tk_N c L 59 (ro_N c L 0 200 0 (tk_N c L 58 (ro_N c L (-20000) 20000 1 (o + 1)))), -1) := by
                        rw [e5.1, hk, show si_E S 108 (va_9 c L 1 (o + 1)) (nI o) = -1 from (if_neg (by decide)).trans (if_neg (show ¬ hr_I S 21 (va_9 c L 1 (o + 1)) = 0 from fun q => c_118 (hr_n hL21 q).2))]
                      have hM : im_S c L S o = mp_S S 21 (va_9 c L 1 (o + 1)) (va_9 c L 0 (tk_N c L 58 (ro_N c L (-20000) 20000 1 (o + 1)))) := by
                        unfold im_S; rw [e5.2.1, e5.2.2, hk]; rfl
                      rw [hM]
                      exact pi_t hE
                    · refine gg_aldn dc_M_readsPoint_121 rfl rfl ?_
                      refine gg_ildn dc_M_readsPoint_122 rfl rfl ?_
                      refine grx_p8 dc_M_readsPoint_123 lp_M_79 hm ?_
                      refine gg_iconst (v := 0) dc_M_readsPoint_126 (by decide) ?_
                      exact gg_zret dc_M_readsPoint_127 rfl (by first | exact Or.inl rfl | exact Or.inr rfl | assumption) ⟨Nat.le_of_ble_eq_true rfl, Nat.le_of_ble_eq_true rfl⟩ (pi_f (z := o) (by rw [(itE5 (S := S) (by rw [hk]; exact Or.inl rfl) c_23 c_40 (show ls_I (nx_I c L o) (va_9 c L 1 (o + 1)) = 0 by rw [hk]; rfl) (show gs_I (nx_I c L o) = 200 by rw [hk]; rfl) (show (if nx_I c L o = 108 then 0 else 1) = 0 by rw [hk]; rfl) c_78 c_95).1, hk]; exact si_e (S := S) (k := 108) (x := va_9 c L 1 (o + 1)) (e := nI o) (by decide) (by rw [show kb_N 108 = 21 from rfl]; exact hr_y hL21 c_108 c_118)) (by omega))
                · refine gg_iconst (v := 0) dc_M_readsPoint_98 (by decide) ?_
                  exact gg_zret dc_M_readsPoint_99 rfl (by first | exact Or.inl rfl | exact Or.inr rfl | assumption) ⟨Nat.le_of_ble_eq_true rfl, Nat.le_of_ble_eq_true rfl⟩ (pi_f (itE4 h100 ho (by rw [hk]; exact Or.inl rfl) c_23 c_40 (show ls_I (nx_I c L o) (va_9 c L 1 (o + 1)) = 0 by rw [hk]; rfl) (show gs_I (nx_I c L o) = 200 by rw [hk]; rfl) (show (if nx_I c L o = 108 then 0 else 1) = 0 by rw [hk]; rfl) c_78 c_95) hz4)
              · refine gg_iconst (v := 0) dc_M_readsPoint_81 (by decide) ?_
                exact gg_zret dc_M_readsPoint_82 rfl (by first | exact Or.inl rfl | exact Or.inr rfl | assumption) ⟨Nat.le_of_ble_eq_true rfl, Nat.le_of_ble_eq_true rfl⟩ (pi_f (itE3 h100 ho (by rw [hk]; exact Or.inl rfl) c_23 c_40 (show ls_I (nx_I c L o) (va_9 c L 1 (o + 1)) = 0 by rw [hk]; rfl) (show gs_I (nx_I c L o) = 200 by rw [hk]; rfl) (show (if nx_I c L o = 108 then 0 else 1) = 0 by rw [hk]; rfl) c_78) hz3)
        · exact absurd c_45 (by decide)
    · refine gg_iconst (v := 0) dc_M_readsPoint_26 (by decide) ?_
      exact gg_zret dc_M_readsPoint_27 rfl (by first | exact Or.inl rfl | exact Or.inr rfl | assumption) ⟨Nat.le_of_ble_eq_true rfl, Nat.le_of_ble_eq_true rfl⟩ (pi_f (itE1 h100 ho (by rw [hk]; exact Or.inl rfl) c_23) hz1)
set_option maxRecDepth 100000 in
set_option maxHeartbeats 4000000 in
theorem sp_M_readsPoint42 {Γ : cx_T} {τ : Nat × (Nat → sh_T)} {ν : Nat → Nat → Int32} {X : Nat → Nat → Int32} {S : Nat → Int32} {m L : Nat} {c : Nat → Int32} (hm : sh_M τ.2 m) (hT : TR X c L) {o : Nat} {n : Int32} (ho : o < L) (hk : nx_I c L o = 99) (hL42 : LK S 42 10) : mt_P Γ mk_M_readsPoint [.ref m, .int 42, .int (nI o)] (τ, mv_N ν m (va_up (rx_N X (nI (o + 1)) (n)) 1 (S))) (pi_P τ ν m X (it_F c L S o).1 (im_S c L S o)) := by
  refine mt_of (L := [some (.ref m), some (.int 42), some (.int (nI o)), none, none, none]) (by decide +kernel) (by simp [Value.category]) (Nat.le_of_ble_eq_true rfl) (lc_3_6 ()) ?_
  have h100 := hT.2.1
  have hz1a := (ro_L (c := c) (lo := -20000) (hi := 20000) (mb := 1) (o := o + 1) (L := L) ho).2
  have hz2a := (tk_L (c := c) (ch := 58) (by decide) hz1a).2
  have hz3a := (ro_L (c := c) (lo := (-99)) (hi := 99) (mb := 1) hz2a).2
  have hz4a := (tk_L (c := c) (ch := 59) (by decide) hz3a).2
  have hz1 := Nat.le_trans hz1a h100
  have hz2 := Nat.le_trans hz2a h100
  have hz3 := Nat.le_trans hz3a h100
  have hz4 := Nat.le_trans hz4a h100
  refine gg_ildn dc_M_readsPoint_0 rfl rfl ?_
  refine gg_bipush (v := 21) dc_M_readsPoint_1 (by decide) ?_
  refine gg_icne dc_M_readsPoint_3 (fun c_3 => ?_) (fun c_3 => ?_)
  · refine gg_iconst (v := 0) dc_M_readsPoint_10 (by decide) ?_
    refine gg_istn (i := 3) dc_M_readsPoint_11 rfl (Nat.le_of_ble_eq_true rfl) rfl ?_
    dsimp only [List.set]
    refine gg_aldn dc_M_readsPoint_12 rfl rfl ?_
    refine gg_iconst (v := 1) dc_M_readsPoint_13 (by decide) ?_
    refine gg_sipush (v := (-20000)) dc_M_readsPoint_14 (by decide) ?_
    refine gg_sipush (v := 20000) dc_M_readsPoint_17 (by decide) ?_
    refine gg_okV (sp_M_reads hm hT ho) dc_M_readsPoint_20 ml_M_92 ce_M_reads ⟨Nat.le_of_ble_eq_true rfl, Nat.le_of_ble_eq_true rfl⟩ hm.1 rfl rfl (Nat.le_of_ble_eq_true rfl) ⟨rfl, rfl⟩ ⟨Nat.le_of_ble_eq_true rfl, Nat.le_of_ble_eq_true rfl⟩ ?_
    refine gg_ifne dc_M_readsPoint_23 (fun c_23 => ?_) (fun c_23 => ?_)
    · refine gg_aldn dc_M_readsPoint_28 rfl rfl ?_
      refine grx_9 dc_M_readsPoint_29 lf_M_89 hm ?_
      refine gx_top (if_neg (rs_d c_23)) ?_
      refine gg_ist (i := 4) dc_M_readsPoint_32 (Nat.le_of_ble_eq_true rfl) rfl ?_
      dsimp only [List.set]
      refine gg_aldn dc_M_readsPoint_34 rfl rfl ?_
      refine gg_bipush (v := 58) dc_M_readsPoint_35 (by decide) ?_
      refine gg_okV (sp_M_takes hm hT hz1a) dc_M_readsPoint_37 ml_M_86 ce_M_takes ⟨Nat.le_of_ble_eq_true rfl, Nat.le_of_ble_eq_true rfl⟩ hm.1 rfl rfl (Nat.le_of_ble_eq_true rfl) ⟨rfl, rfl⟩ ⟨Nat.le_of_ble_eq_true rfl, Nat.le_of_ble_eq_true rfl⟩ ?_
      refine gg_ifeq dc_M_readsPoint_40 (fun c_40 => ?_) (fun c_40 => ?_)
      · refine gg_iconst (v := 0) dc_M_readsPoint_81 (by decide) ?_
        exact gg_zret dc_M_readsPoint_82 rfl (by first | exact Or.inl rfl | exact Or.inr rfl | assumption) ⟨Nat.le_of_ble_eq_true rfl, Nat.le_of_ble_eq_true rfl⟩ (pi_f (itE2 h100 ho (by rw [hk]; exact Or.inr (Or.inl rfl)) c_23 c_40) hz2)
      · refine gg_aldn dc_M_readsPoint_43 rfl rfl ?_
        refine gg_ildn dc_M_readsPoint_44 rfl rfl ?_
        refine gg_ifne dc_M_readsPoint_45 (fun c_45 => ?_) (fun c_45 => ?_)
        · exact absurd rfl c_45
        · refine gg_iconst (v := 1) dc_M_readsPoint_48 (by decide) ?_
          refine gg_goto dc_M_readsPoint_49 ?_
          refine gg_ildn dc_M_readsPoint_53 rfl rfl ?_
          refine gg_ifeq dc_M_readsPoint_54 (fun c_54 => ?_) (fun c_54 => ?_)
          · refine gg_bipush (v := (-99)) dc_M_readsPoint_61 (by decide) ?_
            refine gg_ildn dc_M_readsPoint_63 rfl rfl ?_
            refine gg_ifeq dc_M_readsPoint_64 (fun c_64 => ?_) (fun c_64 => ?_)
            · refine gg_bipush (v := 99) dc_M_readsPoint_73 (by decide) ?_
              refine gg_okV (sp_M_reads hm hT hz2a) dc_M_readsPoint_75 ml_M_92 ce_M_reads ⟨Nat.le_of_ble_eq_true rfl, Nat.le_of_ble_eq_true rfl⟩ hm.1 rfl rfl (Nat.le_of_ble_eq_true rfl) ⟨rfl, rfl⟩ ⟨Nat.le_of_ble_eq_true rfl, Nat.le_of_ble_eq_true rfl⟩ ?_
              refine gg_ifne dc_M_readsPoint_78 (fun c_78 => ?_) (fun c_78 => ?_)
              · refine gg_aldn dc_M_readsPoint_83 rfl rfl ?_
                refine grx_9 dc_M_readsPoint_84 lf_M_89 hm ?_
                refine gx_top (if_neg (rs_d c_78)) ?_
                refine gg_ist (i := 5) dc_M_readsPoint_87 (Nat.le_of_ble_eq_true rfl) rfl ?_
                dsimp only [List.set]
                refine gg_aldn dc_M_readsPoint_89 rfl rfl ?_
                refine gg_bipush (v := 59) dc_M_readsPoint_90 (by decide) ?_
                refine gg_okV (sp_M_takes hm hT hz3a) dc_M_readsPoint_92 ml_M_86 ce_M_takes ⟨Nat.le_of_ble_eq_true rfl, Nat.le_of_ble_eq_true rfl⟩ hm.1 rfl rfl (Nat.le_of_ble_eq_true rfl) ⟨rfl, rfl⟩ ⟨Nat.le_of_ble_eq_true rfl, Nat.le_of_ble_eq_true rfl⟩ ?_
                refine gg_ifne dc_M_readsPoint_95 (fun c_95 => ?_) (fun c_95 => ?_)
                · refine gg_aldn dc_M_readsPoint_100 rfl rfl ?_
                  refine gg_getr dc_M_readsPoint_101 lf_M_7 hm.1 rfl ?_
                  refine gg_ildn dc_M_readsPoint_104 rfl rfl ?_
                  refine gms_r (k := 42) dc_M_readsPoint_105 hm (⟨rfl, by omega⟩) ?_
                  refine gg_bipush (v := 10) dc_M_readsPoint_106 (by decide) ?_
                  refine gg_icne dc_M_readsPoint_108 (fun c_108 => ?_) (fun c_108 => ?_)
                  · refine gg_aldn dc_M_readsPoint_128 rfl rfl ?_
                    refine gg_ildn dc_M_readsPoint_129 rfl rfl ?_
                    refine gg_ild dc_M_readsPoint_130 rfl ?_
                    refine gg_ild dc_M_readsPoint_132 rfl ?_
                    refine gg_okVv (sp_M_putsG hm (b0 := 42) rfl hL42 (by omega) (hr_o (show ¬ hr_I S 42 (va_9 c L 1 (o + 1)) = 0 from fun q => c_108 (hr_n hL42 q).1))) dc_M_readsPoint_134 ml_M_57 ce_M_puts ⟨Nat.le_of_ble_eq_true rfl, Nat.le_of_ble_eq_true rfl⟩ hm.1 rfl rfl (Nat.le_of_ble_eq_true rfl) ⟨rfl, rfl⟩ ⟨Nat.le_of_ble_eq_true rfl, Nat.le_of_ble_eq_true rfl⟩ ?_
                    refine gg_iconst (v := 1) dc_M_readsPoint_137 (by decide) ?_
                    refine gg_zret dc_M_readsPoint_138 rfl (by first | exact Or.inl rfl | exact Or.inr rfl | assumption) ⟨Nat.le_of_ble_eq_true rfl, Nat.le_of_ble_eq_true rfl⟩ ?_
                    have e5 := itE5 (S := S) (by rw [hk]; exact Or.inr (Or.inl rfl)) c_23 c_40 (show ls_I (nx_I c L o) (va_9 c L 1 (o + 1)) = (-99) by rw [hk]; rfl) (show gs_I (nx_I c L o) = 99 by rw [hk]; rfl) (show (if nx_I c L o = 108 then 0 else 1) = 1 by rw [hk]; rfl) c_78 c_95
                    have hE : (it_F c L S o).1 = (tk_N c L 59 (ro_N c L (-99) 99 1 (tk_N c L 58 (ro_N c L (-20000) 20000 1 (o + 1)))), -1) := by
                      rw [e5.1, hk, show si_E S 99 (va_9 c L 1 (o + 1)) (nI o) = -1 from (if_neg (by decide)).trans (if_neg (show ¬ hr_I S 42 (va_9 c L 1 (o + 1)) = 0 from fun q => c_108 (hr_n hL42 q).1))]
                    have hM : im_S c L S o = mp_S S 42 (va_9 c L 1 (o + 1)) (va_9 c L 1 (tk_N c L 58 (ro_N c L (-20000) 20000 1 (o + 1)))) := by
                      unfold im_S; rw [e5.2.1, e5.2.2, hk]; rfl
                    rw [hM]
                    exact pi_t hE
                  · refine gg_aldn dc_M_readsPoint_111 rfl rfl ?_
                    refine gg_ildn dc_M_readsPoint_112 rfl rfl ?_
                    refine gg_ild dc_M_readsPoint_113 rfl ?_
                    refine gg_okV (sp_M_has hm (b0 := 42) rfl hL42 (by omega)) dc_M_readsPoint_115 ml_M_42 ce_M_has ⟨Nat.le_of_ble_eq_true rfl, Nat.le_of_ble_eq_true rfl⟩ hm.1 rfl rfl (Nat.le_of_ble_eq_true rfl) ⟨rfl, rfl⟩ ⟨Nat.le_of_ble_eq_true rfl, Nat.le_of_ble_eq_true rfl⟩ ?_
                    refine gg_ifne dc_M_readsPoint_118 (fun c_118 => ?_) (fun c_118 => ?_)
                    · refine gg_aldn dc_M_readsPoint_128 rfl rfl ?_
                      refine gg_ildn dc_M_readsPoint_129 rfl rfl ?_
                      refine gg_ild dc_M_readsPoint_130 rfl ?_
                      refine gg_ild dc_M_readsPoint_132 rfl ?_
                      refine gg_okVv (sp_M_putsG hm (b0 := 42) rfl hL42 (by omega) (hr_o (show ¬ hr_I S 42 (va_9 c L 1 (o + 1)) = 0 from fun q => c_118 (hr_n hL42 q).2))) dc_M_readsPoint_134 ml_M_57 ce_M_puts ⟨Nat.le_of_ble_eq_true rfl, Nat.le_of_ble_eq_true rfl⟩ hm.1 rfl rfl (Nat.le_of_ble_eq_true rfl) ⟨rfl, rfl⟩ ⟨Nat.le_of_ble_eq_true rfl, Nat.le_of_ble_eq_true rfl⟩ ?_
                      refine gg_iconst (v := 1) dc_M_readsPoint_137 (by decide) ?_
                      refine gg_zret dc_M_readsPoint_138 rfl (by first | exact Or.inl rfl | exact Or.inr rfl | assumption) ⟨Nat.le_of_ble_eq_true rfl, Nat.le_of_ble_eq_true rfl⟩ ?_
                      have e5 := itE5 (S := S) (by rw [hk]; exact Or.inr (Or.inl rfl)) c_23 c_40 (show ls_I (nx_I c L o) (va_9 c L 1 (o + 1)) = (-99) by rw [hk]; rfl) (show gs_I (nx_I c L o) = 99 by rw [hk]; rfl) (show (if nx_I c L o = 108 then 0 else 1) = 1 by rw [hk]; rfl) c_78 c_95
                      have hE : (it_F c L S o).1 = (tk_N c L 59 (ro_N c L (-99) 99 1 (tk_N c L 58 (ro_N c L (-20000) 20000 1 (o + 1)))), -1) := by
                        rw [e5.1, hk, show si_E S 99 (va_9 c L 1 (o + 1)) (nI o) = -1 from (if_neg (by decide)).trans (if_neg (show ¬ hr_I S 42 (va_9 c L 1 (o + 1)) = 0 from fun q => c_118 (hr_n hL42 q).2))]
                      have hM : im_S c L S o = mp_S S 42 (va_9 c L 1 (o + 1)) (va_9 c L 1 (tk_N c L 58 (ro_N c L (-20000) 20000 1 (o + 1)))) := by
                        unfold im_S; rw [e5.2.1, e5.2.2, hk]; rfl
                      rw [hM]
                      exact pi_t hE
                    · refine gg_aldn dc_M_readsPoint_121 rfl rfl ?_
                      refine gg_ildn dc_M_readsPoint_122 rfl rfl ?_
                      refine grx_p8 dc_M_readsPoint_123 lp_M_79 hm ?_
                      refine gg_iconst (v := 0) dc_M_readsPoint_126 (by decide) ?_
                      exact gg_zret dc_M_readsPoint_127 rfl (by first | exact Or.inl rfl | exact Or.inr rfl | assumption) ⟨Nat.le_of_ble_eq_true rfl, Nat.le_of_ble_eq_true rfl⟩ (pi_f (z := o) (by rw [(itE5 (S := S) (by rw [hk]; exact Or.inr (Or.inl rfl)) c_23 c_40 (show ls_I (nx_I c L o) (va_9 c L 1 (o + 1)) = (-99) by rw [hk]; rfl) (show gs_I (nx_I c L o) = 99 by rw [hk]; rfl) (show (if nx_I c L o = 108 then 0 else 1) = 1 by rw [hk]; rfl) c_78 c_95).1, hk]; exact si_e (S := S) (k := 99) (x := va_9 c L 1 (o + 1)) (e := nI o) (by decide) (by rw [show kb_N 99 = 42 from rfl]; exact hr_y hL42 c_108 c_118)) (by omega))
                · refine gg_iconst (v := 0) dc_M_readsPoint_98 (by decide) ?_
                  exact gg_zret dc_M_readsPoint_99 rfl (by first | exact Or.inl rfl | exact Or.inr rfl | assumption) ⟨Nat.le_of_ble_eq_true rfl, Nat.le_of_ble_eq_true rfl⟩ (pi_f (itE4 h100 ho (by rw [hk]; exact Or.inr (Or.inl rfl)) c_23 c_40 (show ls_I (nx_I c L o) (va_9 c L 1 (o + 1)) = (-99) by rw [hk]; rfl) (show gs_I (nx_I c L o) = 99 by rw [hk]; rfl) (show (if nx_I c L o = 108 then 0 else 1) = 1 by rw [hk]; rfl) c_78 c_95) hz4)
              · refine gg_iconst (v := 0) dc_M_readsPoint_81 (by decide) ?_
                exact gg_zret dc_M_readsPoint_82 rfl (by first | exact Or.inl rfl | exact Or.inr rfl | assumption) ⟨Nat.le_of_ble_eq_true rfl, Nat.le_of_ble_eq_true rfl⟩ (pi_f (itE3 h100 ho (by rw [hk]; exact Or.inr (Or.inl rfl)) c_23 c_40 (show ls_I (nx_I c L o) (va_9 c L 1 (o + 1)) = (-99) by rw [hk]; rfl) (show gs_I (nx_I c L o) = 99 by rw [hk]; rfl) (show (if nx_I c L o = 108 then 0 else 1) = 1 by rw [hk]; rfl) c_78) hz3)
            · exact absurd rfl c_64
          · exact absurd rfl c_54
    · refine gg_iconst (v := 0) dc_M_readsPoint_26 (by decide) ?_
      exact gg_zret dc_M_readsPoint_27 rfl (by first | exact Or.inl rfl | exact Or.inr rfl | assumption) ⟨Nat.le_of_ble_eq_true rfl, Nat.le_of_ble_eq_true rfl⟩ (pi_f (itE1 h100 ho (by rw [hk]; exact Or.inr (Or.inl rfl)) c_23) hz1)
  · exact absurd c_3 (by decide)
theorem it_01 {p : Prop} {d : Decidable p} : (if p then (1 : Int32) else 0) = 0 ∨ (if p then (1 : Int32) else 0) = 1 := by
  by_cases h : p
  · right; exact if_pos h
  · left; exact if_neg h
set_option maxRecDepth 100000 in
set_option maxHeartbeats 4000000 in
theorem sp_M_readsItem {Γ : cx_T} {τ : Nat × (Nat → sh_T)} {ν : Nat → Nat → Int32} {X : Nat → Nat → Int32} {S : Nat → Int32} {m L : Nat} {c : Nat → Int32} (hm : sh_M τ.2 m) (hT : TR X c L) {o : Nat} {n : Int32} (ho : o < L) (hso : so c L o = o) (hL21 : LK S 21 10) (hL42 : LK S 42 10) : mt_P Γ mk_M_readsItem [.ref m] (τ, mv_N ν m (va_up (rx_N X (nI o) (n)) 1 (S))) (pi_P τ ν m X (it_F c L S o).1 (im_S c L S o)) := by
  refine mt_of (L := [some (.ref m), none, none, none]) (by decide +kernel) (by simp [Value.category]) (Nat.le_of_ble_eq_true rfl) (lc_1_4 ()) ?_
  have h100 := hT.2.1
  have hz1a := (ro_L (c := c) (lo := -20000) (hi := 20000) (mb := 1) (o := o + 1) (L := L) ho).2
  have hz2a := (tk_L (c := c) (ch := 58) (by decide) hz1a).2
  have hz3a := (ro_L (c := c) (lo := (va_9 c L 1 (o + 1) + 1)) (hi := 20000) (mb := 1) hz2a).2
  have hz4a := (tk_L (c := c) (ch := 59) (by decide) hz3a).2
  have hz1 := Nat.le_trans hz1a h100
  have hz2 := Nat.le_trans hz2a h100
  have hz3 := Nat.le_trans hz3a h100
  have hz4 := Nat.le_trans hz4a h100
  refine gg_aldn dc_M_readsItem_0 rfl rfl ?_
  refine gg_okV (sp_M_here hm hT (Nat.le_of_lt ho)) dc_M_readsItem_1 ml_M_82 ce_M_here ⟨Nat.le_of_ble_eq_true rfl, Nat.le_of_ble_eq_true rfl⟩ hm.1 rfl rfl (Nat.le_of_ble_eq_true rfl) ⟨rfl, rfl⟩ ⟨Nat.le_of_ble_eq_true rfl, Nat.le_of_ble_eq_true rfl⟩ ?_
  rw [hso]
  refine gg_istn (i := 1) dc_M_readsItem_4 rfl (Nat.le_of_ble_eq_true rfl) rfl ?_
  dsimp only [List.set]
  refine gg_aldn dc_M_readsItem_5 rfl rfl ?_
  refine grx_8 dc_M_readsItem_6 lf_M_79 hm ?_
  refine gg_istn (i := 2) dc_M_readsItem_9 rfl (Nat.le_of_ble_eq_true rfl) rfl ?_
  dsimp only [List.set]
  refine gg_ildn dc_M_readsItem_10 rfl rfl ?_
  refine gg_bipush (v := 108) dc_M_readsItem_11 (by decide) ?_
  refine gg_iceq dc_M_readsItem_13 (fun c_13 => ?_) (fun c_13 => ?_)
  · have hk : nx_I c L o = 108 := (by first | exact c_13 | exact Classical.not_not.mp c_13)
    refine gg_aldn dc_M_readsItem_30 rfl rfl ?_
    refine gg_dup dc_M_readsItem_31 rfl ?_
    refine grx_8 dc_M_readsItem_32 lf_M_79 hm ?_
    refine gg_iconst (v := 1) dc_M_readsItem_35 (by decide) ?_
    refine gg_iadd dc_M_readsItem_36 ?_
    refine gx_top (nI_1 o) ?_
    refine grx_p8 dc_M_readsItem_37 lp_M_79 hm ?_
    refine gg_ildn dc_M_readsItem_40 rfl rfl ?_
    refine gg_bipush (v := 102) dc_M_readsItem_41 (by decide) ?_
    refine gg_iceq dc_M_readsItem_43 (fun c_43 => ?_) (fun c_43 => ?_)
    · exact absurd (hk.symm.trans c_43) (by decide)
    · refine gg_aldn dc_M_readsItem_46 rfl rfl ?_
      refine gg_ildn dc_M_readsItem_47 rfl rfl ?_
      refine gg_bipush (v := 108) dc_M_readsItem_48 (by decide) ?_
      refine gg_icne dc_M_readsItem_50 (fun c_50 => ?_) (fun c_50 => ?_)
      · exact absurd hk c_50
      · refine gg_bipush (v := 21) dc_M_readsItem_53 (by decide) ?_
        refine gg_goto dc_M_readsItem_55 ?_
        refine gg_ildn dc_M_readsItem_60 rfl rfl ?_
        refine gg_callV (sp_M_readsPoint21 hm hT ho hk hL21) dc_M_readsItem_61 ml_M_96 ce_M_readsPoint ⟨Nat.le_of_ble_eq_true rfl, Nat.le_of_ble_eq_true rfl⟩ hm.1 rfl rfl (Nat.le_of_ble_eq_true rfl) ⟨Nat.le_of_ble_eq_true rfl, Nat.le_of_ble_eq_true rfl⟩ ?_
        rintro v μ9 ⟨n9, T9, rfl, rfl, hT9⟩
        dsimp only [Option.toList, List.cons_append, List.nil_append]
        exact gg_zret dc_M_readsItem_64 rfl it_01 ⟨Nat.le_of_ble_eq_true rfl, Nat.le_of_ble_eq_true rfl⟩ (⟨n9, T9, rfl, rfl, hT9⟩)
  · refine gg_ildn dc_M_readsItem_16 rfl rfl ?_
    refine gg_bipush (v := 99) dc_M_readsItem_17 (by decide) ?_
    refine gg_iceq dc_M_readsItem_19 (fun c_19 => ?_) (fun c_19 => ?_)
    · have hk : nx_I c L o = 99 := (by first | exact c_19 | exact Classical.not_not.mp c_19)
      refine gg_aldn dc_M_readsItem_30 rfl rfl ?_
      refine gg_dup dc_M_readsItem_31 rfl ?_
      refine grx_8 dc_M_readsItem_32 lf_M_79 hm ?_
      refine gg_iconst (v := 1) dc_M_readsItem_35 (by decide) ?_
      refine gg_iadd dc_M_readsItem_36 ?_
      refine gx_top (nI_1 o) ?_
      refine grx_p8 dc_M_readsItem_37 lp_M_79 hm ?_
      refine gg_ildn dc_M_readsItem_40 rfl rfl ?_
      refine gg_bipush (v := 102) dc_M_readsItem_41 (by decide) ?_
      refine gg_iceq dc_M_readsItem_43 (fun c_43 => ?_) (fun c_43 => ?_)
      · exact absurd (hk.symm.trans c_43) (by decide)
      · refine gg_aldn dc_M_readsItem_46 rfl rfl ?_
        refine gg_ildn dc_M_readsItem_47 rfl rfl ?_
        refine gg_bipush (v := 108) dc_M_readsItem_48 (by decide) ?_
        refine gg_icne dc_M_readsItem_50 (fun c_50 => ?_) (fun c_50 => ?_)
        · refine gg_bipush (v := 42) dc_M_readsItem_58 (by decide) ?_
          refine gg_ildn dc_M_readsItem_60 rfl rfl ?_
          refine gg_callV (sp_M_readsPoint42 hm hT ho hk hL42) dc_M_readsItem_61 ml_M_96 ce_M_readsPoint ⟨Nat.le_of_ble_eq_true rfl, Nat.le_of_ble_eq_true rfl⟩ hm.1 rfl rfl (Nat.le_of_ble_eq_true rfl) ⟨Nat.le_of_ble_eq_true rfl, Nat.le_of_ble_eq_true rfl⟩ ?_
          rintro v μ9 ⟨n9, T9, rfl, rfl, hT9⟩
          dsimp only [Option.toList, List.cons_append, List.nil_append]
          exact gg_zret dc_M_readsItem_64 rfl it_01 ⟨Nat.le_of_ble_eq_true rfl, Nat.le_of_ble_eq_true rfl⟩ (⟨n9, T9, rfl, rfl, hT9⟩)
        · exact absurd (hk.symm.trans (by first | exact c_50 | exact Classical.not_not.mp c_50)) (by decide)
    · refine gg_ildn dc_M_readsItem_22 rfl rfl ?_
      refine gg_bipush (v := 102) dc_M_readsItem_23 (by decide) ?_
      refine gg_iceq dc_M_readsItem_25 (fun c_25 => ?_) (fun c_25 => ?_)
      · have hk : nx_I c L o = 102 := (by first | exact c_25 | exact Classical.not_not.mp c_25)
        refine gg_aldn dc_M_readsItem_30 rfl rfl ?_
        refine gg_dup dc_M_readsItem_31 rfl ?_
        refine grx_8 dc_M_readsItem_32 lf_M_79 hm ?_
        refine gg_iconst (v := 1) dc_M_readsItem_35 (by decide) ?_
        refine gg_iadd dc_M_readsItem_36 ?_
        refine gx_top (nI_1 o) ?_
        refine grx_p8 dc_M_readsItem_37 lp_M_79 hm ?_
        refine gg_ildn dc_M_readsItem_40 rfl rfl ?_
        refine gg_bipush (v := 102) dc_M_readsItem_41 (by decide) ?_
        refine gg_iceq dc_M_readsItem_43 (fun c_43 => ?_) (fun c_43 => ?_)
        · refine gg_aldn dc_M_readsItem_65 rfl rfl ?_
          refine gg_iconst (v := 1) dc_M_readsItem_66 (by decide) ?_
          refine gg_sipush (v := (-20000)) dc_M_readsItem_67 (by decide) ?_
          refine gg_sipush (v := 20000) dc_M_readsItem_70 (by decide) ?_
          refine gg_okV (sp_M_reads hm hT ho) dc_M_readsItem_73 ml_M_92 ce_M_reads ⟨Nat.le_of_ble_eq_true rfl, Nat.le_of_ble_eq_true rfl⟩ hm.1 rfl rfl (Nat.le_of_ble_eq_true rfl) ⟨rfl, rfl⟩ ⟨Nat.le_of_ble_eq_true rfl, Nat.le_of_ble_eq_true rfl⟩ ?_
          refine gg_ifne dc_M_readsItem_76 (fun c_76 => ?_) (fun c_76 => ?_)
          · refine gg_aldn dc_M_readsItem_81 rfl rfl ?_
            refine grx_9 dc_M_readsItem_82 lf_M_89 hm ?_
            refine gx_top (if_neg (rs_d c_76)) ?_
            refine gg_istn (i := 3) dc_M_readsItem_85 rfl (Nat.le_of_ble_eq_true rfl) rfl ?_
            dsimp only [List.set]
            refine gg_aldn dc_M_readsItem_86 rfl rfl ?_
            refine gg_bipush (v := 58) dc_M_readsItem_87 (by decide) ?_
            refine gg_okV (sp_M_takes hm hT hz1a) dc_M_readsItem_89 ml_M_86 ce_M_takes ⟨Nat.le_of_ble_eq_true rfl, Nat.le_of_ble_eq_true rfl⟩ hm.1 rfl rfl (Nat.le_of_ble_eq_true rfl) ⟨rfl, rfl⟩ ⟨Nat.le_of_ble_eq_true rfl, Nat.le_of_ble_eq_true rfl⟩ ?_
            refine gg_ifeq dc_M_readsItem_92 (fun c_92 => ?_) (fun c_92 => ?_)
            · refine gg_iconst (v := 0) dc_M_readsItem_109 (by decide) ?_
              exact gg_zret dc_M_readsItem_110 rfl (by first | exact Or.inl rfl | exact Or.inr rfl | assumption) ⟨Nat.le_of_ble_eq_true rfl, Nat.le_of_ble_eq_true rfl⟩ (pi_f (itE2 h100 ho (by rw [hk]; exact Or.inr (Or.inr rfl)) c_76 c_92) hz2)
            · refine gg_aldn dc_M_readsItem_95 rfl rfl ?_
              refine gg_iconst (v := 1) dc_M_readsItem_96 (by decide) ?_
              refine gg_ildn dc_M_readsItem_97 rfl rfl ?_
              refine gg_iconst (v := 1) dc_M_readsItem_98 (by decide) ?_
              refine gg_iadd dc_M_readsItem_99 ?_
              refine gg_sipush (v := 20000) dc_M_readsItem_100 (by decide) ?_
              refine gg_okV (sp_M_reads hm hT hz2a) dc_M_readsItem_103 ml_M_92 ce_M_reads ⟨Nat.le_of_ble_eq_true rfl, Nat.le_of_ble_eq_true rfl⟩ hm.1 rfl rfl (Nat.le_of_ble_eq_true rfl) ⟨rfl, rfl⟩ ⟨Nat.le_of_ble_eq_true rfl, Nat.le_of_ble_eq_true rfl⟩ ?_
              refine gg_ifne dc_M_readsItem_106 (fun c_106 => ?_) (fun c_106 => ?_)
              · refine gg_aldn dc_M_readsItem_111 rfl rfl ?_
                refine gg_ildn dc_M_readsItem_112 rfl rfl ?_
                refine gg_aldn dc_M_readsItem_113 rfl rfl ?_
                refine grx_9 dc_M_readsItem_114 lf_M_89 hm ?_
                refine gx_top (if_neg (rs_d c_106)) ?_
                refine gg_okVv (sp_M_flags hm) dc_M_readsItem_117 ml_M_73 ce_M_flags ⟨Nat.le_of_ble_eq_true rfl, Nat.le_of_ble_eq_true rfl⟩ hm.1 rfl rfl (Nat.le_of_ble_eq_true rfl) ⟨rfl, rfl⟩ ⟨Nat.le_of_ble_eq_true rfl, Nat.le_of_ble_eq_true rfl⟩ ?_
                refine gg_aldn dc_M_readsItem_120 rfl rfl ?_
                refine gg_bipush (v := 59) dc_M_readsItem_121 (by decide) ?_
                refine gg_okV (sp_M_takes hm hT hz3a) dc_M_readsItem_123 ml_M_86 ce_M_takes ⟨Nat.le_of_ble_eq_true rfl, Nat.le_of_ble_eq_true rfl⟩ hm.1 rfl rfl (Nat.le_of_ble_eq_true rfl) ⟨rfl, rfl⟩ ⟨Nat.le_of_ble_eq_true rfl, Nat.le_of_ble_eq_true rfl⟩ ?_
                refine gg_zret dc_M_readsItem_126 rfl it_01 ⟨Nat.le_of_ble_eq_true rfl, Nat.le_of_ble_eq_true rfl⟩ ?_
                by_cases ht9 : tk_I c L 59 (ro_N c L (va_9 c L 1 (o + 1) + 1) 20000 1 (tk_N c L 58 (ro_N c L (-20000) 20000 1 (o + 1)))) = 0
                · rw [ht9]
                  exact pi_f (itE4 h100 ho (by rw [hk]; exact Or.inr (Or.inr rfl)) c_76 c_92 (show ls_I (nx_I c L o) (va_9 c L 1 (o + 1)) = (va_9 c L 1 (o + 1) + 1) by rw [hk]; rfl) (show gs_I (nx_I c L o) = 20000 by rw [hk]; rfl) (show (if nx_I c L o = 108 then 0 else 1) = 1 by rw [hk]; rfl) c_106 ht9) hz4
                · have e5 := itE5 (S := S) (by rw [hk]; exact Or.inr (Or.inr rfl)) c_76 c_92 (show ls_I (nx_I c L o) (va_9 c L 1 (o + 1)) = (va_9 c L 1 (o + 1) + 1) by rw [hk]; rfl) (show gs_I (nx_I c L o) = 20000 by rw [hk]; rfl) (show (if nx_I c L o = 108 then 0 else 1) = 1 by rw [hk]; rfl) c_106 ht9
                  have hE : (it_F c L S o).1 = (tk_N c L 59 (ro_N c L (va_9 c L 1 (o + 1) + 1) 20000 1 (tk_N c L 58 (ro_N c L (-20000) 20000 1 (o + 1)))), -1) := by
                    rw [e5.1, hk]; rfl
                  have hM : im_S c L S o = upd (upd (upd S 18 1) 19 (va_9 c L 1 (o + 1))) 20 (va_9 c L 1 (tk_N c L 58 (ro_N c L (-20000) 20000 1 (o + 1)))) := by
                    unfold im_S; rw [e5.2.1, e5.2.2, hk]; rfl
                  rw [show tk_I c L 59 (ro_N c L (va_9 c L 1 (o + 1) + 1) 20000 1 (tk_N c L 58 (ro_N c L (-20000) 20000 1 (o + 1)))) = 1 from if_pos (tk_1 ht9), hM]
                  exact pi_t hE
              · refine gg_iconst (v := 0) dc_M_readsItem_109 (by decide) ?_
                exact gg_zret dc_M_readsItem_110 rfl (by first | exact Or.inl rfl | exact Or.inr rfl | assumption) ⟨Nat.le_of_ble_eq_true rfl, Nat.le_of_ble_eq_true rfl⟩ (pi_f (itE3 h100 ho (by rw [hk]; exact Or.inr (Or.inr rfl)) c_76 c_92 (show ls_I (nx_I c L o) (va_9 c L 1 (o + 1)) = (va_9 c L 1 (o + 1) + 1) by rw [hk]; rfl) (show gs_I (nx_I c L o) = 20000 by rw [hk]; rfl) (show (if nx_I c L o = 108 then 0 else 1) = 1 by rw [hk]; rfl) c_106) hz3)
          · refine gg_iconst (v := 0) dc_M_readsItem_79 (by decide) ?_
            exact gg_zret dc_M_readsItem_80 rfl (by first | exact Or.inl rfl | exact Or.inr rfl | assumption) ⟨Nat.le_of_ble_eq_true rfl, Nat.le_of_ble_eq_true rfl⟩ (pi_f (itE1 h100 ho (by rw [hk]; exact Or.inr (Or.inr rfl)) c_76) hz1)
        · exact absurd hk c_43
      · refine gg_iconst (v := 0) dc_M_readsItem_28 (by decide) ?_
        exact gg_zret dc_M_readsItem_29 rfl (by first | exact Or.inl rfl | exact Or.inr rfl | assumption) ⟨Nat.le_of_ble_eq_true rfl, Nat.le_of_ble_eq_true rfl⟩ (pi_f (z := o) (by rw [it_c (fun q => q.elim c_13 (fun q => q.elim c_19 c_25))]) (by omega))
