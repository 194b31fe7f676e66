def sh_X (sh : Nat → sh_T) (a : Nat) : Prop := sh a = .inr (.inr (0, [some (some (a + 1)), some (some (a + 2)), some (some (a + 3)), some (some (a + 6)), some (some (a + 9)), none, none, none, none, none, none, none, none, none])) ∧ sh (a + 1) = .inl (0, 6) ∧ sh (a + 2) = .inl (0, 6) ∧ sh_Pt sh (a + 3) ∧ sh_Pt sh (a + 6) ∧ sh_Cm sh (a + 9)
def ax_ix (k : Nat) : Nat := match k with
  | 5 => 18
  | 6 => 19
  | 7 => 20
  | k => k - 2
def ls_P (S : Nat → Int32) (b : Nat) : Nat → Int32 := fun i => S (b + 1 + 2 * i)
def ls_V (S : Nat → Int32) (b : Nat) : Nat → Int32 := fun i => S (b + 2 + 2 * i)
def ls_n (S : Nat → Int32) (b : Nat) : Nat := (S b).toNatClampNeg
/-- a list in memory holds what the row says from its place b on -/
def PR (ν : Nat → Nat → Int32) (q : Nat) (S : Nat → Int32) (b N : Nat) : Prop := ∃ n : Nat, n ≤ N ∧ ν q 2 = nI n ∧ S b = nI n ∧ ∀ i : Nat, i < n → ν (q + 1) i = ls_P S b i ∧ ν (q + 2) i = ls_V S b i
def AX (ν : Nat → Nat → Int32) (a : Nat) (S : Nat → Int32) : Prop := (∀ j : Nat, j < 6 → ν (a + 1) j = S j) ∧ (∀ j : Nat, j < 6 → ν (a + 2) j = S (12 + j)) ∧ (∀ k : Nat, 5 ≤ k → k < 14 → ν a k = S (ax_ix k)) ∧ (S 18 = 0 ∨ S 18 = 1) ∧ PR ν (a + 3) S 21 10 ∧ PR ν (a + 6) S 42 10 ∧ PR ν (a + 9) S 63 8
def fr_P (ν ν' : Nat → Nat → Int32) (a : Nat) : Prop := ∀ b : Nat, (b < a ∨ a + 12 ≤ b) → ν' b = ν b
theorem fr_rf {ν : Nat → Nat → Int32} {a : Nat} : fr_P ν ν a := fun _ _ => rfl
theorem fr_tr {ν ν' ν'' : Nat → Nat → Int32} {a : Nat} (h : fr_P ν ν' a) (h' : fr_P ν' ν'' a) : fr_P ν ν'' a := fun b hb => (h' b hb).trans (h b hb)
theorem fr_up {ν : Nat → Nat → Int32} {a b k : Nat} {v : Int32} (h : a ≤ b ∧ b < a + 12) : fr_P ν (up_2 ν b k v) a := by
  intro c hc
  funext j
  have : ¬ c = b := by omega
  simp [up_2, this]
theorem PR.kept {ν ν' : Nat → Nat → Int32} {q b N : Nat} {S S' : Nat → Int32} (h : PR ν q S b N) (h1 : ν' q 2 = ν q 2) (h2 : ν' (q + 1) = ν (q + 1)) (h3 : ν' (q + 2) = ν (q + 2)) (hS : ∀ j : Nat, b ≤ j → j ≤ b + 2 * N → S' j = S j) : PR ν' q S' b N := by
  obtain ⟨n, g1, g2, g3, g4⟩ := h
  refine ⟨n, g1, by rw [h1]; exact g2, by rw [hS b (by omega) (by omega)]; exact g3, fun i hi => ?_⟩
  rw [h2, h3]
  unfold ls_P ls_V
  rw [hS _ (by omega) (by omega), hS _ (by omega) (by omega)]
  exact g4 i hi
theorem PR.n {ν : Nat → Nat → Int32} {q b N : Nat} {S : Nat → Int32} (h : PR ν q S b N) (hN : N < 2 ^ 31) : ls_n S b ≤ N ∧ ν q 2 = nI (ls_n S b) ∧ S b = nI (ls_n S b) ∧ ∀ i : Nat, i < ls_n S b → ν (q + 1) i = ls_P S b i ∧ ν (q + 2) i = ls_V S b i := by
  obtain ⟨n, g1, g2, g3, g4⟩ := h
  have e : ls_n S b = n := by unfold ls_n; rw [g3, nI_clamp (by omega)]
  rw [e]
  exact ⟨g1, g2, g3, g4⟩
theorem ax_ix_lt {k : Nat} (h5 : 5 ≤ k) (h : k < 14) : (6 ≤ ax_ix k ∧ ax_ix k < 12) ∨ (18 ≤ ax_ix k ∧ ax_ix k < 21) := by
  rcases (show k = 5 ∨ k = 6 ∨ k = 7 ∨ k = 8 ∨ k = 9 ∨ k = 10 ∨ k = 11 ∨ k = 12 ∨ k = 13 by omega) with rfl | rfl | rfl | rfl | rfl | rfl | rfl | rfl | rfl <;> decide
theorem ax_ix_in {k j : Nat} (h5 : 5 ≤ k) (h : k < 14) (h5' : 5 ≤ j) (h' : j < 14) (e : ax_ix k = ax_ix j) : k = j := by
  rcases (show k = 5 ∨ k = 6 ∨ k = 7 ∨ k = 8 ∨ k = 9 ∨ k = 10 ∨ k = 11 ∨ k = 12 ∨ k = 13 by omega) with rfl | rfl | rfl | rfl | rfl | rfl | rfl | rfl | rfl <;> rcases (show j = 5 ∨ j = 6 ∨ j = 7 ∨ j = 8 ∨ j = 9 ∨ j = 10 ∨ j = 11 ∨ j = 12 ∨ j = 13 by omega) with rfl | rfl | rfl | rfl | rfl | rfl | rfl | rfl | rfl <;> first | rfl | exact absurd e (by decide)
theorem u2_ne {ν : Nat → Nat → Int32} {b k c : Nat} {v : Int32} (h : c ≠ b) : up_2 ν b k v c = ν c := by
  funext j; simp [up_2, h]
theorem u2_eq {ν : Nat → Nat → Int32} {b k : Nat} {v : Int32} : up_2 ν b k v b = upd (ν b) k v := by
  funext j; simp [up_2, upd]
theorem ud_ne {S : Nat → Int32} {k j : Nat} {v : Int32} (h : j ≠ k) : upd S k v j = S j := by simp [upd, h]
theorem ud_eq {S : Nat → Int32} {k : Nat} {v : Int32} : upd S k v k = v := by simp [upd]
/-- a scalar of the axis -/
theorem AX.sc {ν : Nat → Nat → Int32} {a k : Nat} {S : Nat → Int32} {v : Int32} (h : AX ν a S) (h5 : 5 ≤ k) (h14 : k < 14) (hz : k = 5 → v = 0 ∨ v = 1) : AX (up_2 ν a k v) a (upd S (ax_ix k) v) := by
  obtain ⟨g1, g2, g3, g4, g5, g6, g7⟩ := h
  have hi := ax_ix_lt h5 h14
  refine ⟨fun j hj => ?_, fun j hj => ?_, fun j hj hj' => ?_, ?_, ?_, ?_, ?_⟩
  · rw [u2_ne (by omega), ud_ne (by omega)]; exact g1 j hj
  · rw [u2_ne (by omega), ud_ne (by omega)]; exact g2 j hj
  · rw [u2_eq]
    by_cases e : j = k
    · subst e; rw [ud_eq, ud_eq]
    · rw [ud_ne e, ud_ne (fun q => e (ax_ix_in hj hj' h5 h14 q))]; exact g3 j hj hj'
  · by_cases e : k = 5
    · subst e
      show upd S 18 v 18 = 0 ∨ upd S 18 v 18 = 1
      rw [ud_eq]; exact hz rfl
    · rw [ud_ne (show 18 ≠ ax_ix k from fun q => e (ax_ix_in h5 h14 (by omega) (by omega) q.symm))]; exact g4
  · exact g5.kept (by rw [u2_ne (by omega)]) (u2_ne (by omega)) (u2_ne (by omega)) (fun j _ _ => ud_ne (by omega))
  · exact g6.kept (by rw [u2_ne (by omega)]) (u2_ne (by omega)) (u2_ne (by omega)) (fun j _ _ => ud_ne (by omega))
  · exact g7.kept (by rw [u2_ne (by omega)]) (u2_ne (by omega)) (u2_ne (by omega)) (fun j _ _ => ud_ne (by omega))
/-- a number of setNumber -/
theorem AX.nu {ν : Nat → Nat → Int32} {a k : Nat} {S : Nat → Int32} {v : Int32} (h : AX ν a S) (hk : k < 6) : AX (up_2 ν (a + 1) k v) a (upd S k v) := by
  obtain ⟨g1, g2, g3, g4, g5, g6, g7⟩ := h
  refine ⟨fun j hj => ?_, fun j hj => ?_, fun j hj hj' => ?_, ?_, ?_, ?_, ?_⟩
  · rw [u2_eq]
    by_cases e : j = k
    · subst e; rw [ud_eq, ud_eq]
    · rw [ud_ne e, ud_ne e]; exact g1 j hj
  · rw [u2_ne (by omega), ud_ne (by omega)]; exact g2 j hj
  · have := ax_ix_lt hj hj'
    rw [u2_ne (by omega), ud_ne (by omega)]; exact g3 j hj hj'
  · rw [ud_ne (by omega)]; exact g4
  · exact g5.kept (by rw [u2_ne (by omega)]) (u2_ne (by omega)) (u2_ne (by omega)) (fun j _ _ => ud_ne (by omega))
  · exact g6.kept (by rw [u2_ne (by omega)]) (u2_ne (by omega)) (u2_ne (by omega)) (fun j _ _ => ud_ne (by omega))
  · exact g7.kept (by rw [u2_ne (by omega)]) (u2_ne (by omega)) (u2_ne (by omega)) (fun j _ _ => ud_ne (by omega))
/-- an account -/
theorem AX.ac {ν : Nat → Nat → Int32} {a k : Nat} {S : Nat → Int32} {v : Int32} (h : AX ν a S) (hk : k < 6) : AX (up_2 ν (a + 2) k v) a (upd S (12 + k) v) := by
  obtain ⟨g1, g2, g3, g4, g5, g6, g7⟩ := h
  refine ⟨fun j hj => ?_, fun j hj => ?_, fun j hj hj' => ?_, ?_, ?_, ?_, ?_⟩
  · rw [u2_ne (by omega), ud_ne (by omega)]; exact g1 j hj
  · rw [u2_eq]
    by_cases e : j = k
    · subst e; rw [ud_eq, ud_eq]
    · rw [ud_ne e, ud_ne (by omega)]; exact g2 j hj
  · have := ax_ix_lt hj hj'
    rw [u2_ne (by omega), ud_ne (by omega)]; exact g3 j hj hj'
  · rw [ud_ne (by omega)]; exact g4
  · exact g5.kept (by rw [u2_ne (by omega)]) (u2_ne (by omega)) (u2_ne (by omega)) (fun j _ _ => ud_ne (by omega))
  · exact g6.kept (by rw [u2_ne (by omega)]) (u2_ne (by omega)) (u2_ne (by omega)) (fun j _ _ => ud_ne (by omega))
  · exact g7.kept (by rw [u2_ne (by omega)]) (u2_ne (by omega)) (u2_ne (by omega)) (fun j _ _ => ud_ne (by omega))
theorem AX.fr {ν ν' : Nat → Nat → Int32} {a b : Nat} {S : Nat → Int32} (h : AX ν b S) (hf : ∀ c : Nat, b ≤ c → c < b + 12 → ν' c = ν c) : AX ν' b S := by
  obtain ⟨g1, g2, g3, g4, g5, g6, g7⟩ := h
  refine ⟨fun j hj => ?_, fun j hj => ?_, fun j hj hj' => ?_, g4, ?_, ?_, ?_⟩
  · rw [hf _ (by omega) (by omega)]; exact g1 j hj
  · rw [hf _ (by omega) (by omega)]; exact g2 j hj
  · rw [hf _ (by omega) (by omega)]; exact g3 j hj hj'
  · exact g5.kept (by rw [hf _ (by omega) (by omega)]) (hf _ (by omega) (by omega)) (hf _ (by omega) (by omega)) (fun _ _ _ => rfl)
  · exact g6.kept (by rw [hf _ (by omega) (by omega)]) (hf _ (by omega) (by omega)) (hf _ (by omega) (by omega)) (fun _ _ _ => rfl)
  · exact g7.kept (by rw [hf _ (by omega) (by omega)]) (hf _ (by omega) (by omega)) (hf _ (by omega) (by omega)) (fun _ _ _ => rfl)
theorem ut_cg {P P' : Nat → Int32} {x : Int32} : ∀ (d i : Nat), (∀ j : Nat, i ≤ j → j < i + d → P j = P' j) → ut_N P x d i = ut_N P' x d i
  | 0, i, _ => rfl
  | d + 1, i, h => by
    show (if P i ≤ x then ut_N P x d (i + 1) else i) = (if P' i ≤ x then ut_N P' x d (i + 1) else i)
    rw [h i (by omega) (by omega), ut_cg d (i + 1) (fun j h1 h2 => h j (by omega) (by omega))]
theorem PR.ut {ν : Nat → Nat → Int32} {q b N : Nat} {S : Nat → Int32} {x : Int32} (h : PR ν q S b N) (hN : N < 2 ^ 31) : ut_N (ν (q + 1)) x (ls_n S b) 0 = ut_N (ls_P S b) x (ls_n S b) 0 := ut_cg _ _ (fun j _ hj => ((h.n hN).2.2.2 j (by omega)).1)
theorem PR.pk {ν : Nat → Nat → Int32} {q b N : Nat} {S : Nat → Int32} {x d : Int32} (h : PR ν q S b N) (hN : N < 2 ^ 31) : pk_I (ut_N (ν (q + 1)) x (ls_n S b) 0) (ν (q + 2)) d = pk_I (ut_N (ls_P S b) x (ls_n S b) 0) (ls_V S b) d := by
  rw [h.ut hN]
  have h1 := (ut_le (ls_P S b) x (ls_n S b) 0).2
  generalize ut_N (ls_P S b) x (ls_n S b) 0 = u at h1
  cases u with
  | zero => rfl
  | succ k => exact ((h.n hN).2.2.2 k (by omega)).2
theorem PR.pp {ν : Nat → Nat → Int32} {q b N : Nat} {S : Nat → Int32} {x d : Int32} (h : PR ν q S b N) (hN : N < 2 ^ 31) : pk_I (ut_N (ν (q + 1)) x (ls_n S b) 0) (ν (q + 1)) d = pk_I (ut_N (ls_P S b) x (ls_n S b) 0) (ls_P S b) d := by
  rw [h.ut hN]
  have h1 := (ut_le (ls_P S b) x (ls_n S b) 0).2
  generalize ut_N (ls_P S b) x (ls_n S b) 0 = u at h1
  cases u with
  | zero => rfl
  | succ k => exact ((h.n hN).2.2.2 k (by omega)).1
theorem PR.ha {ν : Nat → Nat → Int32} {q b N : Nat} {S : Nat → Int32} {x : Int32} (h : PR ν q S b N) (hN : N < 2 ^ 31) : ha_N (ut_N (ν (q + 1)) x (ls_n S b) 0) (ν (q + 1)) x = ha_N (ut_N (ls_P S b) x (ls_n S b) 0) (ls_P S b) x := by
  rw [h.ut hN]
  have h1 := (ut_le (ls_P S b) x (ls_n S b) 0).2
  generalize ut_N (ls_P S b) x (ls_n S b) 0 = u at h1
  cases u with
  | zero => rfl
  | succ k => rw [ha_s, ha_s, ((h.n hN).2.2.2 k (by omega)).1]
theorem PR.vb {ν : Nat → Nat → Int32} {q b N : Nat} {S : Nat → Int32} {x : Int32} (h : PR ν q S b N) (hN : N < 2 ^ 31) : vb_I (ut_N (ν (q + 1)) x (ls_n S b) 0) (ls_n S b) (ν (q + 1)) (ν (q + 2)) x = vb_I (ut_N (ls_P S b) x (ls_n S b) 0) (ls_n S b) (ls_P S b) (ls_V S b) x := by
  rw [h.ut hN]
  have h1 := (ut_le (ls_P S b) x (ls_n S b) 0).2
  generalize ut_N (ls_P S b) x (ls_n S b) 0 = u at h1
  cases u with
  | zero =>
    rw [vb_0, vb_0]
    by_cases e : ls_n S b = 0
    · rw [if_pos e, if_pos e]
    · rw [if_neg e, if_neg e, ((h.n hN).2.2.2 0 (by omega)).2]
  | succ k =>
    rw [vb_s, vb_s, ((h.n hN).2.2.2 k (by omega)).2, ((h.n hN).2.2.2 k (by omega)).1]
    by_cases e : ls_n S b ≤ k + 1
    · rw [if_pos e, if_pos e]
    · rw [if_neg e, if_neg e, ((h.n hN).2.2.2 (k + 1) (by omega)).2, ((h.n hN).2.2.2 (k + 1) (by omega)).1]
/-- a call on an axis: what it answers, what its row is then -/
def ax_Q (τ : Nat × (Nat → sh_T)) (ν : Nat → Nat → Int32) (a : Nat) (r : Option Value) (S' : Nat → Int32) : Option Value → mm_T → Prop := fun v μ' => ∃ ν' : Nat → Nat → Int32, v = r ∧ μ' = (τ, ν') ∧ AX ν' a S' ∧ fr_P ν ν' a
section RULES3
variable {Γ : cx_T} {K : mt_K} {Q : Option Value → mm_T → Prop} {cs sl pc nx : Nat} {L : List (Option Value)} {st : List Value} {τ : Nat × (Nat → sh_T)} {ν ν0 : Nat → Nat → Int32} {S : Nat → Int32}
theorem gx_axi {idx k s a : Nat} {fl : List (Option (Option Nat))} (hd : decode K.2.1 pc = .ok (.getfield idx, 3) ∧ pc + 3 = nx) (hf : lf_P K.1.cls idx 0 k) (hs : τ.2 a = .inr (.inr (0, fl))) (hX : AX ν a S) (hk : fl[k]? = some none) (h5 : 5 ≤ k ∧ k < 14) (hks : ax_ix k = s) (kk : gg_P Γ K Q cs sl nx L (.int (S s) :: st) (τ, ν)) : gg_P Γ K Q cs sl pc L (.ref a :: st) (τ, ν) := by
  refine gx_geti hd hf hs hk ?_
  rw [hX.2.2.1 k h5.1 h5.2, hks]
  exact kk
theorem gx_axp {idx k s a : Nat} {z : Bool} {v : Int32} {fl : List (Option (Option Nat))} (hd : decode K.2.1 pc = .ok (.putfield idx, 3) ∧ pc + 3 = nx) (hf : lp_P K.1.cls idx 0 k z) (hs : τ.2 a = .inr (.inr (0, fl))) (hX : AX ν a S) (hF : fr_P ν0 ν a) (hk : fl[k]? = some none) (h5 : 5 ≤ k ∧ k < 14) (hks : ax_ix k = s) (hz : (z = false ∧ k ≠ 5) ∨ v = 0 ∨ v = 1) (kk : ∀ ν' : Nat → Nat → Int32, AX ν' a (upd S s v) → fr_P ν0 ν' a → gg_P Γ K Q cs sl nx L st (τ, ν')) : gg_P Γ K Q cs sl pc L (.int v :: .ref a :: st) (τ, ν) := by
  refine gg_put0 hd hf hs hk (hz.elim (fun h => Or.inl h.1) Or.inr) ?_
  subst hks
  exact kk _ (hX.sc h5.1 h5.2 (fun e => hz.elim (fun h => absurd e h.2) id)) (fr_tr hF (fr_up (by omega)))
theorem gx_callA {K' : mt_K} {idx b ci : Nat} {fl : List (Option (Option Nat))} {As rest : List Value} {r : Option Value} {S' : Nat → Int32} (hM : mt_P Γ K' (.ref b :: As) (τ, ν) (ax_Q τ ν b r S')) (hF : fr_P ν0 ν b) (hd : decode K.2.1 pc = .ok (.invokevirtual idx, 3) ∧ pc + 3 = nx) (hml9 : Cond.methodLink K.1.cls idx K'.1 ∈ wd_all) (hce : ce_V K' As.length) (hrm : rm_le K K') (hs : τ.2 b = .inr (.inr (ci, fl))) (hci : (vwCl[ci]?).map (fun r => r.1) = some K'.1.cls) (hst : st = As.reverse ++ .ref b :: rest) (hrs : (rest.map fun v => v.category).sum ≤ 8) (h0 : (mt_rm K').cells = 0 ∧ (mt_rm K').slots = 0) (hcs : cs ≤ (mt_rm K).cells ∧ sl ≤ (mt_rm K).slots) (kk : ∀ ν' : Nat → Nat → Int32, AX ν' b S' → fr_P ν0 ν' b → gg_P Γ K Q cs sl nx L (r.toList ++ rest) (τ, ν')) : gg_P Γ K Q cs sl pc L st (τ, ν) := by
  refine gg_callV hM hd hml9 hce hrm hs hci hst hrs ⟨by rw [h0.1]; exact hcs.1, by rw [h0.2]; exact hcs.2⟩ ?_
  rintro v μ' ⟨ν', rfl, rfl, hX', hF'⟩
  rw [h0.1, h0.2]
  exact kk ν' hX' (fr_tr hF hF')
end RULES3
