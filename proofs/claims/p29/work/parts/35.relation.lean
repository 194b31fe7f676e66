theorem AX.eq {ν : Nat → Nat → Int32} {a : Nat} {S T : Nat → Int32} (h : AX ν a S) (e : ∀ j : Nat, j < 80 → T j = S j) : AX ν a T := by
  obtain ⟨g1, g2, g3, g4, g5, g6, g7⟩ := h
  have hp : ∀ (q b N : Nat), b + 2 * N < 80 → PR ν q S b N → PR ν q T b N := fun q b N hN h => h.kept rfl rfl rfl (fun j h1 h2 => e j (by omega))
  refine ⟨fun j hj => by rw [e j (by omega)]; exact g1 j hj, fun j hj => by rw [e _ (by omega)]; exact g2 j hj, fun k h5 h14 => ?_, by rw [e 18 (by omega)]; exact g4, hp _ _ _ (by omega) g5, hp _ _ _ (by omega) g6, hp _ _ _ (by omega) g7⟩
  have := ax_ix_lt h5 h14
  rw [e _ (by omega)]; exact g3 k h5 h14
/-- what the class holds in its 126 cells is what the reference holds -/
def RL (ν : Nat → Nat → Int32) (f : Nat) (X : Nat → Nat → Int32) : Prop := AX ν (f + 1) (X 1) ∧ (ν f 3 = X 0 4 ∧ ∃ q : Nat, q < 4 ∧ X 0 4 = nI q) ∧ (∀ i : Nat, i < 2 → ¬ X 0 4 >>> (nI i &&& 31) &&& 1 = 0 → AX ν (f + 26 + 12 * i) (fun j => X 3 (80 * i + j))) ∧ (∃ k n : Nat, (k < 6 ∧ n ≤ 6) ∧ ν (f + 50) 1 = nI k ∧ ν (f + 50) 2 = nI n ∧ X 0 2 = nI n ∧ ∀ j : Nat, j < n → AX ν (f + 52 + 12 * ((k + 6 - n + j) % 6)) (fun i => X 2 (80 * j + i))) ∧ ∃ L : Nat, ν (f + 124) 1 = nI L ∧ TR X (ν (f + 125)) L
def RF (ν0 : Nat → Nat → Int32) (f : Nat) (X ν : Nat → Nat → Int32) : Prop := RL ν f X ∧ ∀ c : Nat, (c < f ∨ f + 126 ≤ c) → ν c = ν0 c
theorem RF.ax {ν0 ν X : Nat → Nat → Int32} {f : Nat} (h : RF ν0 f X ν) : AX ν (f + 1) (X 1) := h.1.1
theorem RF.tr {ν0 ν ν' X : Nat → Nat → Int32} {f : Nat} (h : RF ν0 f X ν) (hF : fr_P ν ν' (f + 13)) : RF ν0 f X ν' := by
  obtain ⟨⟨h1, h2, h3, ⟨k, n, hk, g1, g2, g3, g4⟩, L, hL, hT⟩, h6⟩ := h
  refine ⟨⟨h1.fr (a := 0) fun c p q => hF c (by omega), by rw [hF f (by omega)]; exact h2, fun i hi hb => (h3 i hi hb).fr (a := 0) fun c p q => hF c (by omega), ⟨k, n, hk, by rw [hF _ (by omega)]; exact g1, by rw [hF _ (by omega)]; exact g2, g3, fun j hj => (g4 j hj).fr (a := 0) fun c p q => hF c (by omega)⟩, L, by rw [hF _ (by omega)]; exact hL, by rw [hF _ (by omega)]; exact hT⟩, fun c hc => by rw [hF c (by omega)]; exact h6 c hc⟩
theorem RF.row {ν0 ν ν' X : Nat → Nat → Int32} {f : Nat} {S : Nat → Int32} (h : RF ν0 f X ν) (hX : AX ν' (f + 1) S) (hF : fr_P ν ν' (f + 1)) : RF ν0 f (va_up X 1 S) ν' := by
  obtain ⟨⟨h1, h2, h3, ⟨k, n, hk, g1, g2, g3, g4⟩, L, hL, hT⟩, h6⟩ := h
  refine ⟨⟨hX, by rw [hF f (by omega)]; exact h2, fun i hi hb => (h3 i hi hb).fr (a := 0) fun c p q => hF c (by omega), ⟨k, n, hk, by rw [hF _ (by omega)]; exact g1, by rw [hF _ (by omega)]; exact g2, g3, fun j hj => (g4 j hj).fr (a := 0) fun c p q => hF c (by omega)⟩, L, by rw [hF _ (by omega)]; exact hL, by rw [hF _ (by omega)]; exact hT⟩, fun c hc => by rw [hF c (by omega)]; exact h6 c hc⟩
theorem RF.id {ν X : Nat → Nat → Int32} {f : Nat} (h : RL ν f X) : RF ν f X ν := ⟨h, fun _ _ => rfl⟩
theorem RF.PS {ν0 ν X : Nat → Nat → Int32} {f : Nat} (h : RF ν0 f X ν) : PS X := by
  obtain ⟨k, n, hk, g1, g2, g3, g4⟩ := h.1.2.2.2.1
  exact ⟨n, hk.2, g3⟩
/-- a state pushed -/
theorem sp_F_push {Γ : cx_T} {τ : Nat × (Nat → sh_T)} {ν0 ν X : Nat → Nat → Int32} {f : Nat} (hf : sh_F τ.2 f) (h : RF ν0 f X ν) : mt_P Γ mk_S_push [.ref (f + 50), .ref (f + 1)] (τ, ν) (fun v μ' => ∃ ν' : Nat → Nat → Int32, v = none ∧ μ' = (τ, ν') ∧ RF ν0 f (nt_X X) ν' ∧ ∀ c : Nat, c < f + 50 → ν' c = ν c) := by
  obtain ⟨⟨h1, h2, h3, ⟨k, n, hk, g1, g2, g3, g4⟩, L, hL, hT⟩, h6⟩ := h
  have hp := sp_S_push (Γ := Γ) (S := X 1) hf.2.2.2.2.2.1 g1 hk.1 g2 hk.2 hf.2.1 (by omega) h1
  refine mt_imp hp ?_
  rintro v μ' ⟨ν', rfl, rfl, a1, a2, a3, a4⟩
  have e1 : nt_X X 1 = X 1 := nt_o (by omega) (by omega)
  have e3 : nt_X X 3 = X 3 := nt_o (by omega) (by omega)
  have e5 : nt_X X 5 = X 5 := nt_o (by omega) (by omega)
  have e04 : nt_X X 0 4 = X 0 4 := nt_j (by omega)
  have e07 : nt_X X 0 7 = X 0 7 := nt_j (by omega)
  have hfr : ∀ c : Nat, c < f + 50 → ν' c = ν c := fun c hc => a4 c (by omega) (by omega)
  refine ⟨ν', rfl, rfl, ⟨⟨?_, ?_, ?_, ⟨(k + 1) % 6, if n < 6 then n + 1 else 6, ?_, a2, a3, ?_, ?_⟩, L, ?_, ?_⟩, fun c hc => ?_⟩, hfr⟩
  · rw [e1]; exact h1.fr (a := 0) fun c p q => hfr c (by omega)
  · rw [e04, hfr f (by omega)]; exact h2
  · rw [e04, e3]; exact fun i hi hb => (h3 i hi hb).fr (a := 0) fun c p q => hfr c (by omega)
  · by_cases c : n < 6
    · rw [if_pos c]; omega
    · rw [if_neg c]; omega
  · unfold nt_X
    by_cases c : X 0 2 = 6
    · have : n = 6 := (nI_eq (b := 6) (by omega) (by omega)).mp (g3.symm.trans c)
      rw [if_pos c, if_neg (by omega)]; rfl
    · have : ¬ n = 6 := fun q => c (by rw [g3, q]; rfl)
      rw [if_neg c, if_pos (by omega)]
      show X 0 2 + 1 = _
      rw [g3, nI_1]
  · intro j hj
    unfold nt_X
    by_cases c : X 0 2 = 6
    · have hn : n = 6 := (nI_eq (b := 6) (by omega) (by omega)).mp (g3.symm.trans c)
      subst hn
      rw [if_pos c]
      rw [if_neg (by omega)] at hj ⊢
      by_cases hj5 : j = 5
      · subst hj5
        rw [show ((k + 1) % 6 + 6 - 6 + 5) % 6 = k by omega]
        refine a1.eq fun i hi => ?_
        show pa_N _ 400 (X 1) 80 (80 * 5 + i) = X 1 i
        unfold pa_N
        rw [if_pos (by omega), show 80 * 5 + i - 400 = i by omega]
      · have h9 := g4 (j + 1) (by omega)
        rw [show (k + 6 - 6 + (j + 1)) % 6 = ((k + 1) % 6 + 6 - 6 + j) % 6 by omega] at h9
        refine (h9.fr (a := 0) fun c p q => a4 c (by omega) ?_).eq fun i hi => ?_
        · have : ¬ ((k + 1) % 6 + 6 - 6 + j) % 6 = k := by omega
          omega
        · show pa_N (cp_N (fun k => X 2 (k + 80)) (X 2) 400) 400 (X 1) 80 (80 * j + i) = X 2 (80 * (j + 1) + i)
          unfold pa_N cp_N
          rw [if_neg (by omega), if_pos (by omega)]
          show X 2 (80 * j + i + 80) = _
          rw [show 80 * j + i + 80 = 80 * (j + 1) + i by omega]
    · have hn : ¬ n = 6 := fun q => c (by rw [g3, q]; rfl)
      rw [if_neg c]
      rw [if_pos (by omega)] at hj ⊢
      have hcl : (X 0 2).toNatClampNeg = n := by rw [g3, nI_clamp (by omega)]
      by_cases hjn : j = n
      · subst hjn
        rw [show ((k + 1) % 6 + 6 - (j + 1) + j) % 6 = k by omega]
        refine a1.eq fun i hi => ?_
        show pa_N (X 2) (80 * (X 0 2).toNatClampNeg) (X 1) 80 (80 * j + i) = X 1 i
        rw [hcl]
        unfold pa_N
        rw [if_pos (by omega), show 80 * j + i - 80 * j = i by omega]
      · have h9 := g4 j (by omega)
        rw [show (k + 6 - n + j) % 6 = ((k + 1) % 6 + 6 - (n + 1) + j) % 6 by omega] at h9
        refine (h9.fr (a := 0) fun c p q => a4 c (by omega) ?_).eq fun i hi => ?_
        · have : ¬ ((k + 1) % 6 + 6 - (n + 1) + j) % 6 = k := by omega
          omega
        · show pa_N (X 2) (80 * (X 0 2).toNatClampNeg) (X 1) 80 (80 * j + i) = X 2 (80 * j + i)
          rw [hcl]
          unfold pa_N
          rw [if_neg (by omega)]
  · rw [a4 _ (by omega) (by omega)]; exact hL
  · rw [a4 _ (by omega) (by omega)]
    exact ⟨by rw [e07]; exact hT.1, hT.2.1, fun i hi => by rw [e5]; exact hT.2.2 i hi⟩
  · rw [a4 c (by omega) (by omega)]; exact h6 c hc
