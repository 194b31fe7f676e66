/-! THE PURE JUDGEMENT: 'gg_P' says of a method's frame, in pure words (numbers of cells, what they are, the ints that they hold), that the machine goes on from there to a return with the post. A rule an instruction; the machine's own state stands in the definitions alone. -/
abbrev mt_K : Type := MethodName × ByteArray × Nat × Option FieldType × Room
abbrev sh_T : Type := (Nat × Nat) ⊕ ((Nat × (Nat → Option Nat)) ⊕ (Nat × List (Option (Option Nat))))
abbrev mm_T : Type := (Nat × (Nat → sh_T)) × (Nat → Nat → Int32)
abbrev cx_T : Type := Launch × va_G × (ClassId × ClassId × ClassId) × (Nat × Nat × Nat)
abbrev cx_lo (Γ : cx_T) : Nat := Γ.2.2.2.1
abbrev cx_aL (Γ : cx_T) : Nat := Γ.2.2.2.2.1
abbrev cx_aG (Γ : cx_T) : Nat := Γ.2.2.2.2.2
abbrev cx_cI (Γ : cx_T) : ClassId := Γ.2.2.1.1
abbrev cx_cB (Γ : cx_T) : ClassId := Γ.2.2.1.2.1
abbrev cx_cA (Γ : cx_T) : ClassId := Γ.2.2.1.2.2
abbrev cx_tys (Γ : cx_T) : List (ClassId × FieldType) := [(cx_cI Γ, .int), (cx_cI Γ, .int), (cx_cA Γ, .object "FeedAxis$Axis")]
abbrev mt_rm (K : mt_K) : Room := K.2.2.2.2
def wd_all : List Cond := lw_tbl.filter goodWord
theorem wd_i (i : Nat) {w : Cond} (h : lw_tbl[i]? = some w ∧ goodWord w = true) : w ∈ wd_all := List.mem_filter.mpr ⟨List.mem_of_getElem? h.1, h.2⟩
def wd_K (K : mt_K) : List Cond := Cond.code K.1 K.2.1 K.2.2.1 K.2.2.2.1 :: wd_all
theorem wd_good {K' : mt_K} (h : Cond.code K'.1 K'.2.1 K'.2.2.1 K'.2.2.2.1 ∈ wd_all) : GoodIn wd_all (wd_K K') := by
  intro w hw
  rcases List.mem_cons.mp hw with rfl | hw
  · exact ⟨h, good_of_word (List.mem_filter.mp h).2⟩
  · exact ⟨hw, good_of_word (List.mem_filter.mp hw).2⟩
theorem wd_goodI {w : Cond} (h : w ∈ wd_all) : (w.onTables && w.keeps) = true ∨ ∃ ty, w = .arrayClass ty := good_of_word (List.mem_filter.mp h).2
def fv_l (g : Nat → Int32) : Nat → List (Option (Option Nat)) → List Value
  | _, [] => []
  | k, none :: r => Value.int (g k) :: fv_l g (k + 1) r
  | k, some x :: r => va_rf x :: fv_l g (k + 1) r
def up_2 (ν : Nat → Nat → Int32) (a j : Nat) (v : Int32) : Nat → Nat → Int32 := fun b k => if b = a ∧ k = j then v else ν b k
def cl_at (Γ : cx_T) (a : Nat) (s : sh_T) (g : Nat → Int32) (U : State) (H : Heap) : Prop := match s with
  | .inl (0, n) => H[a]? = some (arrV (cx_cI Γ) n (fun j => .int (g j))) ∧ cx_lo Γ ≤ a
  | .inl (1, n) => H[a]? = some (arrV (cx_cB Γ) n (fun j => .int (g j))) ∧ cx_lo Γ ≤ a
  | .inl (2, n) => va_T .int a n (fun j => .int (g j)) (fun q => cx_lo Γ ≤ q) U H
  | .inl (_, _) => True
  | .inr (.inl (n, f)) => H[a]? = some (arrV (cx_cA Γ) n (fun j => va_rf (f j))) ∧ cx_lo Γ ≤ a
  | .inr (.inr (ci, fl)) => (∃ r : vw_C, vwCl[ci]? = some r ∧ t_OB a (Γ.2.1.1 ci) r.2.2 (Γ.2.1.2 ci) H (vp_V (fv_l g 0 fl))) ∧ cx_lo Γ ≤ a
def wm_P (Γ : cx_T) (μ : mm_T) (U : State) (H : Heap) : Prop :=
  va_K Γ.2.1 vwCl (cx_tys Γ) U ∧ va_Z "FeedAxis$Axis" "LEAST" "[I" (.ref (cx_aL Γ)) (fun q => cx_lo Γ ≤ q) U H ∧ va_Z "FeedAxis$Axis" "GREATEST" "[I" (.ref (cx_aG Γ)) (fun q => cx_lo Γ ≤ q) U H ∧ H.size = μ.1.1 ∧ cx_lo Γ ≤ μ.1.1 ∧ ∀ a : Nat, cl_at Γ a (μ.1.2 a) (μ.2 a) U H
def ex_w : Cond := .methodLinkNest "FeedAxis$Axis" 123 ⟨"FeedAxis", "isPlace", "(I)Z"⟩ "FeedAxis"
/-- two words of the tables that are no words of a list: they go along -/
def ex_P (U : State) : Prop := va_AO "FeedAxis$Axis" U ∧ va_Nw ex_w U
theorem ex_warm {s U : State} (hW : s.WarmedH U.vm) (h : ex_P s) : ex_P U := ⟨va_AO.moved hW.alike h.1, va_Nw.warmM hW h.2⟩
theorem cl_kept {Γ : cx_T} {a : Nat} {s : sh_T} {g : Nat → Int32} {U : State} {H H1 : Heap} (h : cl_at Γ a s g U H) (hq : H1[a]? = H[a]?) : cl_at Γ a s g U H1 := by
  unfold cl_at at h ⊢
  split at h
  · exact ⟨by rw [hq]; exact h.1, h.2⟩
  · exact ⟨by rw [hq]; exact h.1, h.2⟩
  · obtain ⟨cell, h1, h2⟩ := h
    exact ⟨cell, by rw [hq]; exact h1, h2⟩
  · trivial
  · exact ⟨by rw [hq]; exact h.1, h.2⟩
  · obtain ⟨⟨r, h1, h2⟩, h3⟩ := h
    exact ⟨⟨r, h1, h2.kept hq⟩, h3⟩
theorem cl_moved {Γ : cx_T} {a : Nat} {s : sh_T} {g : Nat → Int32} {u U : State} {H : Heap} (hvm : u.vm.Alike U.vm) (h : cl_at Γ a s g u H) : cl_at Γ a s g U H := by
  unfold cl_at at h ⊢
  split at h
  · exact h
  · exact h
  · exact va_T.moved hvm h
  · trivial
  · exact h
  · exact h
theorem wm_moved {Γ : cx_T} {μ : mm_T} {u U : State} {H : Heap} (hvm : u.vm.Alike U.vm) (h : wm_P Γ μ u H) : wm_P Γ μ U H :=
  ⟨va_K.moved hvm h.1, va_Z.moved hvm h.2.1, va_Z.moved hvm h.2.2.1, h.2.2.2.1, h.2.2.2.2.1, fun a => cl_moved hvm (h.2.2.2.2.2 a)⟩
/-- one old cell written -/
theorem wm_put {Γ : cx_T} {τ : Nat × (Nat → sh_T)} {ν ν' : Nat → Nat → Int32} {U : State} {H H1 : Heap} {a : Nat} (h : wm_P Γ (τ, ν) U H) (hs : H1.size = H.size) (ho : ∀ q, q ≠ a → H1[q]? = H[q]?) (hlo : cx_lo Γ ≤ a) (hν : ∀ b, b ≠ a → ν' b = ν b) (hc : cl_at Γ a (τ.2 a) (ν' a) U H1) : wm_P Γ (τ, ν') U H1 := by
  obtain ⟨h1, h2, h3, h4, h5, h6⟩ := h
  have hk : ∀ b : Nat, b < H.size → ¬ (cx_lo Γ ≤ b) → H1[b]? = H[b]? := fun b _ hb => ho b (fun e => hb (by rw [e]; exact hlo))
  refine ⟨h1, h2.kept hk, h3.kept hk, by rw [hs]; exact h4, h5, fun b => ?_⟩
  by_cases hb : b = a
  · subst hb; exact hc
  · show cl_at Γ b (τ.2 b) (ν' b) U H1
    rw [hν b hb]
    exact cl_kept (h6 b) (ho b hb)
/-- one old cell written, its shape too (constructors) -/
theorem wm_putS {Γ : cx_T} {τ : Nat × (Nat → sh_T)} {ν : Nat → Nat → Int32} {U : State} {H H1 : Heap} {a : Nat} {s : sh_T} (h : wm_P Γ (τ, ν) U H) (hs : H1.size = H.size) (ho : ∀ q, q ≠ a → H1[q]? = H[q]?) (hlo : cx_lo Γ ≤ a) (hc : cl_at Γ a s (ν a) U H1) : wm_P Γ ((τ.1, va_up τ.2 a s), ν) U H1 := by
  obtain ⟨h1, h2, h3, h4, h5, h6⟩ := h
  have hk : ∀ b : Nat, b < H.size → ¬ (cx_lo Γ ≤ b) → H1[b]? = H[b]? := fun b _ hb => ho b (fun e => hb (by rw [e]; exact hlo))
  refine ⟨h1, h2.kept hk, h3.kept hk, by rw [hs]; exact h4, h5, fun b => ?_⟩
  show cl_at Γ b (va_up τ.2 a s b) (ν b) U H1
  by_cases hb : b = a
  · subst hb; rw [va_up_self]; exact hc
  · rw [va_up_ne _ _ hb]
    exact cl_kept (h6 b) (ho b hb)
/-- a new cell at the end -/
theorem wm_new {Γ : cx_T} {τ : Nat × (Nat → sh_T)} {ν : Nat → Nat → Int32} {U : State} {H H1 : Heap} {s : sh_T} {g : Nat → Int32} (h : wm_P Γ (τ, ν) U H) (hs : H1.size = H.size + 1) (ho : ∀ q, q < H.size → H1[q]? = H[q]?) (hc : cl_at Γ τ.1 s g U H1) : wm_P Γ ((τ.1 + 1, va_up τ.2 τ.1 s), va_up ν τ.1 g) U H1 := by
  obtain ⟨h1, h2, h3, h4, h5, h6⟩ := h
  have hk : ∀ b : Nat, b < H.size → ¬ (cx_lo Γ ≤ b) → H1[b]? = H[b]? := fun b hb _ => ho b hb
  have h4' : H.size = τ.1 := h4
  refine ⟨h1, h2.kept hk, h3.kept hk, by show H1.size = τ.1 + 1; rw [hs, h4'], Nat.le_trans h5 (Nat.le_succ _), fun b => ?_⟩
  show cl_at Γ b (va_up τ.2 τ.1 s b) (va_up ν τ.1 g b) U H1
  by_cases hb : b = τ.1
  · subst hb; rw [va_up_self, va_up_self]; exact hc
  · rw [va_up_ne _ _ hb, va_up_ne _ _ hb]
    have h7 := h6 b
    by_cases hlt : b < H.size
    · exact cl_kept h7 (ho b hlt)
    · have hno : H[b]? = none := by simp; omega
      have h8 : cl_at Γ b (τ.2 b) (ν b) U H := h7
      unfold cl_at at h8 ⊢
      split at h8
      · rw [hno] at h8; exact absurd h8.1 (by simp)
      · rw [hno] at h8; exact absurd h8.1 (by simp)
      · obtain ⟨cell, q1, q2⟩ := h8
        rw [hno] at q1; cases q1
      · trivial
      · rw [hno] at h8; exact absurd h8.1 (by simp)
      · obtain ⟨⟨r, q1, cell, q2, q3⟩, q4⟩ := h8
        rw [hno] at q2; cases q2
def lc_P (ls : Array Slot) (n : Nat) (L : List (Option Value)) : Prop := ls.size = n ∧ lv_wf ls ∧ ∀ (i : Nat) (v : Value), L[i]? = some (some v) → ls[i]? = some (.val v)
/-- no long value is known to begin right before place i -/
def lc_b (L : List (Option Value)) : Nat → Bool
  | 0 => true
  | i + 1 => match L[i]? with
    | some (some v) => v.category != 2
    | _ => true
theorem lc_b1 {L : List (Option Value)} {i j : Nat} {w : Value} (h : lc_b L i = true) (hj : L[j]? = some (some w)) (e : j + 1 = i) : ¬ w.category = 2 := by
  subst e
  have h : (match L[j]? with | some (some v) => v.category != 2 | _ => true) = true := h
  rw [hj] at h
  simpa using h
theorem lc_set {ls : Array Slot} {n i : Nat} {L : List (Option Value)} {v : Value} (h : lc_P ls n L) (hi : i < n) (hc : v.category = 1) (hg : lc_b L i = true) : ∃ ls', storeLocals ls i v = some ls' ∧ lc_P ls' n (L.set i (some v)) := by
  obtain ⟨h1, h2, h3⟩ := h
  obtain ⟨ls', e1, f1, f2, f3⟩ := lv_store1 (l := []) (v := v) ⟨h1, h2, fun q hq => by cases hq⟩ hi hc
  refine ⟨ls', e1, f1, f2, fun j w hj => ?_⟩
  by_cases hij : j = i
  · subst hij
    have hw : w = v := by
      rw [List.getElem?_set] at hj
      simp only [if_true] at hj
      split at hj
      · exact (Option.some.inj (Option.some.inj hj)).symm
      · cases hj
    subst hw
    exact f3 (j, w) List.mem_cons_self
  · rw [List.getElem?_set_ne (Ne.symm hij)] at hj
    have g1 := h3 j w hj
    have g2 := fun e => lc_b1 hg hj e
    obtain ⟨ls2, e2, k1, k2, k3⟩ := lv_store1 (l := [(j, w)]) (v := v) ⟨h1, h2, fun q hq => by rw [List.mem_singleton.mp hq]; exact g1⟩ hi hc
    cases e1.symm.trans e2
    refine k3 (j, w) (List.mem_cons_of_mem _ ?_)
    rw [List.mem_filter]
    refine ⟨List.mem_cons_self, ?_⟩
    simp [hij]
    exact Decidable.not_or_of_imp g2
theorem lc_set2 {ls : Array Slot} {n i : Nat} {L : List (Option Value)} {v : Value} (h : lc_P ls n L) (hi : i + 1 < n) (hc : v.category = 2) (hg : lc_b L i = true) : ∃ ls', storeLocals ls i v = some ls' ∧ lc_P ls' n ((L.set i (some v)).set (i + 1) none) := by
  obtain ⟨h1, h2, h3⟩ := h
  obtain ⟨ls', e1, f1, f2, f3⟩ := lv_store2 (l := []) (v := v) ⟨h1, h2, fun q hq => by cases hq⟩ hi hc
  refine ⟨ls', e1, f1, f2, fun j w hj => ?_⟩
  by_cases hi1 : j = i + 1
  · subst hi1
    rw [List.getElem?_set] at hj
    simp only [if_true] at hj
    split at hj
    · cases hj
    · cases hj
  · rw [List.getElem?_set_ne (Ne.symm hi1)] at hj
    by_cases hij : j = i
    · subst hij
      have hw : w = v := by
        rw [List.getElem?_set] at hj
        simp only [if_true] at hj
        split at hj
        · exact (Option.some.inj (Option.some.inj hj)).symm
        · cases hj
      subst hw
      exact f3 (j, w) List.mem_cons_self
    · rw [List.getElem?_set_ne (Ne.symm hij)] at hj
      have g1 := h3 j w hj
      have g2 := fun e => lc_b1 hg hj e
      obtain ⟨ls2, e2, k1, k2, k3⟩ := lv_store2 (l := [(j, w)]) (v := v) ⟨h1, h2, fun q hq => by rw [List.mem_singleton.mp hq]; exact g1⟩ hi hc
      cases e1.symm.trans e2
      refine k3 (j, w) (List.mem_cons_of_mem _ ?_)
      rw [List.mem_filter]
      refine ⟨List.mem_cons_self, ?_⟩
      simp [hij, hi1]
      exact Decidable.not_or_of_imp g2
def cx_P (K : mt_K) (p : Program) (s : State) (m : MethodId) (args : Array Value) (meth : Method) (c : Code) : Prop :=
  p.tables.exec = Jvm.exec ∧ c.code = K.2.1 ∧ meth.sig.returnType = K.2.2.2.1 ∧ c.maxLocals = K.2.2.1 ∧ s.vm.findClass K.1.cls = some m.cls ∧ (∀ w ∈ wd_all, w.before args s = true) ∧ meth.name = K.1.name ∧ ex_P s
def rt_P (K : mt_K) (pc : Nat) (v : Option Value) : Prop :=
  (v = none ∧ K.2.2.2.1 = none ∧ decode K.2.1 pc = .ok (.return_, 1)) ∨
  (∃ x : Int32, v = some (.int x) ∧ (K.2.2.2.1 = some .int ∨ (K.2.2.2.1 = some .boolean ∧ (x = 0 ∨ x = 1))) ∧ decode K.2.1 pc = .ok (.ireturn, 1)) ∨
  (∃ r : Option Nat, v = some (va_rf r) ∧ (∃ n, K.2.2.2.1 = some (.object n)) ∧ decode K.2.1 pc = .ok (.areturn, 1)) ∨
  (∃ x : Int64, v = some (.long x) ∧ K.2.2.2.1 = some .long ∧ decode K.2.1 pc = .ok (.lreturn, 1))
def rh_P (Γ : cx_T) (K : mt_K) (Q : Option Value → mm_T → Prop) (p : Program) (e : Env) (s : State) (m : MethodId) (args : Array Value) (below : List Frame) (meth : Method) (c : Code) (Z : State → Prop) : Prop :=
  ∀ (pc : Nat) (ls : Array Slot) (v : Option Value) (H : Heap) (locs : List Loc) (μ : mm_T), rt_P K pc v → wm_P Γ μ s H → va_S (fun q => cx_lo Γ ≤ q) s.heap H locs → Q v μ → W p Γ.1 e (mt_rm K) s m args below meth c H locs (mt_rm K).cells (mt_rm K).slots Z (F0 m pc ls v.toList)
def gg_P (Γ : cx_T) (K : mt_K) (Q : Option Value → mm_T → Prop) (cs sl pc : Nat) (L : List (Option Value)) (st : List Value) (μ : mm_T) : Prop :=
  ∀ (p : Program) (e : Env) (s : State) (m : MethodId) (args : Array Value) (below : List Frame) (meth : Method) (c : Code) (Z : State → Prop) (H : Heap) (locs : List Loc) (ls : Array Slot),
    cx_P K p s m args meth c → rh_P Γ K Q p e s m args below meth c Z → wm_P Γ μ s H → va_S (fun q => cx_lo Γ ≤ q) s.heap H locs → lc_P ls K.2.2.1 L → cx_lo Γ ≤ s.heap.size →
    W p Γ.1 e (mt_rm K) s m args below meth c H locs cs sl Z (F0 m pc ls st)
def mt_P (Γ : cx_T) (K : mt_K) (av : List Value) (μ : mm_T) (Q : Option Value → mm_T → Prop) : Prop :=
  Met Γ.1 K.1 (wd_K K) (mt_rm K) (va_Pc av (fun U => wm_P Γ μ U U.heap ∧ ex_P U)) (fun _ st o t => (∃ (v : Option Value) (μ' : mm_T), o = .returned v ∧ Q v μ' ∧ wm_P Γ μ' t t.heap) ∧ va_F (fun q => cx_lo Γ ≤ q) st t) (mt_rm K).cells (mt_rm K).slots (fun q => cx_lo Γ ≤ q)
theorem lc_args : ∀ (vs : List Value) (k : Nat), (∀ v ∈ vs, v.category = 1) → ∀ (i : Nat) (v : Value), vs[i]? = some v → (k + i, v) ∈ lv_args k vs := by
  intro vs
  induction vs with
  | nil => intro k _ i v h; simp at h
  | cons w ws ih =>
    intro k hc i v h
    have hw : ¬ w.category = 2 := by have := hc w List.mem_cons_self; omega
    unfold lv_args
    rw [if_neg hw]
    cases i with
    | zero => simp at h; subst h; exact List.mem_cons_self
    | succ i =>
      have h' : ws[i]? = some v := by simpa using h
      have := ih (k + 1) (fun v hv => hc v (List.mem_cons_of_mem _ hv)) i v h'
      rw [show k + 1 + i = k + (i + 1) by omega] at this
      exact List.mem_cons_of_mem _ this
theorem lg_sl_len (vs : List Value) (hc : ∀ v ∈ vs, v.category = 1) : (lg_sl vs).length = vs.length := by
  induction vs with
  | nil => rfl
  | cons w ws ih =>
    have hw : ¬ w.category = 2 := by have := hc w List.mem_cons_self; omega
    have e : lg_sl (w :: ws) = [Slot.val w] ++ lg_sl ws := by simp [lg_sl, hw]
    rw [e, List.length_append, ih (fun v hv => hc v (List.mem_cons_of_mem _ hv))]
    simp; omega
set_option maxHeartbeats 1000000 in
theorem mt_of {Γ : cx_T} {K : mt_K} {av : List Value} {μ : mm_T} {Q : Option Value → mm_T → Prop} {L : List (Option Value)} (hy : plainName K.1.cls = true) (hc : ∀ v ∈ av, v.category = 1) (hn : av.length ≤ K.2.2.1) (hL : ∀ (i : Nat) (v : Value), L[i]? = some (some v) → av[i]? = some v) (h : gg_P Γ K Q 0 0 0 L [] μ) : mt_P Γ K av μ Q := by
  refine Met.ofW (cc := K.2.1) (maxL := K.2.2.1) (ret := K.2.2.2.1) (ws' := wd_all) hy rfl ?_
  intro p e s m args below meth c s₁ B hml hv
  obtain ⟨rfl, hW, hE⟩ := hv
  have hts := atoms_spec (ws := wd_K K) B.pre
  have hlocks := B.notSynchronized
  rw [lg_entry_eq]
  have hlen : (lg_sl av).length ≤ K.2.2.1 := by rw [lg_sl_len av hc]; exact hn
  have hl := lv_entry av (n := K.2.2.1) hlen
  have hlc : lc_P ((lg_sl av ++ List.replicate (K.2.2.1 - (lg_sl av).length) Slot.unset).toArray) K.2.2.1 L := by
    refine ⟨hl.1, hl.2.1, fun i v hi => ?_⟩
    have h1 := hL i v hi
    have h2 := lc_args av 0 hc i v h1
    rw [Nat.zero_add] at h2
    exact hl.2.2 (i, v) h2
  refine h p e s m _ below meth c _ s.heap [] _ ⟨B.exec, B.bytes, B.returns, hml, findClass_of_methodNamed B.named, fun w hw => hts w (List.mem_cons_of_mem _ hw), (name_of_methodNamed B.named B.method).1, hE⟩ ?_ hW va_S.rf hlc (by rw [hW.2.2.2.1]; exact hW.2.2.2.2.1)
  intro pc ls v H locs μ' hrt hW' hS hQ
  have hq : ∀ t : State, t.heap = H → s.WarmedH t.vm → (∃ (v' : Option Value) (μ'' : mm_T), Outcome.returned v = .returned v' ∧ Q v' μ'' ∧ wm_P Γ μ'' t t.heap) ∧ va_F (fun q => cx_lo Γ ≤ q) s t := fun t ht hWm => ⟨⟨v, μ', rfl, hQ, by rw [ht]; exact wm_moved hWm.alike hW'⟩, hS.F ht⟩
  rcases hrt with ⟨rfl, hr, hd⟩ | ⟨x, rfl, hr, hd⟩ | ⟨r, rfl, ⟨n, hr⟩, hd⟩ | ⟨x, rfl, hr, hd⟩
  · exact W.vret B.exec B.bytes (B.returns.trans hr) hq hS.2.2 hd
  · rcases hr with hr | ⟨hr, hx⟩
    · exact W.iret (v := x) B.exec B.bytes (B.returns.trans hr) hq hS.2.2 hd
    · refine W.zret (v := x) (ty := .boolean) B.exec B.bytes (B.returns.trans hr) ?_ hq hS.2.2 hd
      rcases hx with rfl | rfl <;> rfl
  · refine W.aret (v := va_rf r) B.exec B.bytes (B.returns.trans hr) (Or.inl ⟨n, rfl⟩) ?_ hq hS.2.2 hd
    cases r with
    | none => exact Or.inl rfl
    | some a => exact Or.inr ⟨a, rfl⟩
  · exact W.lret (v := x) B.exec B.bytes (B.returns.trans hr) hq hS.2.2 hd
section RULES
variable {Γ : cx_T} {K : mt_K} {Q : Option Value → mm_T → Prop} {cs sl pc nx : Nat} {L : List (Option Value)} {st : List Value} {μ : mm_T}
theorem gg_e {L' : List (Option Value)} {st' : List Value} {μ' : mm_T} (h : gg_P Γ K Q cs sl pc L' st' μ') (h1 : L = L') (h2 : st = st') (h3 : μ = μ') : gg_P Γ K Q cs sl pc L st μ := by subst h1 h2 h3; exact h
/-- known of the locals: fewer -/
theorem gg_L {L' : List (Option Value)} (h : gg_P Γ K Q cs sl pc L' st μ) (hs : ∀ (i : Nat) (v : Value), L'[i]? = some (some v) → L[i]? = some (some v)) : gg_P Γ K Q cs sl pc L st μ := by
  intro p e s m args below meth c Z H locs ls hC hR hW hS hl hz
  exact h p e s m args below meth c Z H locs ls hC hR hW hS ⟨hl.1, hl.2.1, fun i v hi => hl.2.2 i v (hs i v hi)⟩ hz
/-- a stronger post -/
theorem gg_Q {Q' : Option Value → mm_T → Prop} (h : gg_P Γ K Q' cs sl pc L st μ) (hq : ∀ v μ', Q' v μ' → Q v μ') : gg_P Γ K Q cs sl pc L st μ := by
  intro p e s m args below meth c Z H locs ls hC hR hW hS hl hz
  exact h p e s m args below meth c Z H locs ls hC (fun pc ls v H locs μ a b d f => hR pc ls v H locs μ a b d (hq _ _ f)) hW hS hl hz
theorem gg_iconst {n : Int} {v : Int32} (hd : decode K.2.1 pc = .ok (.iconst n, 1) ∧ pc + 1 = nx) (hv : Int32.ofInt n = v) (k : gg_P Γ K Q cs sl nx L (.int v :: st) μ) : gg_P Γ K Q cs sl pc L (st) μ := by
  intro p e s m args below meth c Z H locs ls hC hR hW hS hl hz
  obtain ⟨hx, hb, hr, hml, hown, hts, hin, hE⟩ := id hC
  obtain ⟨hd, rfl⟩ := hd
  exact lv_iconst hx hb hd hv (k p e s m args below meth c Z H locs ls hC hR hW hS hl hz)
theorem gg_bipush {n : Int} {v : Int32} (hd : decode K.2.1 pc = .ok (.bipush n, 2) ∧ pc + 2 = nx) (hv : (Int8.ofInt n).toInt32 = v) (k : gg_P Γ K Q cs sl nx L (.int v :: st) μ) : gg_P Γ K Q cs sl pc L (st) μ := by
  intro p e s m args below meth c Z H locs ls hC hR hW hS hl hz
  obtain ⟨hx, hb, hr, hml, hown, hts, hin, hE⟩ := id hC
  obtain ⟨hd, rfl⟩ := hd
  exact lv_bipush hx hb hd hv (k p e s m args below meth c Z H locs ls hC hR hW hS hl hz)
theorem gg_sipush {n : Int} {v : Int32} (hd : decode K.2.1 pc = .ok (.sipush n, 3) ∧ pc + 3 = nx) (hv : (Int16.ofInt n).toInt32 = v) (k : gg_P Γ K Q cs sl nx L (.int v :: st) μ) : gg_P Γ K Q cs sl pc L (st) μ := by
  intro p e s m args below meth c Z H locs ls hC hR hW hS hl hz
  obtain ⟨hx, hb, hr, hml, hown, hts, hin, hE⟩ := id hC
  obtain ⟨hd, rfl⟩ := hd
  exact lv_sipush hx hb hd hv (k p e s m args below meth c Z H locs ls hC hR hW hS hl hz)
theorem gg_ildn {n : Fin 4} {i : Nat} {x : Int32} (hd : decode K.2.1 pc = .ok (.iload_n n, 1) ∧ pc + 1 = nx) (hi : (n : Nat) = i) (hv : L[i]? = some (some (.int x))) (k : gg_P Γ K Q cs sl nx L (.int x :: st) μ) : gg_P Γ K Q cs sl pc L (st) μ := by
  intro p e s m args below meth c Z H locs ls hC hR hW hS hl hz
  obtain ⟨hx, hb, hr, hml, hown, hts, hin, hE⟩ := id hC
  obtain ⟨hd, rfl⟩ := hd
  exact lv_iload_n hx hb hd hi (hl.2.2 i _ hv) (k p e s m args below meth c Z H locs ls hC hR hW hS hl hz)
theorem gg_ild {i : Nat} {x : Int32} (hd : decode K.2.1 pc = .ok (.iload i, 2) ∧ pc + 2 = nx) (hv : L[i]? = some (some (.int x))) (k : gg_P Γ K Q cs sl nx L (.int x :: st) μ) : gg_P Γ K Q cs sl pc L (st) μ := by
  intro p e s m args below meth c Z H locs ls hC hR hW hS hl hz
  obtain ⟨hx, hb, hr, hml, hown, hts, hin, hE⟩ := id hC
  obtain ⟨hd, rfl⟩ := hd
  exact lv_iload hx hb hd (hl.2.2 i _ hv) (k p e s m args below meth c Z H locs ls hC hR hW hS hl hz)
theorem gg_aldn {n : Fin 4} {i a : Nat} (hd : decode K.2.1 pc = .ok (.aload_n n, 1) ∧ pc + 1 = nx) (hi : (n : Nat) = i) (hv : L[i]? = some (some (.ref a))) (k : gg_P Γ K Q cs sl nx L (.ref a :: st) μ) : gg_P Γ K Q cs sl pc L (st) μ := by
  intro p e s m args below meth c Z H locs ls hC hR hW hS hl hz
  obtain ⟨hx, hb, hr, hml, hown, hts, hin, hE⟩ := id hC
  obtain ⟨hd, rfl⟩ := hd
  exact lv_aload_n hx hb hd hi (hl.2.2 i _ hv) (k p e s m args below meth c Z H locs ls hC hR hW hS hl hz)
theorem gg_ald {i a : Nat} (hd : decode K.2.1 pc = .ok (.aload i, 2) ∧ pc + 2 = nx) (hv : L[i]? = some (some (.ref a))) (k : gg_P Γ K Q cs sl nx L (.ref a :: st) μ) : gg_P Γ K Q cs sl pc L (st) μ := by
  intro p e s m args below meth c Z H locs ls hC hR hW hS hl hz
  obtain ⟨hx, hb, hr, hml, hown, hts, hin, hE⟩ := id hC
  obtain ⟨hd, rfl⟩ := hd
  exact lv_aload hx hb hd (hl.2.2 i _ hv) (k p e s m args below meth c Z H locs ls hC hR hW hS hl hz)
theorem gg_aldnN {n : Fin 4} {i : Nat} (hd : decode K.2.1 pc = .ok (.aload_n n, 1) ∧ pc + 1 = nx) (hi : (n : Nat) = i) (hv : L[i]? = some (some .null)) (k : gg_P Γ K Q cs sl nx L (.null :: st) μ) : gg_P Γ K Q cs sl pc L (st) μ := by
  intro p e s m args below meth c Z H locs ls hC hR hW hS hl hz
  obtain ⟨hx, hb, hr, hml, hown, hts, hin, hE⟩ := id hC
  obtain ⟨hd, rfl⟩ := hd
  exact lv_aload_nN hx hb hd hi (hl.2.2 i _ hv) (k p e s m args below meth c Z H locs ls hC hR hW hS hl hz)
theorem gg_iadd {x y : Int32} (hd : decode K.2.1 pc = .ok (.iadd, 1) ∧ pc + 1 = nx)  (k : gg_P Γ K Q cs sl nx L (.int (x + y) :: st) μ) : gg_P Γ K Q cs sl pc L (.int y :: .int x :: st) μ := by
  intro p e s m args below meth c Z H locs ls hC hR hW hS hl hz
  obtain ⟨hx, hb, hr, hml, hown, hts, hin, hE⟩ := id hC
  obtain ⟨hd, rfl⟩ := hd
  exact lv_iadd hx hb hd (k p e s m args below meth c Z H locs ls hC hR hW hS hl hz)
theorem gg_isub {x y : Int32} (hd : decode K.2.1 pc = .ok (.isub, 1) ∧ pc + 1 = nx)  (k : gg_P Γ K Q cs sl nx L (.int (x - y) :: st) μ) : gg_P Γ K Q cs sl pc L (.int y :: .int x :: st) μ := by
  intro p e s m args below meth c Z H locs ls hC hR hW hS hl hz
  obtain ⟨hx, hb, hr, hml, hown, hts, hin, hE⟩ := id hC
  obtain ⟨hd, rfl⟩ := hd
  exact lv_isub hx hb hd (k p e s m args below meth c Z H locs ls hC hR hW hS hl hz)
theorem gg_imul {x y : Int32} (hd : decode K.2.1 pc = .ok (.imul, 1) ∧ pc + 1 = nx)  (k : gg_P Γ K Q cs sl nx L (.int (x * y) :: st) μ) : gg_P Γ K Q cs sl pc L (.int y :: .int x :: st) μ := by
  intro p e s m args below meth c Z H locs ls hC hR hW hS hl hz
  obtain ⟨hx, hb, hr, hml, hown, hts, hin, hE⟩ := id hC
  obtain ⟨hd, rfl⟩ := hd
  exact lv_imul hx hb hd (k p e s m args below meth c Z H locs ls hC hR hW hS hl hz)
theorem gg_iand {x y : Int32} (hd : decode K.2.1 pc = .ok (.iand, 1) ∧ pc + 1 = nx)  (k : gg_P Γ K Q cs sl nx L (.int (x &&& y) :: st) μ) : gg_P Γ K Q cs sl pc L (.int y :: .int x :: st) μ := by
  intro p e s m args below meth c Z H locs ls hC hR hW hS hl hz
  obtain ⟨hx, hb, hr, hml, hown, hts, hin, hE⟩ := id hC
  obtain ⟨hd, rfl⟩ := hd
  exact lv_iand hx hb hd (k p e s m args below meth c Z H locs ls hC hR hW hS hl hz)
theorem gg_ior {x y : Int32} (hd : decode K.2.1 pc = .ok (.ior, 1) ∧ pc + 1 = nx)  (k : gg_P Γ K Q cs sl nx L (.int (x ||| y) :: st) μ) : gg_P Γ K Q cs sl pc L (.int y :: .int x :: st) μ := by
  intro p e s m args below meth c Z H locs ls hC hR hW hS hl hz
  obtain ⟨hx, hb, hr, hml, hown, hts, hin, hE⟩ := id hC
  obtain ⟨hd, rfl⟩ := hd
  exact lv_ior hx hb hd (k p e s m args below meth c Z H locs ls hC hR hW hS hl hz)
theorem gg_ixor {x y : Int32} (hd : decode K.2.1 pc = .ok (.ixor, 1) ∧ pc + 1 = nx)  (k : gg_P Γ K Q cs sl nx L (.int (x ^^^ y) :: st) μ) : gg_P Γ K Q cs sl pc L (.int y :: .int x :: st) μ := by
  intro p e s m args below meth c Z H locs ls hC hR hW hS hl hz
  obtain ⟨hx, hb, hr, hml, hown, hts, hin, hE⟩ := id hC
  obtain ⟨hd, rfl⟩ := hd
  exact lv_ixor hx hb hd (k p e s m args below meth c Z H locs ls hC hR hW hS hl hz)
theorem gg_idiv {x y : Int32} (hd : decode K.2.1 pc = .ok (.idiv, 1) ∧ pc + 1 = nx) (hne : ¬ y = 0) (k : gg_P Γ K Q cs sl nx L (.int (x / y) :: st) μ) : gg_P Γ K Q cs sl pc L (.int y :: .int x :: st) μ := by
  intro p e s m args below meth c Z H locs ls hC hR hW hS hl hz
  obtain ⟨hx, hb, hr, hml, hown, hts, hin, hE⟩ := id hC
  obtain ⟨hd, rfl⟩ := hd
  exact lv_idiv hx hb hd hne (k p e s m args below meth c Z H locs ls hC hR hW hS hl hz)
theorem gg_irem {x y : Int32} (hd : decode K.2.1 pc = .ok (.irem, 1) ∧ pc + 1 = nx) (hne : ¬ y = 0) (k : gg_P Γ K Q cs sl nx L (.int (x - x / y * y) :: st) μ) : gg_P Γ K Q cs sl pc L (.int y :: .int x :: st) μ := by
  intro p e s m args below meth c Z H locs ls hC hR hW hS hl hz
  obtain ⟨hx, hb, hr, hml, hown, hts, hin, hE⟩ := id hC
  obtain ⟨hd, rfl⟩ := hd
  exact lv_irem hx hb hd hne (k p e s m args below meth c Z H locs ls hC hR hW hS hl hz)
theorem gg_ineg {x : Int32} (hd : decode K.2.1 pc = .ok (.ineg, 1) ∧ pc + 1 = nx)  (k : gg_P Γ K Q cs sl nx L (.int (-x) :: st) μ) : gg_P Γ K Q cs sl pc L (.int x :: st) μ := by
  intro p e s m args below meth c Z H locs ls hC hR hW hS hl hz
  obtain ⟨hx, hb, hr, hml, hown, hts, hin, hE⟩ := id hC
  obtain ⟨hd, rfl⟩ := hd
  exact lv_ineg hx hb hd (k p e s m args below meth c Z H locs ls hC hR hW hS hl hz)
theorem gg_ishl {x y : Int32} (hd : decode K.2.1 pc = .ok (.ishl, 1) ∧ pc + 1 = nx)  (k : gg_P Γ K Q cs sl nx L (.int (x <<< (y &&& 31)) :: st) μ) : gg_P Γ K Q cs sl pc L (.int y :: .int x :: st) μ := by
  intro p e s m args below meth c Z H locs ls hC hR hW hS hl hz
  obtain ⟨hx, hb, hr, hml, hown, hts, hin, hE⟩ := id hC
  obtain ⟨hd, rfl⟩ := hd
  exact lv_ishl hx hb hd (k p e s m args below meth c Z H locs ls hC hR hW hS hl hz)
theorem gg_ishr {x y : Int32} (hd : decode K.2.1 pc = .ok (.ishr, 1) ∧ pc + 1 = nx)  (k : gg_P Γ K Q cs sl nx L (.int (x >>> (y &&& 31)) :: st) μ) : gg_P Γ K Q cs sl pc L (.int y :: .int x :: st) μ := by
  intro p e s m args below meth c Z H locs ls hC hR hW hS hl hz
  obtain ⟨hx, hb, hr, hml, hown, hts, hin, hE⟩ := id hC
  obtain ⟨hd, rfl⟩ := hd
  exact lv_ishr hx hb hd (k p e s m args below meth c Z H locs ls hC hR hW hS hl hz)
theorem gg_iushr {x y : Int32} (hd : decode K.2.1 pc = .ok (.iushr, 1) ∧ pc + 1 = nx)  (k : gg_P Γ K Q cs sl nx L (.int (x.toUInt32 >>> (y.toUInt32 &&& Int32.toUInt32 31)).toInt32 :: st) μ) : gg_P Γ K Q cs sl pc L (.int y :: .int x :: st) μ := by
  intro p e s m args below meth c Z H locs ls hC hR hW hS hl hz
  obtain ⟨hx, hb, hr, hml, hown, hts, hin, hE⟩ := id hC
  obtain ⟨hd, rfl⟩ := hd
  exact lv_iushr hx hb hd rfl (k p e s m args below meth c Z H locs ls hC hR hW hS hl hz)
theorem gg_i2b {x : Int32} (hd : decode K.2.1 pc = .ok (.i2b, 1) ∧ pc + 1 = nx)  (k : gg_P Γ K Q cs sl nx L (.int x.toInt8.toInt32 :: st) μ) : gg_P Γ K Q cs sl pc L (.int x :: st) μ := by
  intro p e s m args below meth c Z H locs ls hC hR hW hS hl hz
  obtain ⟨hx, hb, hr, hml, hown, hts, hin, hE⟩ := id hC
  obtain ⟨hd, rfl⟩ := hd
  exact lv_i2b hx hb hd rfl (k p e s m args below meth c Z H locs ls hC hR hW hS hl hz)
theorem gg_null  (hd : decode K.2.1 pc = .ok (.aconst_null, 1) ∧ pc + 1 = nx)  (k : gg_P Γ K Q cs sl nx L (.null :: st) μ) : gg_P Γ K Q cs sl pc L (st) μ := by
  intro p e s m args below meth c Z H locs ls hC hR hW hS hl hz
  obtain ⟨hx, hb, hr, hml, hown, hts, hin, hE⟩ := id hC
  obtain ⟨hd, rfl⟩ := hd
  exact lv_null hx hb hd (k p e s m args below meth c Z H locs ls hC hR hW hS hl hz)
theorem gg_dup {v : Value} (hd : decode K.2.1 pc = .ok (.dup, 1) ∧ pc + 1 = nx) (hv : v.category = 1) (k : gg_P Γ K Q cs sl nx L (v :: v :: st) μ) : gg_P Γ K Q cs sl pc L (v :: st) μ := by
  intro p e s m args below meth c Z H locs ls hC hR hW hS hl hz
  obtain ⟨hx, hb, hr, hml, hown, hts, hin, hE⟩ := id hC
  obtain ⟨hd, rfl⟩ := hd
  exact lv_dup hx hb hd hv (k p e s m args below meth c Z H locs ls hC hR hW hS hl hz)
theorem gg_pop {v : Value} (hd : decode K.2.1 pc = .ok (.pop, 1) ∧ pc + 1 = nx) (hv : v.category = 1) (k : gg_P Γ K Q cs sl nx L (st) μ) : gg_P Γ K Q cs sl pc L (v :: st) μ := by
  intro p e s m args below meth c Z H locs ls hC hR hW hS hl hz
  obtain ⟨hx, hb, hr, hml, hown, hts, hin, hE⟩ := id hC
  obtain ⟨hd, rfl⟩ := hd
  exact lv_pop hx hb hd hv (k p e s m args below meth c Z H locs ls hC hR hW hS hl hz)
theorem gg_dup2 {v w : Value} (hd : decode K.2.1 pc = .ok (.dup2, 1) ∧ pc + 1 = nx) (hv : v.category = 1) (hw : w.category = 1) (k : gg_P Γ K Q cs sl nx L (v :: w :: v :: w :: st) μ) : gg_P Γ K Q cs sl pc L (v :: w :: st) μ := by
  intro p e s m args below meth c Z H locs ls hC hR hW hS hl hz
  obtain ⟨hx, hb, hr, hml, hown, hts, hin, hE⟩ := id hC
  obtain ⟨hd, rfl⟩ := hd
  exact lv_dup2_11 hx hb hd hv hw (k p e s m args below meth c Z H locs ls hC hR hW hS hl hz)
theorem gg_dupx1 {v w : Value} (hd : decode K.2.1 pc = .ok (.dup_x1, 1) ∧ pc + 1 = nx) (hv : v.category = 1) (hw : w.category = 1) (k : gg_P Γ K Q cs sl nx L (v :: w :: v :: st) μ) : gg_P Γ K Q cs sl pc L (v :: w :: st) μ := by
  intro p e s m args below meth c Z H locs ls hC hR hW hS hl hz
  obtain ⟨hx, hb, hr, hml, hown, hts, hin, hE⟩ := id hC
  obtain ⟨hd, rfl⟩ := hd
  exact lv_dup_x1 hx hb hd hv hw (k p e s m args below meth c Z H locs ls hC hR hW hS hl hz)
theorem gg_ldc {i : Nat} {v : Int32} (hd : decode K.2.1 pc = .ok (.ldc i, 2) ∧ pc + 2 = nx) (hw : Cond.constant K.1.cls i v ∈ wd_all) (k : gg_P Γ K Q cs sl nx L (.int v :: st) μ) : gg_P Γ K Q cs sl pc L (st) μ := by
  intro p e s m args below meth c Z H locs ls hC hR hW hS hl hz
  obtain ⟨hx, hb, hr, hml, hown, hts, hin, hE⟩ := id hC
  obtain ⟨hd, rfl⟩ := hd
  exact lv_ldc hx hb hown (hts _ hw) hd (k p e s m args below meth c Z H locs ls hC hR hW hS hl hz)
theorem gg_ldcw {i : Nat} {v : Int32} (hd : decode K.2.1 pc = .ok (.ldc_w i, 3) ∧ pc + 3 = nx) (hw : Cond.constant K.1.cls i v ∈ wd_all) (k : gg_P Γ K Q cs sl nx L (.int v :: st) μ) : gg_P Γ K Q cs sl pc L (st) μ := by
  intro p e s m args below meth c Z H locs ls hC hR hW hS hl hz
  obtain ⟨hx, hb, hr, hml, hown, hts, hin, hE⟩ := id hC
  obtain ⟨hd, rfl⟩ := hd
  exact lv_ldcw hx hb hown (hts _ hw) hd (k p e s m args below meth c Z H locs ls hC hR hW hS hl hz)
theorem gg_istn {n : Fin 4} {i : Nat} {x : Int32} (hd : decode K.2.1 pc = .ok (.istore_n n, 1) ∧ pc + 1 = nx) (hi : (n : Nat) = i) (hn : i < K.2.2.1) (hg : lc_b L i = true) (k : gg_P Γ K Q cs sl nx (L.set i (some (.int x))) st μ) : gg_P Γ K Q cs sl pc L (.int x :: st) μ := by
  intro p e s m args below meth c Z H locs ls hC hR hW hS hl hz
  obtain ⟨hx, hb, hr, hml, hown, hts, hin, hE⟩ := id hC
  obtain ⟨hd, rfl⟩ := hd
  obtain ⟨ls', e', h'⟩ := lc_set (v := .int x) hl hn rfl hg
  have k' := k p e s m args below meth c Z H locs ls' hC hR hW hS h' hz
  intro T hT X
  obtain ⟨t, a', b'⟩ := k' T hT X
  refine ⟨t, ?_, b'⟩
  subst hi
  jvm_step X.here [X.here.top, ↓top_set X.here.top, hx, hb, hd, e']
  exact a'
theorem gg_ist {i : Nat} {x : Int32} (hd : decode K.2.1 pc = .ok (.istore i, 2) ∧ pc + 2 = nx)  (hn : i < K.2.2.1) (hg : lc_b L i = true) (k : gg_P Γ K Q cs sl nx (L.set i (some (.int x))) st μ) : gg_P Γ K Q cs sl pc L (.int x :: st) μ := by
  intro p e s m args below meth c Z H locs ls hC hR hW hS hl hz
  obtain ⟨hx, hb, hr, hml, hown, hts, hin, hE⟩ := id hC
  obtain ⟨hd, rfl⟩ := hd
  obtain ⟨ls', e', h'⟩ := lc_set (v := .int x) hl hn rfl hg
  have k' := k p e s m args below meth c Z H locs ls' hC hR hW hS h' hz
  intro T hT X
  obtain ⟨t, a', b'⟩ := k' T hT X
  refine ⟨t, ?_, b'⟩
  jvm_step X.here [X.here.top, ↓top_set X.here.top, hx, hb, hd, e']
  exact a'
theorem gg_astn {n : Fin 4} {i a : Nat} (hd : decode K.2.1 pc = .ok (.astore_n n, 1) ∧ pc + 1 = nx) (hi : (n : Nat) = i) (hn : i < K.2.2.1) (hg : lc_b L i = true) (k : gg_P Γ K Q cs sl nx (L.set i (some (.ref a))) st μ) : gg_P Γ K Q cs sl pc L (.ref a :: st) μ := by
  intro p e s m args below meth c Z H locs ls hC hR hW hS hl hz
  obtain ⟨hx, hb, hr, hml, hown, hts, hin, hE⟩ := id hC
  obtain ⟨hd, rfl⟩ := hd
  obtain ⟨ls', e', h'⟩ := lc_set (v := .ref a) hl hn rfl hg
  have k' := k p e s m args below meth c Z H locs ls' hC hR hW hS h' hz
  intro T hT X
  obtain ⟨t, a', b'⟩ := k' T hT X
  refine ⟨t, ?_, b'⟩
  subst hi
  jvm_step X.here [X.here.top, ↓top_set X.here.top, hx, hb, hd, e', Value.isRef]
  exact a'
theorem gg_ast {i a : Nat} (hd : decode K.2.1 pc = .ok (.astore i, 2) ∧ pc + 2 = nx)  (hn : i < K.2.2.1) (hg : lc_b L i = true) (k : gg_P Γ K Q cs sl nx (L.set i (some (.ref a))) st μ) : gg_P Γ K Q cs sl pc L (.ref a :: st) μ := by
  intro p e s m args below meth c Z H locs ls hC hR hW hS hl hz
  obtain ⟨hx, hb, hr, hml, hown, hts, hin, hE⟩ := id hC
  obtain ⟨hd, rfl⟩ := hd
  obtain ⟨ls', e', h'⟩ := lc_set (v := .ref a) hl hn rfl hg
  have k' := k p e s m args below meth c Z H locs ls' hC hR hW hS h' hz
  intro T hT X
  obtain ⟨t, a', b'⟩ := k' T hT X
  refine ⟨t, ?_, b'⟩
  jvm_step X.here [X.here.top, ↓top_set X.here.top, hx, hb, hd, e', Value.isRef]
  exact a'
theorem gg_astnN {n : Fin 4} {i : Nat} (hd : decode K.2.1 pc = .ok (.astore_n n, 1) ∧ pc + 1 = nx) (hi : (n : Nat) = i) (hn : i < K.2.2.1) (hg : lc_b L i = true) (k : gg_P Γ K Q cs sl nx (L.set i (some (.null))) st μ) : gg_P Γ K Q cs sl pc L (.null :: st) μ := by
  intro p e s m args below meth c Z H locs ls hC hR hW hS hl hz
  obtain ⟨hx, hb, hr, hml, hown, hts, hin, hE⟩ := id hC
  obtain ⟨hd, rfl⟩ := hd
  obtain ⟨ls', e', h'⟩ := lc_set (v := .null) hl hn rfl hg
  have k' := k p e s m args below meth c Z H locs ls' hC hR hW hS h' hz
  intro T hT X
  obtain ⟨t, a', b'⟩ := k' T hT X
  refine ⟨t, ?_, b'⟩
  subst hi
  jvm_step X.here [X.here.top, ↓top_set X.here.top, hx, hb, hd, e', Value.isRef]
  exact a'
theorem gg_iinc {i : Nat} {n : Int} {x : Int32} (hd : decode K.2.1 pc = .ok (.iinc i n, 3) ∧ pc + 3 = nx) (hv : L[i]? = some (some (.int x))) (hn : i < K.2.2.1) (hg9 : lc_b L i = true) (k : gg_P Γ K Q cs sl nx (L.set i (some (.int (x + Int32.ofInt n)))) st μ) : gg_P Γ K Q cs sl pc L st μ := by
  intro p e s m args below meth c Z H locs ls hC hR hW hS hl hz
  obtain ⟨hx, hb, hr, hml, hown, hts, hin, hE⟩ := id hC
  obtain ⟨hd, rfl⟩ := hd
  obtain ⟨ls', e', h'⟩ := lc_set (v := .int (x + Int32.ofInt n)) hl hn rfl hg9
  have hg := (hl.2.2 i _ hv)
  have k' := k p e s m args below meth c Z H locs ls' hC hR hW hS h' hz
  intro T hT X
  obtain ⟨t, a', b'⟩ := k' T hT X
  refine ⟨t, ?_, b'⟩
  jvm_step X.here [X.here.top, ↓top_set X.here.top, hx, hb, hd, hg, e']
  exact a'
theorem gg_i2l {x : Int32} (hd : decode K.2.1 pc = .ok (.i2l, 1) ∧ pc + 1 = nx)  (k : gg_P Γ K Q cs sl nx L (.long x.toInt64 :: st) μ) : gg_P Γ K Q cs sl pc L (.int x :: st) μ := by
  intro p e s m args below meth c Z H locs ls hC hR hW hS hl hz
  obtain ⟨hx, hb, hr, hml, hown, hts, hin, hE⟩ := id hC
  obtain ⟨hd, rfl⟩ := hd
  exact lv_i2l hx hb hd rfl (k p e s m args below meth c Z H locs ls hC hR hW hS hl hz)
theorem gg_ladd {x y : Int64} (hd : decode K.2.1 pc = .ok (.ladd, 1) ∧ pc + 1 = nx)  (k : gg_P Γ K Q cs sl nx L (.long (x + y) :: st) μ) : gg_P Γ K Q cs sl pc L (.long y :: .long x :: st) μ := by
  intro p e s m args below meth c Z H locs ls hC hR hW hS hl hz
  obtain ⟨hx, hb, hr, hml, hown, hts, hin, hE⟩ := id hC
  obtain ⟨hd, rfl⟩ := hd
  exact lv_ladd hx hb hd (k p e s m args below meth c Z H locs ls hC hR hW hS hl hz)
theorem gg_lmul {x y : Int64} (hd : decode K.2.1 pc = .ok (.lmul, 1) ∧ pc + 1 = nx)  (k : gg_P Γ K Q cs sl nx L (.long (x * y) :: st) μ) : gg_P Γ K Q cs sl pc L (.long y :: .long x :: st) μ := by
  intro p e s m args below meth c Z H locs ls hC hR hW hS hl hz
  obtain ⟨hx, hb, hr, hml, hown, hts, hin, hE⟩ := id hC
  obtain ⟨hd, rfl⟩ := hd
  exact lv_lmul hx hb hd (k p e s m args below meth c Z H locs ls hC hR hW hS hl hz)
theorem gg_lcmp {x y : Int64} (hd : decode K.2.1 pc = .ok (.lcmp, 1) ∧ pc + 1 = nx)  (k : gg_P Γ K Q cs sl nx L (.int (lg_cmp x y) :: st) μ) : gg_P Γ K Q cs sl pc L (.long y :: .long x :: st) μ := by
  intro p e s m args below meth c Z H locs ls hC hR hW hS hl hz
  obtain ⟨hx, hb, hr, hml, hown, hts, hin, hE⟩ := id hC
  obtain ⟨hd, rfl⟩ := hd
  exact W.lcmp hx hb hd (k p e s m args below meth c Z H locs ls hC hR hW hS hl hz)
theorem gg_ldc2 {i : Nat} {v : Int64} (hd : decode K.2.1 pc = .ok (.ldc2_w i, 3) ∧ pc + 3 = nx) (hw : Cond.constantLong K.1.cls i v ∈ wd_all) (k : gg_P Γ K Q cs sl nx L (.long v :: st) μ) : gg_P Γ K Q cs sl pc L (st) μ := by
  intro p e s m args below meth c Z H locs ls hC hR hW hS hl hz
  obtain ⟨hx, hb, hr, hml, hown, hts, hin, hE⟩ := id hC
  obtain ⟨hd, rfl⟩ := hd
  exact lv_ldc2 hx hb hown (hts _ hw) hd (k p e s m args below meth c Z H locs ls hC hR hW hS hl hz)
theorem gg_lldn {n : Fin 4} {i : Nat} {x : Int64} (hd : decode K.2.1 pc = .ok (.lload_n n, 1) ∧ pc + 1 = nx) (hi : (n : Nat) = i) (hv : L[i]? = some (some (.long x))) (k : gg_P Γ K Q cs sl nx L (.long x :: st) μ) : gg_P Γ K Q cs sl pc L (st) μ := by
  intro p e s m args below meth c Z H locs ls hC hR hW hS hl hz
  obtain ⟨hx, hb, hr, hml, hown, hts, hin, hE⟩ := id hC
  obtain ⟨hd, rfl⟩ := hd
  exact lv_lload_n hx hb hd hi (hl.2.2 i _ hv) (k p e s m args below meth c Z H locs ls hC hR hW hS hl hz)
theorem gg_lld {i : Nat} {x : Int64} (hd : decode K.2.1 pc = .ok (.lload i, 2) ∧ pc + 2 = nx) (hv : L[i]? = some (some (.long x))) (k : gg_P Γ K Q cs sl nx L (.long x :: st) μ) : gg_P Γ K Q cs sl pc L (st) μ := by
  intro p e s m args below meth c Z H locs ls hC hR hW hS hl hz
  obtain ⟨hx, hb, hr, hml, hown, hts, hin, hE⟩ := id hC
  obtain ⟨hd, rfl⟩ := hd
  exact lv_lload hx hb hd (hl.2.2 i _ hv) (k p e s m args below meth c Z H locs ls hC hR hW hS hl hz)
theorem gg_lstn {n : Fin 4} {i : Nat} {x : Int64} (hd : decode K.2.1 pc = .ok (.lstore_n n, 1) ∧ pc + 1 = nx) (hi : (n : Nat) = i) (hn : i + 1 < K.2.2.1) (hg : lc_b L i = true) (k : gg_P Γ K Q cs sl nx ((L.set i (some (.long x))).set (i + 1) none) st μ) : gg_P Γ K Q cs sl pc L (.long x :: st) μ := by
  intro p e s m args below meth c Z H locs ls hC hR hW hS hl hz
  obtain ⟨hx, hb, hr, hml, hown, hts, hin, hE⟩ := id hC
  obtain ⟨hd, rfl⟩ := hd
  obtain ⟨ls', e', h'⟩ := lc_set2 (v := .long x) hl hn rfl hg
  have k' := k p e s m args below meth c Z H locs ls' hC hR hW hS h' hz
  intro T hT X
  obtain ⟨t, a', b'⟩ := k' T hT X
  refine ⟨t, ?_, b'⟩
  subst hi
  jvm_step X.here [X.here.top, ↓top_set X.here.top, hx, hb, hd, e']
  exact a'
theorem gg_lst {i : Nat} {x : Int64} (hd : decode K.2.1 pc = .ok (.lstore i, 2) ∧ pc + 2 = nx)  (hn : i + 1 < K.2.2.1) (hg : lc_b L i = true) (k : gg_P Γ K Q cs sl nx ((L.set i (some (.long x))).set (i + 1) none) st μ) : gg_P Γ K Q cs sl pc L (.long x :: st) μ := by
  intro p e s m args below meth c Z H locs ls hC hR hW hS hl hz
  obtain ⟨hx, hb, hr, hml, hown, hts, hin, hE⟩ := id hC
  obtain ⟨hd, rfl⟩ := hd
  obtain ⟨ls', e', h'⟩ := lc_set2 (v := .long x) hl hn rfl hg
  have k' := k p e s m args below meth c Z H locs ls' hC hR hW hS h' hz
  intro T hT X
  obtain ⟨t, a', b'⟩ := k' T hT X
  refine ⟨t, ?_, b'⟩
  jvm_step X.here [X.here.top, ↓top_set X.here.top, hx, hb, hd, e']
  exact a'
theorem gg_ifeq {x : Int32} {off : Int} {tg : Nat} (hd : decode K.2.1 pc = .ok (.ifCond .eq off, 3) ∧ (pc : Int) + off = (tg : Int) ∧ pc + 3 = nx) (kt : x = 0 → gg_P Γ K Q cs sl tg L st μ) (kf : ¬ x = 0 → gg_P Γ K Q cs sl nx L st μ) : gg_P Γ K Q cs sl pc L (.int x :: st) μ := by
  intro p e s m args below meth c Z H locs ls hC hR hW hS hl hz
  obtain ⟨hx, hb, hr, hml, hown, hts, hin, hE⟩ := id hC
  obtain ⟨hd, ht, rfl⟩ := hd
  exact lv_if_eq hx hb hd ht (fun c' => kt c' p e s m args below meth c Z H locs ls hC hR hW hS hl hz) (fun c' => kf c' p e s m args below meth c Z H locs ls hC hR hW hS hl hz)
theorem gg_iceq {x y : Int32} {off : Int} {tg : Nat} (hd : decode K.2.1 pc = .ok (.if_icmp .eq off, 3) ∧ (pc : Int) + off = (tg : Int) ∧ pc + 3 = nx) (kt : x = y → gg_P Γ K Q cs sl tg L st μ) (kf : ¬ x = y → gg_P Γ K Q cs sl nx L st μ) : gg_P Γ K Q cs sl pc L (.int y :: .int x :: st) μ := by
  intro p e s m args below meth c Z H locs ls hC hR hW hS hl hz
  obtain ⟨hx, hb, hr, hml, hown, hts, hin, hE⟩ := id hC
  obtain ⟨hd, ht, rfl⟩ := hd
  exact lv_icmp_eq hx hb hd ht (fun c' => kt c' p e s m args below meth c Z H locs ls hC hR hW hS hl hz) (fun c' => kf c' p e s m args below meth c Z H locs ls hC hR hW hS hl hz)
theorem gg_ifne {x : Int32} {off : Int} {tg : Nat} (hd : decode K.2.1 pc = .ok (.ifCond .ne off, 3) ∧ (pc : Int) + off = (tg : Int) ∧ pc + 3 = nx) (kt : ¬ x = 0 → gg_P Γ K Q cs sl tg L st μ) (kf : x = 0 → gg_P Γ K Q cs sl nx L st μ) : gg_P Γ K Q cs sl pc L (.int x :: st) μ := by
  intro p e s m args below meth c Z H locs ls hC hR hW hS hl hz
  obtain ⟨hx, hb, hr, hml, hown, hts, hin, hE⟩ := id hC
  obtain ⟨hd, ht, rfl⟩ := hd
  exact lv_if_ne hx hb hd ht (fun c' => kt c' p e s m args below meth c Z H locs ls hC hR hW hS hl hz) (fun c' => kf c' p e s m args below meth c Z H locs ls hC hR hW hS hl hz)
theorem gg_icne {x y : Int32} {off : Int} {tg : Nat} (hd : decode K.2.1 pc = .ok (.if_icmp .ne off, 3) ∧ (pc : Int) + off = (tg : Int) ∧ pc + 3 = nx) (kt : ¬ x = y → gg_P Γ K Q cs sl tg L st μ) (kf : x = y → gg_P Γ K Q cs sl nx L st μ) : gg_P Γ K Q cs sl pc L (.int y :: .int x :: st) μ := by
  intro p e s m args below meth c Z H locs ls hC hR hW hS hl hz
  obtain ⟨hx, hb, hr, hml, hown, hts, hin, hE⟩ := id hC
  obtain ⟨hd, ht, rfl⟩ := hd
  exact lv_icmp_ne hx hb hd ht (fun c' => kt c' p e s m args below meth c Z H locs ls hC hR hW hS hl hz) (fun c' => kf c' p e s m args below meth c Z H locs ls hC hR hW hS hl hz)
theorem gg_iflt {x : Int32} {off : Int} {tg : Nat} (hd : decode K.2.1 pc = .ok (.ifCond .lt off, 3) ∧ (pc : Int) + off = (tg : Int) ∧ pc + 3 = nx) (kt : x < 0 → gg_P Γ K Q cs sl tg L st μ) (kf : ¬ x < 0 → gg_P Γ K Q cs sl nx L st μ) : gg_P Γ K Q cs sl pc L (.int x :: st) μ := by
  intro p e s m args below meth c Z H locs ls hC hR hW hS hl hz
  obtain ⟨hx, hb, hr, hml, hown, hts, hin, hE⟩ := id hC
  obtain ⟨hd, ht, rfl⟩ := hd
  exact lv_if_lt hx hb hd ht (fun c' => kt c' p e s m args below meth c Z H locs ls hC hR hW hS hl hz) (fun c' => kf c' p e s m args below meth c Z H locs ls hC hR hW hS hl hz)
theorem gg_iclt {x y : Int32} {off : Int} {tg : Nat} (hd : decode K.2.1 pc = .ok (.if_icmp .lt off, 3) ∧ (pc : Int) + off = (tg : Int) ∧ pc + 3 = nx) (kt : x < y → gg_P Γ K Q cs sl tg L st μ) (kf : ¬ x < y → gg_P Γ K Q cs sl nx L st μ) : gg_P Γ K Q cs sl pc L (.int y :: .int x :: st) μ := by
  intro p e s m args below meth c Z H locs ls hC hR hW hS hl hz
  obtain ⟨hx, hb, hr, hml, hown, hts, hin, hE⟩ := id hC
  obtain ⟨hd, ht, rfl⟩ := hd
  exact lv_icmp_lt hx hb hd ht (fun c' => kt c' p e s m args below meth c Z H locs ls hC hR hW hS hl hz) (fun c' => kf c' p e s m args below meth c Z H locs ls hC hR hW hS hl hz)
theorem gg_ifge {x : Int32} {off : Int} {tg : Nat} (hd : decode K.2.1 pc = .ok (.ifCond .ge off, 3) ∧ (pc : Int) + off = (tg : Int) ∧ pc + 3 = nx) (kt : 0 ≤ x → gg_P Γ K Q cs sl tg L st μ) (kf : ¬ 0 ≤ x → gg_P Γ K Q cs sl nx L st μ) : gg_P Γ K Q cs sl pc L (.int x :: st) μ := by
  intro p e s m args below meth c Z H locs ls hC hR hW hS hl hz
  obtain ⟨hx, hb, hr, hml, hown, hts, hin, hE⟩ := id hC
  obtain ⟨hd, ht, rfl⟩ := hd
  exact lv_if_ge hx hb hd ht (fun c' => kt c' p e s m args below meth c Z H locs ls hC hR hW hS hl hz) (fun c' => kf c' p e s m args below meth c Z H locs ls hC hR hW hS hl hz)
theorem gg_icge {x y : Int32} {off : Int} {tg : Nat} (hd : decode K.2.1 pc = .ok (.if_icmp .ge off, 3) ∧ (pc : Int) + off = (tg : Int) ∧ pc + 3 = nx) (kt : y ≤ x → gg_P Γ K Q cs sl tg L st μ) (kf : ¬ y ≤ x → gg_P Γ K Q cs sl nx L st μ) : gg_P Γ K Q cs sl pc L (.int y :: .int x :: st) μ := by
  intro p e s m args below meth c Z H locs ls hC hR hW hS hl hz
  obtain ⟨hx, hb, hr, hml, hown, hts, hin, hE⟩ := id hC
  obtain ⟨hd, ht, rfl⟩ := hd
  exact lv_icmp_ge hx hb hd ht (fun c' => kt c' p e s m args below meth c Z H locs ls hC hR hW hS hl hz) (fun c' => kf c' p e s m args below meth c Z H locs ls hC hR hW hS hl hz)
theorem gg_ifgt {x : Int32} {off : Int} {tg : Nat} (hd : decode K.2.1 pc = .ok (.ifCond .gt off, 3) ∧ (pc : Int) + off = (tg : Int) ∧ pc + 3 = nx) (kt : 0 < x → gg_P Γ K Q cs sl tg L st μ) (kf : ¬ 0 < x → gg_P Γ K Q cs sl nx L st μ) : gg_P Γ K Q cs sl pc L (.int x :: st) μ := by
  intro p e s m args below meth c Z H locs ls hC hR hW hS hl hz
  obtain ⟨hx, hb, hr, hml, hown, hts, hin, hE⟩ := id hC
  obtain ⟨hd, ht, rfl⟩ := hd
  exact lv_if_gt hx hb hd ht (fun c' => kt c' p e s m args below meth c Z H locs ls hC hR hW hS hl hz) (fun c' => kf c' p e s m args below meth c Z H locs ls hC hR hW hS hl hz)
theorem gg_icgt {x y : Int32} {off : Int} {tg : Nat} (hd : decode K.2.1 pc = .ok (.if_icmp .gt off, 3) ∧ (pc : Int) + off = (tg : Int) ∧ pc + 3 = nx) (kt : y < x → gg_P Γ K Q cs sl tg L st μ) (kf : ¬ y < x → gg_P Γ K Q cs sl nx L st μ) : gg_P Γ K Q cs sl pc L (.int y :: .int x :: st) μ := by
  intro p e s m args below meth c Z H locs ls hC hR hW hS hl hz
  obtain ⟨hx, hb, hr, hml, hown, hts, hin, hE⟩ := id hC
  obtain ⟨hd, ht, rfl⟩ := hd
  exact lv_icmp_gt hx hb hd ht (fun c' => kt c' p e s m args below meth c Z H locs ls hC hR hW hS hl hz) (fun c' => kf c' p e s m args below meth c Z H locs ls hC hR hW hS hl hz)
theorem gg_ifle {x : Int32} {off : Int} {tg : Nat} (hd : decode K.2.1 pc = .ok (.ifCond .le off, 3) ∧ (pc : Int) + off = (tg : Int) ∧ pc + 3 = nx) (kt : x ≤ 0 → gg_P Γ K Q cs sl tg L st μ) (kf : ¬ x ≤ 0 → gg_P Γ K Q cs sl nx L st μ) : gg_P Γ K Q cs sl pc L (.int x :: st) μ := by
  intro p e s m args below meth c Z H locs ls hC hR hW hS hl hz
  obtain ⟨hx, hb, hr, hml, hown, hts, hin, hE⟩ := id hC
  obtain ⟨hd, ht, rfl⟩ := hd
  exact lv_if_le hx hb hd ht (fun c' => kt c' p e s m args below meth c Z H locs ls hC hR hW hS hl hz) (fun c' => kf c' p e s m args below meth c Z H locs ls hC hR hW hS hl hz)
theorem gg_icle {x y : Int32} {off : Int} {tg : Nat} (hd : decode K.2.1 pc = .ok (.if_icmp .le off, 3) ∧ (pc : Int) + off = (tg : Int) ∧ pc + 3 = nx) (kt : x ≤ y → gg_P Γ K Q cs sl tg L st μ) (kf : ¬ x ≤ y → gg_P Γ K Q cs sl nx L st μ) : gg_P Γ K Q cs sl pc L (.int y :: .int x :: st) μ := by
  intro p e s m args below meth c Z H locs ls hC hR hW hS hl hz
  obtain ⟨hx, hb, hr, hml, hown, hts, hin, hE⟩ := id hC
  obtain ⟨hd, ht, rfl⟩ := hd
  exact lv_icmp_le hx hb hd ht (fun c' => kt c' p e s m args below meth c Z H locs ls hC hR hW hS hl hz) (fun c' => kf c' p e s m args below meth c Z H locs ls hC hR hW hS hl hz)
theorem gg_goto {off : Int} {tg : Nat} (hd : decode K.2.1 pc = .ok (.goto off, 3) ∧ (pc : Int) + off = (tg : Int)) (k : gg_P Γ K Q cs sl tg L st μ) : gg_P Γ K Q cs sl pc L st μ := by
  intro p e s m args below meth c Z H locs ls hC hR hW hS hl hz
  obtain ⟨hx, hb, hr, hml, hown, hts, hin, hE⟩ := id hC
  exact lv_goto hx hb hd.1 hd.2 (k p e s m args below meth c Z H locs ls hC hR hW hS hl hz)
theorem gg_nnull {off : Int} {tg a : Nat} (hd : decode K.2.1 pc = .ok (.ifnonnull off, 3) ∧ (pc : Int) + off = (tg : Int) ∧ pc + 3 = nx) (k : gg_P Γ K Q cs sl tg L st μ) : gg_P Γ K Q cs sl pc L (.ref a :: st) μ := by
  intro p e s m args below meth c Z H locs ls hC hR hW hS hl hz
  obtain ⟨hx, hb, hr, hml, hown, hts, hin, hE⟩ := id hC
  exact lv_ifnonnull hx hb hd.1 hd.2.1 (k p e s m args below meth c Z H locs ls hC hR hW hS hl hz)
theorem gg_nnullN {off : Int} {tg : Nat} (hd : decode K.2.1 pc = .ok (.ifnonnull off, 3) ∧ (pc : Int) + off = (tg : Int) ∧ pc + 3 = nx) (k : gg_P Γ K Q cs sl nx L st μ) : gg_P Γ K Q cs sl pc L (.null :: st) μ := by
  intro p e s m args below meth c Z H locs ls hC hR hW hS hl hz
  obtain ⟨hx, hb, hr, hml, hown, hts, hin, hE⟩ := id hC
  obtain ⟨hd, ht, rfl⟩ := hd
  exact lv_ifnonnullN hx hb hd (k p e s m args below meth c Z H locs ls hC hR hW hS hl hz)
/-- a table of jumps: its targets in order, and the default one -/
theorem gg_tab {df lo : Int} {hi : Int} {offs : Array Int} {len dt : Nat} {x : Int32} (tg : List Nat) (hd : decode K.2.1 pc = .ok (.tableswitch df lo hi offs, len) ∧ (pc : Int) + df = (dt : Int) ∧ hi + 1 - lo = (tg.length : Int) ∧ offs.toList.map (fun o => (pc : Int) + o) = tg.map (fun t : Nat => (t : Int))) (kin : ∀ i t : Nat, x.toInt = lo + i → tg[i]? = some t → gg_P Γ K Q cs sl t L st μ) (kout : x.toInt < lo ∨ hi < x.toInt → gg_P Γ K Q cs sl dt L st μ) : gg_P Γ K Q cs sl pc L (.int x :: st) μ := by
  intro p e s m args below meth c Z H locs ls hC hR hW hS hl hz
  obtain ⟨hx, hb, hr, hml, hown, hts, hin, hE⟩ := id hC
  obtain ⟨hd, h1, h2, h3⟩ := hd
  by_cases hout : x.toInt < lo ∨ hi < x.toInt
  · exact lv_tableOut hx hb hd hout h1 (kout hout p e s m args below meth c Z H locs ls hC hR hW hS hl hz)
  · have a1 : ¬ x.toInt < lo := fun q => hout (Or.inl q)
    have a2 : ¬ hi < x.toInt := fun q => hout (Or.inr q)
    have hlt : (x.toInt - lo).toNat < tg.length := by omega
    have e1 := congrArg (fun l => l[(x.toInt - lo).toNat]?) h3
    simp only [List.getElem?_map, List.getElem?_eq_getElem hlt, Option.map_some] at e1
    cases ho : offs.toList[(x.toInt - lo).toNat]? with
    | none => rw [ho] at e1; cases e1
    | some off =>
      rw [ho] at e1
      have e2 := Option.some.inj e1
      refine lv_tableIn (tgt := tg[(x.toInt - lo).toNat]) hx hb hd a1 a2 (by rw [← Array.getElem?_toList]; exact ho) e2 (kin (x.toInt - lo).toNat _ (by omega) (List.getElem?_eq_getElem hlt) p e s m args below meth c Z H locs ls hC hR hW hS hl hz)
theorem fv_get (g : Nat → Int32) : ∀ (fl : List (Option (Option Nat))) (j k : Nat), (fv_l g j fl)[k]? = (fl[k]?).map (fun f => match f with | none => Value.int (g (j + k)) | some x => va_rf x) := by
  intro fl
  induction fl with
  | nil => intro j k; simp [fv_l]
  | cons f r ih =>
    intro j k
    cases k with
    | zero => cases f <;> simp [fv_l]
    | succ k =>
      cases f with
      | none => simp only [fv_l, List.getElem?_cons_succ, ih]; rw [show j + 1 + k = j + (k + 1) by omega]
      | some x => simp only [fv_l, List.getElem?_cons_succ, ih]; rw [show j + 1 + k = j + (k + 1) by omega]
theorem fv_int {g : Nat → Int32} {fl : List (Option (Option Nat))} {k : Nat} (h : fl[k]? = some none) : vp_V (fv_l g 0 fl) k = .int (g k) := by
  have := fv_get g fl 0 k
  rw [h] at this
  simp [vp_V, this]
theorem fv_ref {g : Nat → Int32} {fl : List (Option (Option Nat))} {k : Nat} {x : Option Nat} (h : fl[k]? = some (some x)) : vp_V (fv_l g 0 fl) k = va_rf x := by
  have := fv_get g fl 0 k
  rw [h] at this
  simp [vp_V, this]
theorem fv_setI {g : Nat → Int32} {fl : List (Option (Option Nat))} {k : Nat} (h : fl[k]? = some none) (v : Int32) (j : Nat) : updV (vp_V (fv_l g 0 fl)) k (.int v) j = vp_V (fv_l (upd g k v) 0 fl) j := by
  unfold updV
  by_cases hj : j = k
  · subst hj
    rw [if_pos rfl, fv_int h]
    simp [upd]
  · rw [if_neg hj]
    have h1 := fv_get g fl 0 j
    have h2 := fv_get (upd g k v) fl 0 j
    unfold vp_V
    rw [List.getD_eq_getElem?_getD, List.getD_eq_getElem?_getD, h1, h2]
    cases fl[j]? with
    | none => rfl
    | some f => cases f <;> simp [upd, hj]
theorem fv_setR {g : Nat → Int32} {fl : List (Option (Option Nat))} {k b : Nat} (h : k < fl.length) (j : Nat) : updV (vp_V (fv_l g 0 fl)) k (.ref b) j = vp_V (fv_l g 0 (fl.set k (some (some b)))) j := by
  unfold updV
  have h2 := fv_get g (fl.set k (some (some b))) 0 j
  by_cases hj : j = k
  · subst hj
    rw [if_pos rfl]
    rw [List.getElem?_set_self h] at h2
    simp [vp_V, h2, va_rf]
  · rw [if_neg hj]
    have h1 := fv_get g fl 0 j
    rw [List.getElem?_set_ne (Ne.symm hj)] at h2
    unfold vp_V
    rw [List.getD_eq_getElem?_getD, List.getD_eq_getElem?_getD, h1, h2]
/-- what the tables say of each class -/
theorem cls_ok : ∀ (ci : Nat) (r : vw_C), vwCl[ci]? = some r → (∀ w ∈ u_ws r.1 r.2.1 r.2.2, w ∈ wd_all) ∧ (∃ ty : Nat → FieldType, ∀ k, k < r.2.2 → parseFieldDescriptor (r.2.1 k).2.2.1 = some (ty k)) ∧ (∀ a, a < r.2.2 → ∀ b, b < r.2.2 → a ≠ b → (r.2.1 a).2.1 ≠ (r.2.1 b).2.1) := by
  have hin : ∀ r ∈ vwCl, ∀ w ∈ u_ws r.1 r.2.1 r.2.2, w ∈ lw_tbl ∧ goodWord w = true := by decide +kernel
  intro ci r h
  refine ⟨fun w hw => List.mem_filter.mpr (hin r (List.mem_of_getElem? h) w hw), ?_⟩
  match ci, h with
  | 0, h => cases h; exact ⟨⟨tyX0, tyX0_ok⟩, nmX0⟩
  | 1, h => cases h; exact ⟨⟨tyX1, tyX1_ok⟩, nmX1⟩
  | 2, h => cases h; exact ⟨⟨tyX3, tyX3_ok⟩, nmX3⟩
  | 3, h => cases h; exact ⟨⟨tyX5, tyX5_ok⟩, nmX5⟩
  | 4, h => cases h; exact ⟨⟨tyX6, tyX6_ok⟩, nmX6⟩
  | 5, h => cases h; exact ⟨⟨tyX7, tyX7_ok⟩, nmX7⟩
  | n + 6, h => simp [vwCl] at h
/-- the class that a field reference names: the declarer, or one that inherits it -/
def lq_P (ref : String) (t : String × String × String × Bool) : Prop := ref = t.1 ∨ Cond.sameField ref t.1 t.2.1 t.2.2.1 ∈ wd_all
theorem lq_same {args : Array Value} {s : State} {ref : String} {t : String × String × String × Bool} (hts : ∀ w ∈ wd_all, w.before args s = true) (h : lq_P ref t) (x : ClassId × Class × Nat × Field) (ho : s.fieldFound? t.1 t.2.1 t.2.2.1 = some x) : s.fieldFound? ref t.2.1 t.2.2.1 = some x := by
  rcases h with rfl | h
  · exact ho
  · exact u_same (hts _ h) x ho
def lf_P (own : String) (idx ci k : Nat) : Prop := ∃ r : vw_C, vwCl[ci]? = some r ∧ k < r.2.2 ∧ ∃ ref : String, Cond.fieldLink own idx ref (r.2.1 k).2.1 (r.2.1 k).2.2.1 ∈ wd_all ∧ lq_P ref (r.2.1 k)
def lp_P (own : String) (idx ci k : Nat) (z : Bool) : Prop := ∃ r : vw_C, vwCl[ci]? = some r ∧ k < r.2.2 ∧ Cond.fieldLink own idx (r.2.1 k).1 (r.2.1 k).2.1 (r.2.1 k).2.2.1 ∈ wd_all ∧ (r.2.1 k).2.2.2 = false ∧ (r.2.1 k).2.2.1 = (if z then "Z" else "I")
def lr_P (own : String) (idx ci k : Nat) : Prop := ∃ r : vw_C, vwCl[ci]? = some r ∧ k < r.2.2 ∧ Cond.fieldLink own idx (r.2.1 k).1 (r.2.1 k).2.1 (r.2.1 k).2.2.1 ∈ wd_all ∧ (r.2.1 k).2.2.2 = true ∧ (r.2.1 k).1 = own ∧ ∃ ty, parseFieldDescriptor (r.2.1 k).2.2.1 = some ty ∧ ∀ b : Nat, narrow ty (.ref b) = .ref b ∧ fits ty (.ref b) = true
theorem gg_get0 {idx ci k a : Nat} {fl : List (Option (Option Nat))} {v : Value} (hd : decode K.2.1 pc = .ok (.getfield idx, 3) ∧ pc + 3 = nx) (hf : lf_P K.1.cls idx ci k) (hs : μ.1.2 a = .inr (.inr (ci, fl))) (hv : vp_V (fv_l (μ.2 a) 0 fl) k = v) (kk : gg_P Γ K Q cs sl nx L (v :: st) μ) : gg_P Γ K Q cs sl pc L (.ref a :: st) μ := by
  intro p e s m args below meth c Z H locs ls hC hR hW hS hl hz
  obtain ⟨hx, hb, hr, hml, hown, hts, hin, hE⟩ := id hC
  obtain ⟨hd, rfl⟩ := hd
  obtain ⟨r, hr, hk, ref, hlink, href⟩ := hf
  obtain ⟨hin9, -, -⟩ := cls_ok ci r hr
  have hW9 := hW.2.2.2.2.2 a
  rw [hs] at hW9
  obtain ⟨⟨r', h1, cell, q1, q2, q3, q4⟩, -⟩ := hW9
  cases h1.symm.trans hr
  obtain ⟨hS9, hfc, kC, hkC, hkind⟩ := hW.1.1 ci _ hr
  obtain ⟨cf, kf, fi, f, hi, hsl⟩ := hS9 k hk
  refine W.getf hx hb hown (hts _ hlink) (lq_same hts href _ hi) (u_facts hfc hkC (u_lays hts hin9 hk) hi).1 q1 (by rw [q3]; exact fun h => by cases h) (v := v) ?_ rfl rfl hd (kk p e s m args below meth c Z H locs ls hC hR hW hS hl hz)
  rw [hsl, q4 k hk, hv]
/-- an int field is read -/
theorem gg_geti {idx ci k a : Nat} {fl : List (Option (Option Nat))} (hd : decode K.2.1 pc = .ok (.getfield idx, 3) ∧ pc + 3 = nx) (hf : lf_P K.1.cls idx ci k) (hs : μ.1.2 a = .inr (.inr (ci, fl))) (hk : fl[k]? = some none) (kk : gg_P Γ K Q cs sl nx L (.int (μ.2 a k) :: st) μ) : gg_P Γ K Q cs sl pc L (.ref a :: st) μ := gg_get0 hd hf hs (fv_int hk) kk
/-- a reference field is read -/
theorem gg_getr {idx ci k a b : Nat} {fl : List (Option (Option Nat))} (hd : decode K.2.1 pc = .ok (.getfield idx, 3) ∧ pc + 3 = nx) (hf : lf_P K.1.cls idx ci k) (hs : μ.1.2 a = .inr (.inr (ci, fl))) (hk : fl[k]? = some (some (some b))) (kk : gg_P Γ K Q cs sl nx L (.ref b :: st) μ) : gg_P Γ K Q cs sl pc L (.ref a :: st) μ := gg_get0 hd hf hs (fv_ref hk) kk
/-- an int field is written -/
theorem gg_put0 {idx ci k a : Nat} {z : Bool} {fl : List (Option (Option Nat))} {v : Int32} {τ : Nat × (Nat → sh_T)} {ν : Nat → Nat → Int32} (hd : decode K.2.1 pc = .ok (.putfield idx, 3) ∧ pc + 3 = nx) (hf : lp_P K.1.cls idx ci k z) (hs : τ.2 a = .inr (.inr (ci, fl))) (hk9 : fl[k]? = some none) (hv : z = false ∨ v = 0 ∨ v = 1) (kk : gg_P Γ K Q cs sl nx L st (τ, up_2 ν a k v)) : gg_P Γ K Q cs sl pc L (.int v :: .ref a :: st) (τ, ν) := by
  intro p e s m args below meth c Z H locs ls hC hR hW hS hl hz
  obtain ⟨hx, hb, hr, hml, hown, hts, hin, hE⟩ := id hC
  obtain ⟨hd, rfl⟩ := hd
  obtain ⟨r, hr, hk, hlink, hfin, hdesc⟩ := hf
  obtain ⟨hin9, ⟨ty9, hty9⟩, hnm9⟩ := cls_ok ci r hr
  have hW9 := hW.2.2.2.2.2 a
  have hs' : ((τ, ν) : mm_T).1.2 a = .inr (.inr (ci, fl)) := hs
  rw [hs'] at hW9
  obtain ⟨⟨r', h1, cell, q1, q2, q3, q4⟩, hlo⟩ := hW9
  cases h1.symm.trans hr
  have hap := va_apart (own := K.1.cls) hts hin9 ty9 hty9 hnm9 hW.1 hr
  obtain ⟨hS9, hfc, kC, hkC, hkind⟩ := hW.1.1 ci _ hr
  obtain ⟨cf, kf, fi, f, hi, hsl⟩ := hS9 k hk
  have hlay := hts _ (hin9 _ (u_in_lay hk))
  unfold u_lay at hlay
  rw [if_neg (by rw [hfin]; decide)] at hlay
  have hst := (u_facts hfc hkC (u_lays hts hin9 hk) hi).1
  have h6 : k2_Sd s f (Γ.2.1.1 ci) (.int v) := by
    cases z with
    | false =>
      exact u_store (ty := .int) hfc hkC hkind hlay hi (by rw [hdesc]; decide +kernel) rfl rfl
    | true =>
      have hv' : v = 0 ∨ v = 1 := by rcases hv with h | h; cases h; exact h
      refine u_store (ty := .boolean) hfc hkC hkind hlay hi (by rw [hdesc]; decide +kernel) ?_ ?_
      · rcases hv' with rfl | rfl <;> rfl
      · rcases hv' with rfl | rfl <;> rfl
  refine W.putK hx hb (f := f) ⟨hown, hts _ hlink, ⟨_, _, _, hi⟩, hst⟩ (by rw [q2]; exact h6) q1 q3 (by rw [hsl]; exact k2_hasslot (q4 k hk)) rfl rfl hd fun H' e1 e2 e3 => ?_
  rw [hsl] at e1 ⊢
  refine kk p e s m args below meth c Z H' _ ls hC hR ?_ (hS.put e2 e3 hlo) hl hz
  refine wm_put hW e2 e3 hlo (fun b hb => by funext j; simp [up_2, hb]) ?_
  rw [hs]
  refine ⟨⟨_, hr, t_OB.to (V := updV (vp_V (fv_l (ν a) 0 fl)) k (.int v)) ⟨_, e1, q2, q3, t_set q4 hap hk (.int v)⟩ (fun j _ => ?_)⟩, hlo⟩
  rw [fv_setI hk9]
  have : upd (ν a) k v = up_2 ν a k v a := by funext j; simp [upd, up_2]
  rw [this]
theorem gg_puti {idx ci k a : Nat} {fl : List (Option (Option Nat))} {v : Int32} {τ : Nat × (Nat → sh_T)} {ν : Nat → Nat → Int32} (hd : decode K.2.1 pc = .ok (.putfield idx, 3) ∧ pc + 3 = nx) (hf : lp_P K.1.cls idx ci k false) (hs : τ.2 a = .inr (.inr (ci, fl))) (hk9 : fl[k]? = some none) (kk : gg_P Γ K Q cs sl nx L st (τ, up_2 ν a k v)) : gg_P Γ K Q cs sl pc L (.int v :: .ref a :: st) (τ, ν) := gg_put0 hd hf hs hk9 (Or.inl rfl) kk
theorem gg_putz {idx ci k a : Nat} {fl : List (Option (Option Nat))} {v : Int32} {τ : Nat × (Nat → sh_T)} {ν : Nat → Nat → Int32} (hd : decode K.2.1 pc = .ok (.putfield idx, 3) ∧ pc + 3 = nx) (hf : lp_P K.1.cls idx ci k true) (hs : τ.2 a = .inr (.inr (ci, fl))) (hk9 : fl[k]? = some none) (hv : v = 0 ∨ v = 1) (kk : gg_P Γ K Q cs sl nx L st (τ, up_2 ν a k v)) : gg_P Γ K Q cs sl pc L (.int v :: .ref a :: st) (τ, ν) := gg_put0 hd hf hs hk9 (Or.inr hv) kk
/-- a final field of references is written, in the class's own constructor -/
theorem gg_putr {idx ci k a b : Nat} {fl : List (Option (Option Nat))} {τ : Nat × (Nat → sh_T)} {ν : Nat → Nat → Int32} (hd : decode K.2.1 pc = .ok (.putfield idx, 3) ∧ pc + 3 = nx) (hi9 : K.1.name = "<init>") (hf : lr_P K.1.cls idx ci k) (hs : τ.2 a = .inr (.inr (ci, fl))) (hk9 : k < fl.length) (kk : gg_P Γ K Q cs sl nx L st ((τ.1, va_up τ.2 a (.inr (.inr (ci, fl.set k (some (some b)))))), ν)) : gg_P Γ K Q cs sl pc L (.ref b :: .ref a :: st) (τ, ν) := by
  intro p e s m args below meth c Z H locs ls hC hR hW hS hl hz
  obtain ⟨hx, hb, hr, hml, hown, hts, hin, hE⟩ := id hC
  obtain ⟨hd, rfl⟩ := hd
  obtain ⟨r, hr, hk, hlink, hfin, hdecl, ty, hty, hnf⟩ := hf
  obtain ⟨hin9, ⟨ty9, hty9⟩, hnm9⟩ := cls_ok ci r hr
  have hW9 := hW.2.2.2.2.2 a
  have hs' : ((τ, ν) : mm_T).1.2 a = .inr (.inr (ci, fl)) := hs
  rw [hs'] at hW9
  obtain ⟨⟨r', h1, cell, q1, q2, q3, q4⟩, hlo⟩ := hW9
  cases h1.symm.trans hr
  have hap := va_apart (own := K.1.cls) hts hin9 ty9 hty9 hnm9 hW.1 hr
  obtain ⟨hS9, hfc, kC, hkC, hkind⟩ := hW.1.1 ci _ hr
  obtain ⟨cf, kf, fi, f, hi, hsl⟩ := hS9 k hk
  have hlay := hts _ (hin9 _ (u_in_lay hk))
  unfold u_lay at hlay
  rw [if_pos hfin] at hlay
  have hst := (u_facts hfc hkC (u_lays hts hin9 hk) hi).1
  have hcf : m.cls = cf := by
    obtain ⟨_, _, c', _, _, _, -, -, hf', -, -, -, hown2, -⟩ := Cond.laysFinal_spec hlay
    have e1 : c' = cf := by have := hi.symm.trans hf'; simp at this; exact this.1.symm
    rw [hdecl] at hown2
    rw [← e1]; exact Option.some.inj (hown.symm.trans hown2)
  have h6 := u_fits hfc hkC hkind (Or.inr hlay) hi hty (hnf b).1 (hnf b).2
  refine W.putFinK hx hb hown (hts _ hlink) hi hst hcf (hin.trans hi9) (by rw [q2]; exact h6) q1 q3 (by rw [hsl]; exact k2_hasslot (q4 k hk)) rfl rfl hd fun H' e1 e2 e3 => ?_
  rw [hsl] at e1 ⊢
  refine kk p e s m args below meth c Z H' _ ls hC hR ?_ (hS.put e2 e3 hlo) hl hz
  refine wm_putS hW e2 e3 hlo ?_
  exact ⟨⟨_, hr, t_OB.to (V := updV (vp_V (fv_l (ν a) 0 fl)) k (.ref b)) ⟨_, e1, q2, q3, t_set q4 hap hk (.ref b)⟩ (fun j _ => fv_setR hk9 j)⟩, hlo⟩
/-- an int is read out of an array -/
theorem gg_iald {a n : Nat} {i : Int32} (hd : decode K.2.1 pc = .ok (.iaload, 1) ∧ pc + 1 = nx) (hs : μ.1.2 a = .inl (0, n)) (hin : vp_in i n) (kk : gg_P Γ K Q cs sl nx L (.int (μ.2 a i.toNatClampNeg) :: st) μ) : gg_P Γ K Q cs sl pc L (.int i :: .ref a :: st) μ := by
  intro p e s m args below meth c Z H locs ls hC hR hW hS hl hz
  obtain ⟨hx, hb, hr, hml, hown, hts, hin, hE⟩ := id hC
  obtain ⟨hd, rfl⟩ := hd
  have hin : vp_in i n := by assumption
  have hlt : i.toNatClampNeg < n := Nat.not_le.mp fun q => hin (Or.inr q)
  have hW9 := hW.2.2.2.2.2 a
  rw [hs] at hW9
  have hA := (hW.1.2 0 (cx_cI Γ, .int) rfl).1
  exact W.iald (v := .int (μ.2 a i.toNatClampNeg)) hx hb hW9.1 (hA n (fun j => .int (μ.2 a j))) (fun q => by cases q) (by rw [arrV_size]; exact hin) (by rw [arrV_read _ _ hlt]) rfl rfl hd (kk p e s m args below meth c Z H locs ls hC hR hW hS hl hz)
theorem gg_iald2 {a n : Nat} {i : Int32} (hd : decode K.2.1 pc = .ok (.iaload, 1) ∧ pc + 1 = nx) (hs : μ.1.2 a = .inl (2, n)) (hin : vp_in i n) (kk : gg_P Γ K Q cs sl nx L (.int (μ.2 a i.toNatClampNeg) :: st) μ) : gg_P Γ K Q cs sl pc L (.int i :: .ref a :: st) μ := by
  intro p e s m args below meth c Z H locs ls hC hR hW hS hl hz
  obtain ⟨hx, hb, hr, hml, hown, hts, hin, hE⟩ := id hC
  obtain ⟨hd, rfl⟩ := hd
  have hin : vp_in i n := by assumption
  have hlt : i.toNatClampNeg < n := Nat.not_le.mp fun q => hin (Or.inr q)
  have hW9 := hW.2.2.2.2.2 a
  rw [hs] at hW9
  obtain ⟨cell, h1, h2, h3, h4, h5, h6, h7⟩ := hW9
  refine W.iald (v := .int (μ.2 a i.toNatClampNeg)) hx hb h1 h2 h3 (fun q => ?_) (h6 _ hlt) rfl rfl hd (kk p e s m args below meth c Z H locs ls hC hR hW hS hl hz)
  rcases q with q | q
  · exact hin (Or.inl q)
  · omega
theorem gg_aald {a n : Nat} {f : Nat → Option Nat} {i : Int32} (hd : decode K.2.1 pc = .ok (.aaload, 1) ∧ pc + 1 = nx) (hs : μ.1.2 a = .inr (.inl (n, f))) (hin : vp_in i n) (kk : gg_P Γ K Q cs sl nx L (va_rf (f i.toNatClampNeg) :: st) μ) : gg_P Γ K Q cs sl pc L (.int i :: .ref a :: st) μ := by
  intro p e s m args below meth c Z H locs ls hC hR hW hS hl hz
  obtain ⟨hx, hb, hr, hml, hown, hts, hin, hE⟩ := id hC
  obtain ⟨hd, rfl⟩ := hd
  have hin : vp_in i n := by assumption
  have hlt : i.toNatClampNeg < n := Nat.not_le.mp fun q => hin (Or.inr q)
  have hW9 := hW.2.2.2.2.2 a
  rw [hs] at hW9
  have hA := (hW.1.2 2 (cx_cA Γ, .object "FeedAxis$Axis") rfl).1
  exact W.aald (v := va_rf (f i.toNatClampNeg)) (ty := .object "FeedAxis$Axis") hx hb hW9.1 (hA n (fun j => va_rf (f j))) rfl (fun q => by cases q) (by rw [arrV_size]; exact hin) (by rw [arrV_read _ _ hlt]) rfl rfl hd (kk p e s m args below meth c Z H locs ls hC hR hW hS hl hz)
/-- an int is written into an array -/
theorem gg_iast {a n : Nat} {i v : Int32} {τ : Nat × (Nat → sh_T)} {ν : Nat → Nat → Int32} (hd : decode K.2.1 pc = .ok (.iastore, 1) ∧ pc + 1 = nx) (hs : τ.2 a = .inl (0, n)) (hin : vp_in i n) (kk : gg_P Γ K Q cs sl nx L st (τ, up_2 ν a i.toNatClampNeg v)) : gg_P Γ K Q cs sl pc L (.int v :: .int i :: .ref a :: st) (τ, ν) := by
  intro p e s m args below meth c Z H locs ls hC hR hW hS hl hz
  obtain ⟨hx, hb, hr, hml, hown, hts, hin, hE⟩ := id hC
  obtain ⟨hd, rfl⟩ := hd
  have hin : vp_in i n := by assumption
  have hW9 := hW.2.2.2.2.2 a
  have hs' : ((τ, ν) : mm_T).1.2 a = .inl (0, n) := hs
  rw [hs'] at hW9
  have hA := (hW.1.2 0 (cx_cI Γ, .int) rfl).1
  refine W.iast hx hb hW9.1 (hA n _) (fun q => by cases q) (by rw [arrV_size]; exact hin) rfl rfl hd fun H1 e z oq => ?_
  refine kk p _ s m args below meth c Z H1 _ ls hC hR ?_ (hS.put z oq hW9.2) hl hz
  refine wm_put hW z oq hW9.2 (fun b hb => by funext j; simp [up_2, hb]) ?_
  rw [hs]
  refine ⟨?_, hW9.2⟩
  rw [e, arrV_store]
  congr 2
  funext q
  by_cases hq : q = i.toNatClampNeg
  · subst hq; simp [updV, up_2]
  · simp [updV, up_2, hq]
/-- an Axis is put into an array of them -/
theorem gg_aast {a n b : Nat} {f : Nat → Option Nat} {fl : List (Option (Option Nat))} {i : Int32} {τ : Nat × (Nat → sh_T)} {ν : Nat → Nat → Int32} (hd : decode K.2.1 pc = .ok (.aastore, 1) ∧ pc + 1 = nx) (hs : τ.2 a = .inr (.inl (n, f))) (hsb : τ.2 b = .inr (.inr (0, fl))) (hin : vp_in i n) (kk : gg_P Γ K Q cs sl nx L st ((τ.1, va_up τ.2 a (.inr (.inl (n, va_up f i.toNatClampNeg (some b))))), ν)) : gg_P Γ K Q cs sl pc L (.ref b :: .int i :: .ref a :: st) (τ, ν) := by
  intro p e s m args below meth c Z H locs ls hC hR hW hS hl hz
  obtain ⟨hx, hb, hr, hml, hown, hts, hin, hE⟩ := id hC
  obtain ⟨hd, rfl⟩ := hd
  have hin : vp_in i n := by assumption
  have hW9 := hW.2.2.2.2.2 a
  have hs' : ((τ, ν) : mm_T).1.2 a = .inr (.inl (n, f)) := hs
  rw [hs'] at hW9
  have hWb := hW.2.2.2.2.2 b
  have hsb' : ((τ, ν) : mm_T).1.2 b = .inr (.inr (0, fl)) := hsb
  rw [hsb'] at hWb
  obtain ⟨⟨r', hr', cellV, g1, g2, g3, -⟩, -⟩ := hWb
  have hcls := (hW.1.1 0 (RX0, TX0, 14) rfl).2
  obtain ⟨kA, comp, k1, k2, k3, -⟩ := (hW.1.2 2 (cx_cA Γ, .object "FeedAxis$Axis") rfl).2
  have hcomp : comp = Γ.2.1.1 0 := Option.some.inj (k3.symm.trans hcls.1)
  subst hcomp
  obtain ⟨kC, hkC, -⟩ := hcls.2
  have hlt : i.toNatClampNeg < n := Nat.not_le.mp fun q => hin (Or.inr q)
  have h0 : ¬ i < 0 := fun q => hin (Or.inl q)
  refine W.aast hx hb hW9.1 (fun q h => by cases h) (fun h => by cases h) k1 k2 rfl hkC ⟨h0, by rw [arrV_size]; exact hlt⟩ g1 (fun q h => by rw [g3] at h; cases h) (by rw [g2]; exact hkC) (by rw [g2]; exact va_assign hcls) rfl rfl hd fun H1 e z oq => ?_
  refine kk p _ s m args below meth c Z H1 _ ls hC hR ?_ (hS.put z oq hW9.2) hl hz
  refine wm_putS hW z oq hW9.2 ?_
  refine ⟨?_, hW9.2⟩
  rw [e, arrV_store]
  congr 2
  funext q
  by_cases hq : q = i.toNatClampNeg
  · subst hq; simp [updV, va_up, va_rf]
  · simp [updV, va_up, hq]
theorem gg_alen {a n : Nat} {v : Int32} (hd : decode K.2.1 pc = .ok (.arraylength, 1) ∧ pc + 1 = nx) (hs : μ.1.2 a = .inl (0, n) ∨ μ.1.2 a = .inl (2, n) ∨ (∃ f, μ.1.2 a = .inr (.inl (n, f)))) (hv : Int32.ofNat n = v) (kk : gg_P Γ K Q cs sl nx L (.int v :: st) μ) : gg_P Γ K Q cs sl pc L (.ref a :: st) μ := by
  intro p e s m args below meth c Z H locs ls hC hR hW hS hl hz
  obtain ⟨hx, hb, hr, hml, hown, hts, hin, hE⟩ := id hC
  obtain ⟨hd, rfl⟩ := hd
  subst hv
  have k' := kk p e s m args below meth c Z H locs ls hC hR hW hS hl hz
  have hW9 := hW.2.2.2.2.2 a
  rcases hs with hs | hs | ⟨f, hs⟩
  · rw [hs] at hW9
    exact W.alen (n := Int32.ofNat n) hx hb hW9.1 ((hW.1.2 0 (cx_cI Γ, .int) rfl).1 n _) (by rw [arrV_size]) rfl rfl hd k'
  · rw [hs] at hW9
    obtain ⟨cell, h1, h2, h3, h4, h5, h6, h7⟩ := hW9
    exact W.alen (n := Int32.ofNat n) hx hb h1 h2 h5 rfl rfl hd k'
  · rw [hs] at hW9
    exact W.alen (n := Int32.ofNat n) hx hb hW9.1 ((hW.1.2 2 (cx_cA Γ, .object "FeedAxis$Axis") rfl).1 n _) (by rw [arrV_size]) rfl rfl hd k'
theorem gg_gets {idx a : Nat} {n : String} (hd : decode K.2.1 pc = .ok (.getstatic idx, 3) ∧ pc + 3 = nx) (ha : (n = "LEAST" ∧ a = cx_aL Γ) ∨ (n = "GREATEST" ∧ a = cx_aG Γ)) (hw : Cond.fieldLink K.1.cls idx "FeedAxis$Axis" n "[I" ∈ wd_all) (kk : gg_P Γ K Q cs sl nx L (.ref a :: st) μ) : gg_P Γ K Q cs sl pc L st μ := by
  intro p e s m args below meth c Z H locs ls hC hR hW hS hl hz
  obtain ⟨hx, hb, hr, hml, hown, hts, hin, hE⟩ := id hC
  obtain ⟨hd, rfl⟩ := hd
  have hZ : va_Z "FeedAxis$Axis" n "[I" (.ref a) (fun q => cx_lo Γ ≤ q) s H := by
    rcases ha with ⟨rfl, rfl⟩ | ⟨rfl, rfl⟩
    · exact hW.2.1
    · exact hW.2.2.1
  obtain ⟨cf, kf, fi, f, a9, cell, h1, h2, h3, h4, h5, h6, h7, h8⟩ := hZ
  exact W.gets hx hb hown (hts _ hw) h1 h2 h3 h4 h5 (fun e => by rw [e] at h6; cases h6) h7 rfl hd (kk p e s m args below meth c Z H locs ls hC hR hW hS hl hz)
theorem gg_obj {idx a : Nat} (hd : decode K.2.1 pc = .ok (.invokespecial idx, 3) ∧ pc + 3 = nx) (hw : Cond.methodLink K.1.cls idx Lib.objectInit ∈ wd_all ∧ Cond.instanceMethod Lib.objectInit ∈ wd_all ∧ Cond.code Lib.objectInit ⟨#[0xb1]⟩ 1 none ∈ wd_all) (hrm : 1 ≤ (mt_rm K).frames ∧ (st.map fun v => v.category).sum + 12 ≤ (mt_rm K).locals) (kk : gg_P Γ K Q cs sl nx L st μ) : gg_P Γ K Q cs sl pc L (.ref a :: st) μ := by
  intro p e s m args below meth c Z H locs ls hC hR hW hS hl hz
  obtain ⟨hx, hb, hr, hml, hown, hts, hin, hE⟩ := id hC
  obtain ⟨hd, rfl⟩ := hd
  exact W.objInit hx hb hown (hts _ hw.1) (hts _ hw.2.1) (hts _ hw.2.2) rfl (hl.1.trans hml.symm) rfl hd hrm.1 (by show 2 * 0 + _ + 12 ≤ _; omega) (kk p e s m args below meth c Z H locs ls hC hR hW hS hl hz)
theorem gg_iret {x : Int32} (hd : decode K.2.1 pc = .ok (.ireturn, 1)) (hr9 : K.2.2.2.1 = some .int) (hc : cs ≤ (mt_rm K).cells ∧ sl ≤ (mt_rm K).slots) (hq : Q (some (.int x)) μ) : gg_P Γ K Q cs sl pc L [.int x] μ := by
  intro p e s m args below meth c Z H locs ls hC hR hW hS hl hz
  obtain ⟨hx, hb, hr, hml, hown, hts, hin, hE⟩ := id hC
  exact W.widen hc.1 hc.2 (hR pc ls (some (.int x)) H locs μ (Or.inr (Or.inl ⟨x, rfl, Or.inl hr9, hd⟩)) hW hS hq)
theorem gg_zret {x : Int32} (hd : decode K.2.1 pc = .ok (.ireturn, 1)) (hr9 : K.2.2.2.1 = some .boolean) (hx9 : x = 0 ∨ x = 1) (hc : cs ≤ (mt_rm K).cells ∧ sl ≤ (mt_rm K).slots) (hq : Q (some (.int x)) μ) : gg_P Γ K Q cs sl pc L [.int x] μ := by
  intro p e s m args below meth c Z H locs ls hC hR hW hS hl hz
  obtain ⟨hx, hb, hr, hml, hown, hts, hin, hE⟩ := id hC
  exact W.widen hc.1 hc.2 (hR pc ls (some (.int x)) H locs μ (Or.inr (Or.inl ⟨x, rfl, Or.inr ⟨hr9, hx9⟩, hd⟩)) hW hS hq)
theorem gg_vret (hd : decode K.2.1 pc = .ok (.return_, 1)) (hr9 : K.2.2.2.1 = none) (hc : cs ≤ (mt_rm K).cells ∧ sl ≤ (mt_rm K).slots) (hq : Q none μ) : gg_P Γ K Q cs sl pc L [] μ := by
  intro p e s m args below meth c Z H locs ls hC hR hW hS hl hz
  obtain ⟨hx, hb, hr, hml, hown, hts, hin, hE⟩ := id hC
  exact W.widen hc.1 hc.2 (hR pc ls none H locs μ (Or.inl ⟨rfl, hr9, hd⟩) hW hS hq)
theorem gg_aret {r : Option Nat} {n : String} (hd : decode K.2.1 pc = .ok (.areturn, 1)) (hr9 : K.2.2.2.1 = some (.object n)) (hc : cs ≤ (mt_rm K).cells ∧ sl ≤ (mt_rm K).slots) (hq : Q (some (va_rf r)) μ) : gg_P Γ K Q cs sl pc L [va_rf r] μ := by
  intro p e s m args below meth c Z H locs ls hC hR hW hS hl hz
  obtain ⟨hx, hb, hr, hml, hown, hts, hin, hE⟩ := id hC
  exact W.widen hc.1 hc.2 (hR pc ls (some (va_rf r)) H locs μ (Or.inr (Or.inr (Or.inl ⟨r, rfl, ⟨n, hr9⟩, hd⟩))) hW hS hq)
theorem gg_lret {x : Int64} (hd : decode K.2.1 pc = .ok (.lreturn, 1)) (hr9 : K.2.2.2.1 = some .long) (hc : cs ≤ (mt_rm K).cells ∧ sl ≤ (mt_rm K).slots) (hq : Q (some (.long x)) μ) : gg_P Γ K Q cs sl pc L [.long x] μ := by
  intro p e s m args below meth c Z H locs ls hC hR hW hS hl hz
  obtain ⟨hx, hb, hr, hml, hown, hts, hin, hE⟩ := id hC
  exact W.widen hc.1 hc.2 (hR pc ls (some (.long x)) H locs μ (Or.inr (Or.inr (Or.inr ⟨x, rfl, hr9, hd⟩))) hW hS hq)

def ce_V (K' : mt_K) (n : Nat) : Prop := Cond.instanceMethod K'.1 ∈ wd_all ∧ Cond.selects K'.1.cls K'.1 K'.1 ∈ wd_all ∧ Cond.initialized K'.1.cls ∈ wd_all ∧ Cond.code K'.1 K'.2.1 K'.2.2.1 K'.2.2.2.1 ∈ wd_all ∧ K'.1.cls ≠ "java/lang/invoke/MethodHandle" ∧ K'.1.cls ≠ "java/lang/invoke/VarHandle" ∧ (parseMethodDescriptor K'.1.desc).map (fun d => d.parameters.length) = some n
def ce_S (K' : mt_K) (n : Nat) : Prop := Cond.static K'.1 ∈ wd_all ∧ Cond.initialized K'.1.cls ∈ wd_all ∧ Cond.code K'.1 K'.2.1 K'.2.2.1 K'.2.2.2.1 ∈ wd_all ∧ K'.1.cls ≠ "java/lang/invoke/MethodHandle" ∧ K'.1.cls ≠ "java/lang/invoke/VarHandle" ∧ (parseMethodDescriptor K'.1.desc).map (fun d => d.parameters.length) = some n
def ce_I (K' : mt_K) (n : Nat) : Prop := K'.1.name = "<init>" ∧ K'.2.2.2.1 = none ∧ Cond.instanceMethod K'.1 ∈ wd_all ∧ Cond.initialized K'.1.cls ∈ wd_all ∧ Cond.code K'.1 K'.2.1 K'.2.2.1 K'.2.2.2.1 ∈ wd_all ∧ K'.1.cls ≠ "java/lang/invoke/MethodHandle" ∧ K'.1.cls ≠ "java/lang/invoke/VarHandle" ∧ (parseMethodDescriptor K'.1.desc).map (fun d => d.parameters.length) = some n
def rm_le (K K' : mt_K) : Prop := (mt_rm K').frames + 1 ≤ (mt_rm K).frames ∧ 8 + (K'.2.2.1 + 11) + (mt_rm K').locals ≤ (mt_rm K).locals
def cr_le (K K' : mt_K) (cs sl : Nat) : Prop := cs + (mt_rm K').cells ≤ (mt_rm K).cells ∧ sl + (mt_rm K').slots ≤ (mt_rm K).slots
theorem mt_blind {Γ : cx_T} {av : List Value} {μ : mm_T} : FrameBlind (va_Pc av (fun U => wm_P Γ μ U U.heap ∧ ex_P U)) := fun a U g mk q => ⟨q.1, wm_moved (u := U) (U := U.calling g mk a) (Vm.Alike.refl U.vm) q.2.1, va_AO.moved (u := U) (U := U.calling g mk a) (Vm.Alike.refl U.vm) q.2.2.1, va_Nw.same (u := U) (U := U.calling g mk a) rfl rfl q.2.2.2⟩
/-- behind any call: what its contract says -/
theorem gg_back {p : Program} {e : Env} {s : State} {m : MethodId} {args : Array Value} {below : List Frame} {meth : Method} {c : Code} {Z : State → Prop} {H : Heap} {locs : List Loc} {ls : Array Slot} {K' : mt_K} {rest : List Value} {Q' : Option Value → mm_T → Prop}
    (hC : cx_P K p s m args meth c) (hR : rh_P Γ K Q p e s m args below meth c Z) (hS : va_S (fun q => cx_lo Γ ≤ q) s.heap H locs) (hl : lc_P ls K.2.2.1 L) (hz : cx_lo Γ ≤ s.heap.size)
    (hr : va_Run p Γ.1 e (mt_rm K) s m args below meth c H locs cs sl (mt_rm K').cells (mt_rm K').slots (F0 m pc ls st) rest (fun st o t => (∃ (v : Option Value) (μ' : mm_T), o = .returned v ∧ Q' v μ' ∧ wm_P Γ μ' t t.heap) ∧ va_F (fun q => cx_lo Γ ≤ q) st t) (fun q => cx_lo Γ ≤ q))
    (kk : ∀ (v : Option Value) (μ' : mm_T), Q' v μ' → gg_P Γ K Q (cs + (mt_rm K').cells) (sl + (mt_rm K').slots) (pc + 3) L (v.toList ++ rest) μ') : W p Γ.1 e (mt_rm K) s m args below meth c H locs cs sl Z (F0 m pc ls st) := by
  intro T hT X
  obtain ⟨v, st₀, t, T', L9, h0, X', hL, e1, e2, ⟨⟨v', μ', hv, hq, hwm⟩, hz9, hk9⟩, stp⟩ := hr T hT X
  cases hv
  rw [h0] at hz9 hk9
  have hal : s.vm.Alike t.vm := by rw [← e2]; exact X'.warmed.alike
  have hW' : wm_P Γ μ' s T'.heap := by rw [e1]; exact wm_moved hal.symm hwm
  have hS' : va_S (fun q => cx_lo Γ ≤ q) s.heap T'.heap (locs ++ L9) := ⟨Nat.le_trans hS.1 (by rw [e1]; exact hz9), fun q h1 h2 => by rw [e1, hk9 q (Nat.lt_of_lt_of_le h1 hS.1) h2]; exact hS.2.1 q h1 h2, fun q hq => by
      rcases List.mem_append.mp hq with h | h
      · exact hS.2.2 q h
      · exact hL q h⟩
  obtain ⟨t2, a1, b1⟩ := kk v μ' hq p e s m args below meth c Z T'.heap (locs ++ L9) ls hC hR hW' hS' hl hz T' rfl X'
  exact ⟨t2, stp t2 a1, b1⟩
theorem gg_callV {K' : mt_K} {idx b ci : Nat} {fl : List (Option (Option Nat))} {As rest : List Value} {Q' : Option Value → mm_T → Prop} (hM : mt_P Γ K' (.ref b :: As) μ Q') (hd : decode K.2.1 pc = .ok (.invokevirtual idx, 3) ∧ pc + 3 = nx) (hml9 : Cond.methodLink K.1.cls idx K'.1 ∈ wd_all) (hce : ce_V K' As.length) (hrm : rm_le K K') (hs : μ.1.2 b = .inr (.inr (ci, fl))) (hci : (vwCl[ci]?).map (fun r => r.1) = some K'.1.cls) (hst : st = As.reverse ++ .ref b :: rest) (hrs : (rest.map fun v => v.category).sum ≤ 8) (hcs : cr_le K K' cs sl) (kk : ∀ (v : Option Value) (μ' : mm_T), Q' v μ' → gg_P Γ K Q (cs + (mt_rm K').cells) (sl + (mt_rm K').slots) nx L (v.toList ++ rest) μ') : gg_P Γ K Q cs sl pc L st μ := by
  intro p e s m args below meth c Z H locs ls hC hR hW hS hl hz
  obtain ⟨hx, hb, hr, hml, hown, hts, hin, hE⟩ := id hC
  obtain ⟨hd, rfl⟩ := hd
  obtain ⟨c1, c2, c3, c4, c5, c6, c7⟩ := hce
  have hGI : GoodIn wd_all (wsV K.1.cls idx K'.1.cls K'.1 (wd_K K')) := by
    intro w hw
    rcases List.mem_append.mp hw with hw | hw
    · have hw' : w ∈ wd_all := by
        simp only [List.mem_cons, List.not_mem_nil, or_false] at hw
        rcases hw with rfl | rfl | rfl | rfl <;> assumption
      exact ⟨hw', wd_goodI hw'⟩
    · exact wd_good c4 w hw
  have cw := cwV (R := mt_rm K) (ws' := wd_all) As.length hts hGI rfl rfl rfl ⟨rfl, c5, c6, c7⟩ hrm
  have hWb := hW.2.2.2.2.2 b
  rw [hs] at hWb
  obtain ⟨⟨r, hr9, cell, q1, q2, q3, -⟩, -⟩ := hWb
  have hcls : r.1 = K'.1.cls := by rw [hr9] at hci; exact Option.some.inj hci
  refine gg_back hC hR hS hl hz (va_runV ⟨hx, hb, hml, hown, hts⟩ hM cw ⟨mt_blind, ⟨cell, q1, by rw [q3]; rfl, by rw [q2, ← hcls]; exact (hW.1.1 ci r hr9).2.1⟩, fun U hU hWm => ⟨rfl, by show wm_P Γ μ U U.heap; rw [hU]; exact wm_moved hWm.alike hW, ex_warm hWm hE⟩⟩ rfl rfl hl.1 hst (lv_room hrs) hd hcs) kk
def ce_U (K' : mt_K) (C : String) (n : Nat) : Prop := Cond.sameMethod C K'.1.cls K'.1.name K'.1.desc ∈ wd_all ∧ Cond.selects C ⟨C, K'.1.name, K'.1.desc⟩ K'.1 ∈ wd_all ∧ Cond.instanceMethod K'.1 ∈ wd_all ∧ Cond.initialized K'.1.cls ∈ wd_all ∧ Cond.code K'.1 K'.2.1 K'.2.2.1 K'.2.2.2.1 ∈ wd_all ∧ K'.1.cls ≠ "java/lang/invoke/MethodHandle" ∧ K'.1.cls ≠ "java/lang/invoke/VarHandle" ∧ (parseMethodDescriptor K'.1.desc).map (fun d => d.parameters.length) = some n
/-- a call of an inherited method: the receiver's class is C, the method stands in a class above it -/
theorem gg_callU {K' : mt_K} {C : String} {idx b ci : Nat} {fl : List (Option (Option Nat))} {As rest : List Value} {Q' : Option Value → mm_T → Prop} (hM : mt_P Γ K' (.ref b :: As) μ Q') (hd : decode K.2.1 pc = .ok (.invokevirtual idx, 3) ∧ pc + 3 = nx) (hml9 : Cond.methodLink K.1.cls idx ⟨C, K'.1.name, K'.1.desc⟩ ∈ wd_all) (hce : ce_U K' C As.length) (hrm : rm_le K K') (hs : μ.1.2 b = .inr (.inr (ci, fl))) (hci : (vwCl[ci]?).map (fun r => r.1) = some C) (hst : st = As.reverse ++ .ref b :: rest) (hrs : (rest.map fun v => v.category).sum ≤ 8) (hcs : cr_le K K' cs sl) (kk : ∀ (v : Option Value) (μ' : mm_T), Q' v μ' → gg_P Γ K Q (cs + (mt_rm K').cells) (sl + (mt_rm K').slots) nx L (v.toList ++ rest) μ') : gg_P Γ K Q cs sl pc L st μ := by
  intro p e s m args below meth c Z H locs ls hC hR hW hS hl hz
  obtain ⟨hx, hb, hr, hml, hown, hts, hin, hE⟩ := id hC
  obtain ⟨hd, rfl⟩ := hd
  obtain ⟨c1, c2, c3, c4, c5, c6, c7, c8⟩ := hce
  have hGI : GoodIn wd_all (va_wsU K.1.cls idx C K'.1.cls ⟨C, K'.1.name, K'.1.desc⟩ K'.1 (wd_K K')) := by
    intro w hw
    rcases List.mem_append.mp hw with hw | hw
    · have hw' : w ∈ wd_all := by
        simp only [List.mem_cons, List.not_mem_nil, or_false] at hw
        rcases hw with rfl | rfl | rfl | rfl | rfl <;> assumption
      exact ⟨hw', wd_goodI hw'⟩
    · exact wd_good c5 w hw
  have cw := va_cwU (R := mt_rm K) (ws' := wd_all) As.length hts hGI rfl rfl rfl rfl ⟨c6, c7, c8⟩ hrm
  have hWb := hW.2.2.2.2.2 b
  rw [hs] at hWb
  obtain ⟨⟨r, hr9, cell, q1, q2, q3, -⟩, -⟩ := hWb
  have hcls : r.1 = C := by rw [hr9] at hci; exact Option.some.inj hci
  refine gg_back hC hR hS hl hz (va_runU ⟨hx, hb, hml, hown, hts⟩ hM cw ⟨mt_blind, ⟨cell, q1, by rw [q3]; rfl, by rw [q2, ← hcls]; exact (hW.1.1 ci r hr9).2.1⟩, fun U hU hWm => ⟨rfl, by show wm_P Γ μ U U.heap; rw [hU]; exact wm_moved hWm.alike hW, ex_warm hWm hE⟩⟩ rfl rfl hl.1 hst (lv_room hrs) hd hcs) kk
theorem gg_callS {K' : mt_K} {idx : Nat} {As rest : List Value} {Q' : Option Value → mm_T → Prop} (hM : mt_P Γ K' As μ Q') (hd : decode K.2.1 pc = .ok (.invokestatic idx, 3) ∧ pc + 3 = nx) (hml9 : Cond.methodLink K.1.cls idx K'.1 ∈ wd_all) (hce : ce_S K' As.length) (hrm : rm_le K K') (hst : st = As.reverse ++ rest) (hrs : (rest.map fun v => v.category).sum ≤ 8) (hcs : cr_le K K' cs sl) (kk : ∀ (v : Option Value) (μ' : mm_T), Q' v μ' → gg_P Γ K Q (cs + (mt_rm K').cells) (sl + (mt_rm K').slots) nx L (v.toList ++ rest) μ') : gg_P Γ K Q cs sl pc L st μ := by
  intro p e s m args below meth c Z H locs ls hC hR hW hS hl hz
  obtain ⟨hx, hb, hr, hml, hown, hts, hin, hE⟩ := id hC
  obtain ⟨hd, rfl⟩ := hd
  obtain ⟨c1, c3, c4, c5, c6, c7⟩ := hce
  have hGI : GoodIn wd_all (va_wsS K.1.cls idx K'.1 (wd_K K')) := by
    intro w hw
    rcases List.mem_append.mp hw with hw | hw
    · have hw' : w ∈ wd_all := by
        simp only [List.mem_cons, List.not_mem_nil, or_false] at hw
        rcases hw with rfl | rfl | rfl <;> assumption
      exact ⟨hw', wd_goodI hw'⟩
    · exact wd_good c4 w hw
  have cw := va_cwS (R := mt_rm K) (ws' := wd_all) As.length hts hGI rfl rfl rfl ⟨c5, c6, c7⟩ hrm
  refine gg_back hC hR hS hl hz (va_runS ⟨hx, hb, hml, hown, hts⟩ hM cw ⟨mt_blind, fun U hU hWm => ⟨rfl, by show wm_P Γ μ U U.heap; rw [hU]; exact wm_moved hWm.alike hW, ex_warm hWm hE⟩⟩ rfl rfl hl.1 hst (lv_room hrs) hd hcs) kk
theorem gg_callI {K' : mt_K} {idx b : Nat} {As rest : List Value} {Q' : Option Value → mm_T → Prop} (hM : mt_P Γ K' (.ref b :: As) μ Q') (hd : decode K.2.1 pc = .ok (.invokespecial idx, 3) ∧ pc + 3 = nx) (hml9 : Cond.methodLink K.1.cls idx K'.1 ∈ wd_all) (hce : ce_I K' As.length) (hrm : rm_le K K') (hst : st = As.reverse ++ .ref b :: rest) (hrs : (rest.map fun v => v.category).sum ≤ 8) (hcs : cr_le K K' cs sl) (kk : ∀ (v : Option Value) (μ' : mm_T), Q' v μ' → gg_P Γ K Q (cs + (mt_rm K').cells) (sl + (mt_rm K').slots) nx L (v.toList ++ rest) μ') : gg_P Γ K Q cs sl pc L st μ := by
  intro p e s m args below meth c Z H locs ls hC hR hW hS hl hz
  obtain ⟨hx, hb, hr, hml, hown, hts, hin, hE⟩ := id hC
  obtain ⟨hd, rfl⟩ := hd
  obtain ⟨c0, c00, c1, c3, c4, c5, c6, c7⟩ := hce
  have hM' : Met Γ.1 K'.1 (wd_K K') (mt_rm K') _ _ _ _ _ := hM
  have hwk : wd_K K' = Cond.code K'.1 K'.2.1 K'.2.2.1 none :: wd_all := by unfold wd_K; rw [c00]
  have cw := cwI (R := mt_rm K) (ws' := wd_all) (mc := (mt_rm K').cells) (ms := (mt_rm K').slots) As.length hts (wd_good c4) hwk rfl rfl (hts _ c3) (hts _ hml9) (hts _ c1) c0 ⟨c5, c6, c7⟩ hrm
  refine gg_back hC hR hS hl hz (va_runI ⟨hx, hb, hml, hown, hts⟩ hM cw ⟨mt_blind, fun U hU hWm => ⟨rfl, by show wm_P Γ μ U U.heap; rw [hU]; exact wm_moved hWm.alike hW, ex_warm hWm hE⟩⟩ rfl rfl hl.1 hst (lv_room hrs) hd hcs) kk
def nw_P (own : String) (idx ci n : Nat) (fl : List (Option (Option Nat))) : Prop := ∃ (r : vw_C) (ty : Nat → FieldType), vwCl[ci]? = some r ∧ r.2.2 = n ∧ Cond.classLink own idx r.1 ∈ wd_all ∧ Cond.instantiable r.1 r.2.2 ∈ wd_all ∧ Cond.initialized r.1 ∈ wd_all ∧ (∀ k, k < r.2.2 → parseFieldDescriptor (r.2.1 k).2.2.1 = some (ty k)) ∧ ∀ k, k < r.2.2 → defaultValue (ty k) = vp_V (fv_l (fun _ => 0) 0 fl) k
theorem gg_new {idx ci n : Nat} {fl : List (Option (Option Nat))} {τ : Nat × (Nat → sh_T)} {ν : Nat → Nat → Int32} (hd : decode K.2.1 pc = .ok (.new idx, 3) ∧ pc + 3 = nx) (hf : nw_P K.1.cls idx ci n fl) (hcs : cs + 1 ≤ (mt_rm K).cells ∧ sl + n ≤ (mt_rm K).slots) (kk : gg_P Γ K Q (cs + 1) (sl + n) nx L (.ref τ.1 :: st) ((τ.1 + 1, va_up τ.2 τ.1 (.inr (.inr (ci, fl)))), va_up ν τ.1 (fun _ => 0))) : gg_P Γ K Q cs sl pc L st (τ, ν) := by
  intro p e s m args below meth c Z H locs ls hC hR hW hS hl hz
  obtain ⟨hx, hb, hr, hml, hown, hts, hin, hE⟩ := id hC
  obtain ⟨hd, rfl⟩ := hd
  obtain ⟨r, ty, hr9, rfl, h1, h2, h3, h4, h5⟩ := hf
  have hKn := hW.1.1 ci r hr9
  have hsz : H.size = τ.1 := hW.2.2.2.1
  refine W.newcK hx hb hown (hts _ h1) (hts _ h2) (hts _ h3) rfl hd hcs.1 hcs.2 hKn.2.1 hsz fun H1 kC hkC e1 z1 o1 => ?_
  refine kk p e s m args below meth c Z H1 locs ls hC hR ?_ ⟨Nat.le_trans hS.1 (by omega), fun x g1 g2 => (o1 x (by have := hS.1; omega)).trans (hS.2.1 x g1 g2), hS.2.2⟩ hl hz
  refine wm_new hW (by omega) (fun q hq => o1 q (by omega)) ⟨⟨r, hr9, (u_born ty hts (cls_ok ci r hr9).1 hKn hkC e1 h4).to h5⟩, hW.2.2.2.2.1⟩
theorem gg_newI {v : Int32} {n : Nat} {τ : Nat × (Nat → sh_T)} {ν : Nat → Nat → Int32} (hd : decode K.2.1 pc = .ok (.newarray .int, 2) ∧ pc + 2 = nx) (hw : Cond.arrayClass .int ∈ wd_all) (hv : ¬ v < 0 ∧ v.toNatClampNeg = n ∧ n ≤ 10000) (hcs : cs + 1 ≤ (mt_rm K).cells ∧ sl + n ≤ (mt_rm K).slots) (kk : gg_P Γ K Q (cs + 1) (sl + n) nx L (.ref τ.1 :: st) ((τ.1 + 1, va_up τ.2 τ.1 (.inl (0, n))), va_up ν τ.1 (fun _ => 0))) : gg_P Γ K Q cs sl pc L (.int v :: st) (τ, ν) := by
  intro p e s m args below meth c Z H locs ls hC hR hW hS hl hz
  obtain ⟨hx, hb, hr, hml, hown, hts, hin, hE⟩ := id hC
  obtain ⟨hd, rfl⟩ := hd
  have hsz : H.size = τ.1 := hW.2.2.2.1
  refine va_newaK (atype := .int) hx hb (hts _ hw) rfl hd rfl hv.1 hv.2.1 (by have := hv.2.2; show n * 4 ≤ _; omega) hcs.1 hcs.2 hsz fun H1 cA e1 z1 o1 hAr hNm => ?_
  have hRA : s.vm.findClass ("[" ++ FieldType.int.toString) = some (cx_cI Γ) := (hW.1.2 0 (cx_cI Γ, .int) rfl).2
  cases Option.some.inj (hNm.symm.trans hRA)
  refine kk p e s m args below meth c Z H1 locs ls hC hR ?_ ⟨Nat.le_trans hS.1 (by omega), fun x g1 g2 => (o1 x (by have := hS.1; omega)).trans (hS.2.1 x g1 g2), hS.2.2⟩ hl hz
  exact wm_new hW (by omega) (fun q hq => o1 q (by omega)) ⟨e1, hW.2.2.2.2.1⟩
/-- ints are copied from array to array -/
theorem gg_copy {idx a0 a n0 n1 : Nat} {sp dp n : Int32} {τ : Nat × (Nat → sh_T)} {ν : Nat → Nat → Int32} (hd : decode K.2.1 pc = .ok (.invokestatic idx, 3) ∧ pc + 3 = nx) (hw : Cond.methodLink K.1.cls idx arraycopyName ∈ wd_all ∧ Cond.native arraycopyName ∈ wd_all ∧ Cond.static arraycopyName ∈ wd_all ∧ Cond.initialized "java/lang/System" ∈ wd_all) (hs0 : τ.2 a0 = .inl (0, n0)) (hs1 : τ.2 a = .inl (0, n1)) (h1 : ¬ sp < 0) (h2 : ¬ dp < 0) (h3 : ¬ n < 0) (h4 : sp.toNatClampNeg + n.toNatClampNeg ≤ n0) (h5 : dp.toNatClampNeg + n.toNatClampNeg ≤ n1)
    (hrm : 1 ≤ (mt_rm K).frames ∧ (st.map fun v => v.category).sum + 18 ≤ (mt_rm K).locals) (kk : gg_P Γ K Q cs sl nx L st (τ, va_up ν a (va_cpy (ν a0) (ν a) sp.toNatClampNeg dp.toNatClampNeg n.toNatClampNeg))) : gg_P Γ K Q cs sl pc L (.int n :: .int dp :: .ref a :: .int sp :: .ref a0 :: st) (τ, ν) := by
  intro p e s m args below meth c Z H locs ls hC hR hW hS hl hz
  obtain ⟨hx, hb, hr, hml, hown, hts, hin, hE⟩ := id hC
  obtain ⟨hd, rfl⟩ := hd
  have nn : ∀ z : Int32, ¬ z < 0 → z.toInt = (z.toNatClampNeg : Int) := by
    intro z hz
    have hz0 : (0 : Int) ≤ z.toInt := by
      have := Int32.not_lt.mp hz
      simpa using Int32.le_iff_toInt_le.mp this
    show z.toInt = ((z.toInt.toNat : Nat) : Int)
    omega
  intro T hT X
  have w0 := hW.2.2.2.2.2 a0
  have s0' : ((τ, ν) : mm_T).1.2 a0 = .inl (0, n0) := hs0
  rw [s0'] at w0
  have w1 := hW.2.2.2.2.2 a
  have s1' : ((τ, ν) : mm_T).1.2 a = .inl (0, n1) := hs1
  rw [s1'] at w1
  have hA := (hW.1.2 0 (cx_cI Γ, .int) rfl).1
  obtain ⟨-, k0, hk0, cm0, hkk0⟩ := hA n0 (fun j => .int (ν a0 j))
  obtain ⟨-, k1, hk1, cm1, hkk1⟩ := hA n1 (fun j => .int (ν a j))
  have hc0 : H[a0]? = some (arrV (cx_cI Γ) n0 (fun j => .int (ν a0 j))) := w0.1
  have hc1 : H[a]? = some (arrV (cx_cI Γ) n1 (fun j => .int (ν a j))) := w1.1
  obtain ⟨vm', X', step⟩ := X.arraycopy hx hown (hts _ hw.1) (hts _ hw.2.1) (hts _ hw.2.2.1) (hts _ hw.2.2.2) (src := a0) (dst := a) (cs := arrV (cx_cI Γ) n0 (fun j => .int (ν a0 j))) (cd := arrV (cx_cI Γ) n1 (fun j => .int (ν a j))) (srcPos := sp) (destPos := dp) (n := n) (by rw [hT]; exact hc0) (by rw [hT]; exact hc1)
    (fun _ h => by cases h) (fun _ h => by cases h) (fun h => by cases h) (fun h => by cases h) hk0 hk1 hkk0 hkk1 (by simp [refKind]) h1 h2 h3
    (by rw [nn sp h1, nn n h3, arrV_size]; omega)
    (by rw [nn dp h2, nn n h3, arrV_size]; omega)
    (fun vm₁ _ i hi => by
      have e : (arrV (cx_cI Γ) n0 (fun j => .int (ν a0 j))).slots.getD (sp.toNatClampNeg + i) .null = .int (ν a0 (sp.toNatClampNeg + i)) := by
        rw [Array.getD_eq_getD_getElem?, arrV_read _ _ (by omega)]
        rfl
      rw [e]
      exact ⟨rfl, trivial⟩)
    (g := F0 m pc ls (.int n :: .int dp :: .ref a :: .int sp :: .ref a0 :: st)) rfl (by show ls.size = _; rw [hl.1, hml]) (rest := st) rfl (by rw [hb]; exact hd) hrm.1 (by have := hrm.2; have e18 : nativeFrameWords "java/lang/System" "arraycopy" 5 = 7 := by decide +kernel
                                                                                                                                                                            show 2 * 0 + _ + _ ≤ _; omega)
  have e1 : copied (arrV (cx_cI Γ) n0 (fun j => .int (ν a0 j))) (arrV (cx_cI Γ) n1 (fun j => .int (ν a j))) sp dp n = arrV (cx_cI Γ) n1 (fun j => .int (va_cpy (ν a0) (ν a) sp.toNatClampNeg dp.toNatClampNeg n.toNatClampNeg j)) := va_copied (fun z => .int z) (cx_cI Γ) (cx_cI Γ) (ν a0) (ν a) h4
  rw [e1] at X' step
  have hl9 : a < H.size := (Array.getElem?_eq_some_iff.mp hc1).1
  have oq : ∀ q : Nat, q ≠ a → (H.setIfInBounds a (arrV (cx_cI Γ) n1 (fun j => .int (va_cpy (ν a0) (ν a) sp.toNatClampNeg dp.toNatClampNeg n.toNatClampNeg j))))[q]? = H[q]? := fun q hq => by simp [Array.getElem?_setIfInBounds, Ne.symm hq]
  have hheap : ((T.setVm vm').setCell a (arrV (cx_cI Γ) n1 (fun j => .int (va_cpy (ν a0) (ν a) sp.toNatClampNeg dp.toNatClampNeg n.toNatClampNeg j)))).heap = H.setIfInBounds a (arrV (cx_cI Γ) n1 (fun j => .int (va_cpy (ν a0) (ν a) sp.toNatClampNeg dp.toNatClampNeg n.toNatClampNeg j))) := by rw [← hT]; rfl
  have k9 := fun (L9 : List Loc) (hL9 : ∀ q ∈ L9, q.base = a) => kk p e s m args below meth c Z (H.setIfInBounds a (arrV (cx_cI Γ) n1 (fun j => .int (va_cpy (ν a0) (ν a) sp.toNatClampNeg dp.toNatClampNeg n.toNatClampNeg j)))) (locs ++ L9) ls hC hR (wm_put hW (by simp) oq w1.2 (fun b hb => by rw [va_up_ne _ _ hb]) (by rw [hs1, va_up_self]; exact ⟨by simp [Array.getElem?_setIfInBounds, hl9], w1.2⟩)) ⟨by simp; exact hS.1, fun q g1 g2 => by
      rw [oq q (fun e => g2 (by rw [e]; exact w1.2))]
      exact hS.2.1 q g1 g2, fun q hq => by
      rcases List.mem_append.mp hq with h | h
      · exact hS.2.2 q h
      · rw [hL9 q h]
        exact w1.2⟩ hl hz
  have h10 := fun hL9 => k9 _ hL9 _ hheap X'
  obtain ⟨t, a1, b1⟩ := h10 (fun q h => by
    obtain ⟨z, -, hz⟩ := List.mem_map.mp h
    rw [← hz])
  exact ⟨t, step t a1, b1⟩
theorem gg_callN {K' : mt_K} {As rest : List Value} {Q' : Option Value → mm_T → Prop} (hM : mt_P Γ K' As μ Q') (hd : decode K.2.1 pc = .ok (.invokestatic 123, 3) ∧ pc + 3 = nx) (hKc : K.1.cls = "FeedAxis$Axis") (hy9 : K'.1 = ⟨"FeedAxis", "isPlace", "(I)Z"⟩) (hce : ce_S K' As.length) (hrm : rm_le K K') (hst : st = As.reverse ++ rest) (hrs : (rest.map fun v => v.category).sum ≤ 8) (hcs : cr_le K K' cs sl) (kk : ∀ (v : Option Value) (μ' : mm_T), Q' v μ' → gg_P Γ K Q (cs + (mt_rm K').cells) (sl + (mt_rm K').slots) nx L (v.toList ++ rest) μ') : gg_P Γ K Q cs sl pc L st μ := by
  intro p e s m args below meth c Z H locs ls hC hR hW hS hl hz
  obtain ⟨hx, hb, hr, hml, hown, hts, hin, hE⟩ := id hC
  obtain ⟨hd, rfl⟩ := hd
  obtain ⟨c1, c3, c4, c5, c6, c7⟩ := hce
  have hn : va_Nw (.methodLinkNest K.1.cls 123 K'.1 "FeedAxis") s := by rw [hKc, hy9]; exact hE.2
  have cw := va_cnB (R := mt_rm K) (ws' := wd_all) As.length hts (wd_good c4) rfl rfl rfl hn (hts _ c3) ⟨c5, c6, c7⟩ hrm
  refine gg_back hC hR hS hl hz (va_runSN ⟨hx, hb, hml, hown, hts⟩ hM ⟨cw, hts _ c1, trivial⟩ ⟨mt_blind, fun U hU hWm => ⟨rfl, by show wm_P Γ μ U U.heap; rw [hU]; exact wm_moved hWm.alike hW, ex_warm hWm hE⟩⟩ rfl rfl hl.1 hst (lv_room hrs) hd hcs) kk
theorem gg_anew {idx : Nat} {v : Int32} {n : Nat} {τ : Nat × (Nat → sh_T)} {ν : Nat → Nat → Int32} (hd : decode K.2.1 pc = .ok (.anewarray idx, 3) ∧ pc + 3 = nx) (hw : Cond.classLink K.1.cls idx "FeedAxis$Axis" ∈ wd_all) (hv : ¬ v < 0 ∧ v.toNatClampNeg = n ∧ n ≤ 10000) (hcs : cs + 1 ≤ (mt_rm K).cells ∧ sl + n ≤ (mt_rm K).slots) (kk : gg_P Γ K Q (cs + 1) (sl + n) nx L (.ref τ.1 :: st) ((τ.1 + 1, va_up τ.2 τ.1 (.inr (.inl (n, fun _ => none)))), va_up ν τ.1 (fun _ => 0))) : gg_P Γ K Q cs sl pc L (.int v :: st) (τ, ν) := by
  intro p e s m args below meth c Z H locs ls hC hR hW hS hl hz
  obtain ⟨hx, hb, hr, hml, hown, hts, hin, hE⟩ := id hC
  obtain ⟨hd, rfl⟩ := hd
  obtain ⟨hv1, rfl, hv3⟩ := hv
  have hsz : H.size = τ.1 := hW.2.2.2.1
  refine W.anew hx hb hown (hts _ hw) (va_AO.use hE.1) rfl hd rfl hv1 (by omega) hcs.1 hcs.2 fun cA kA comp f1 f2 f3 f4 => ?_
  obtain ⟨kA', comp', k1, k2, k3, k4⟩ := (hW.1.2 2 (cx_cA Γ, .object "FeedAxis$Axis") rfl).2
  cases Option.some.inj (f1.symm.trans k4)
  generalize hH1 : H.push ({ cls := cx_cA Γ, slots := Array.replicate v.toNatClampNeg .null, vm := .none } : Cell) = H1
  have z1 : H1.size = H.size + 1 := by rw [← hH1, Array.size_push]
  have e1 : H1[H.size]? = some (arrV (cx_cA Γ) v.toNatClampNeg (fun _ => .null)) := by rw [← hH1, Array.getElem?_push_size, ← arrV_new]
  have o1 : ∀ q : Nat, q < H.size → H1[q]? = H[q]? := fun q hq => by rw [← hH1, Array.getElem?_push, if_neg (Nat.ne_of_lt hq)]
  have kk' := kk p e s m args below meth c Z H1 locs ls hC hR (wm_new hW z1 o1 ⟨by rw [← hsz]; exact e1, hW.2.2.2.2.1⟩) ⟨Nat.le_trans hS.1 (by omega), fun x g1 g2 => (o1 x (by have := hS.1; omega)).trans (hS.2.1 x g1 g2), hS.2.2⟩ hl hz
  rw [← hsz] at kk'
  exact kk'
/-- a call of a contract that says one answer and one world, and makes nothing -/
theorem gg_okV {K' : mt_K} {idx b ci : Nat} {fl : List (Option (Option Nat))} {As rest : List Value} {τ : Nat × (Nat → sh_T)} {ν ν' : Nat → Nat → Int32} {r : Value} (hM : mt_P Γ K' (.ref b :: As) (τ, ν) (fun v μ' => v = some r ∧ μ' = (τ, ν'))) (hd : decode K.2.1 pc = .ok (.invokevirtual idx, 3) ∧ pc + 3 = nx) (hml9 : Cond.methodLink K.1.cls idx K'.1 ∈ wd_all) (hce : ce_V K' As.length) (hrm : rm_le K K') (hs : τ.2 b = .inr (.inr (ci, fl))) (hci : (vwCl[ci]?).map (fun r => r.1) = some K'.1.cls) (hst : st = As.reverse ++ .ref b :: rest) (hrs : (rest.map fun v => v.category).sum ≤ 8) (h0 : (mt_rm K').cells = 0 ∧ (mt_rm K').slots = 0) (hcs : cs ≤ (mt_rm K).cells ∧ sl ≤ (mt_rm K).slots) (kk : gg_P Γ K Q cs sl nx L (r :: rest) (τ, ν')) : gg_P Γ K Q cs sl pc L st (τ, ν) := by
  refine gg_callV hM hd hml9 hce hrm hs hci hst hrs ⟨by rw [h0.1]; exact hcs.1, by rw [h0.2]; exact hcs.2⟩ ?_
  rintro v μ' ⟨rfl, rfl⟩
  rw [h0.1, h0.2]
  exact kk
theorem gg_okVv {K' : mt_K} {idx b ci : Nat} {fl : List (Option (Option Nat))} {As rest : List Value} {τ : Nat × (Nat → sh_T)} {ν ν' : Nat → Nat → Int32} (hM : mt_P Γ K' (.ref b :: As) (τ, ν) (fun v μ' => v = none ∧ μ' = (τ, ν'))) (hd : decode K.2.1 pc = .ok (.invokevirtual idx, 3) ∧ pc + 3 = nx) (hml9 : Cond.methodLink K.1.cls idx K'.1 ∈ wd_all) (hce : ce_V K' As.length) (hrm : rm_le K K') (hs : τ.2 b = .inr (.inr (ci, fl))) (hci : (vwCl[ci]?).map (fun r => r.1) = some K'.1.cls) (hst : st = As.reverse ++ .ref b :: rest) (hrs : (rest.map fun v => v.category).sum ≤ 8) (h0 : (mt_rm K').cells = 0 ∧ (mt_rm K').slots = 0) (hcs : cs ≤ (mt_rm K).cells ∧ sl ≤ (mt_rm K).slots) (kk : gg_P Γ K Q cs sl nx L rest (τ, ν')) : gg_P Γ K Q cs sl pc L st (τ, ν) := by
  refine gg_callV hM hd hml9 hce hrm hs hci hst hrs ⟨by rw [h0.1]; exact hcs.1, by rw [h0.2]; exact hcs.2⟩ ?_
  rintro v μ' ⟨rfl, rfl⟩
  rw [h0.1, h0.2]
  exact kk
theorem gg_okU {K' : mt_K} {C : String} {idx b ci : Nat} {fl : List (Option (Option Nat))} {As rest : List Value} {τ : Nat × (Nat → sh_T)} {ν ν' : Nat → Nat → Int32} {r : Value} (hM : mt_P Γ K' (.ref b :: As) (τ, ν) (fun v μ' => v = some r ∧ μ' = (τ, ν'))) (hd : decode K.2.1 pc = .ok (.invokevirtual idx, 3) ∧ pc + 3 = nx) (hml9 : Cond.methodLink K.1.cls idx ⟨C, K'.1.name, K'.1.desc⟩ ∈ wd_all) (hce : ce_U K' C As.length) (hrm : rm_le K K') (hs : τ.2 b = .inr (.inr (ci, fl))) (hci : (vwCl[ci]?).map (fun r => r.1) = some C) (hst : st = As.reverse ++ .ref b :: rest) (hrs : (rest.map fun v => v.category).sum ≤ 8) (h0 : (mt_rm K').cells = 0 ∧ (mt_rm K').slots = 0) (hcs : cs ≤ (mt_rm K).cells ∧ sl ≤ (mt_rm K).slots) (kk : gg_P Γ K Q cs sl nx L (r :: rest) (τ, ν')) : gg_P Γ K Q cs sl pc L st (τ, ν) := by
  refine gg_callU hM hd hml9 hce hrm hs hci hst hrs ⟨by rw [h0.1]; exact hcs.1, by rw [h0.2]; exact hcs.2⟩ ?_
  rintro v μ' ⟨rfl, rfl⟩
  rw [h0.1, h0.2]
  exact kk
theorem gg_okUv {K' : mt_K} {C : String} {idx b ci : Nat} {fl : List (Option (Option Nat))} {As rest : List Value} {τ : Nat × (Nat → sh_T)} {ν ν' : Nat → Nat → Int32} (hM : mt_P Γ K' (.ref b :: As) (τ, ν) (fun v μ' => v = none ∧ μ' = (τ, ν'))) (hd : decode K.2.1 pc = .ok (.invokevirtual idx, 3) ∧ pc + 3 = nx) (hml9 : Cond.methodLink K.1.cls idx ⟨C, K'.1.name, K'.1.desc⟩ ∈ wd_all) (hce : ce_U K' C As.length) (hrm : rm_le K K') (hs : τ.2 b = .inr (.inr (ci, fl))) (hci : (vwCl[ci]?).map (fun r => r.1) = some C) (hst : st = As.reverse ++ .ref b :: rest) (hrs : (rest.map fun v => v.category).sum ≤ 8) (h0 : (mt_rm K').cells = 0 ∧ (mt_rm K').slots = 0) (hcs : cs ≤ (mt_rm K).cells ∧ sl ≤ (mt_rm K).slots) (kk : gg_P Γ K Q cs sl nx L rest (τ, ν')) : gg_P Γ K Q cs sl pc L st (τ, ν) := by
  refine gg_callU hM hd hml9 hce hrm hs hci hst hrs ⟨by rw [h0.1]; exact hcs.1, by rw [h0.2]; exact hcs.2⟩ ?_
  rintro v μ' ⟨rfl, rfl⟩
  rw [h0.1, h0.2]
  exact kk
theorem gg_okS {K' : mt_K} {idx : Nat} {As rest : List Value} {τ : Nat × (Nat → sh_T)} {ν ν' : Nat → Nat → Int32} {r : Value} (hM : mt_P Γ K' As (τ, ν) (fun v μ' => v = some r ∧ μ' = (τ, ν'))) (hd : decode K.2.1 pc = .ok (.invokestatic idx, 3) ∧ pc + 3 = nx) (hml9 : Cond.methodLink K.1.cls idx K'.1 ∈ wd_all) (hce : ce_S K' As.length) (hrm : rm_le K K') (hst : st = As.reverse ++ rest) (hrs : (rest.map fun v => v.category).sum ≤ 8) (h0 : (mt_rm K').cells = 0 ∧ (mt_rm K').slots = 0) (hcs : cs ≤ (mt_rm K).cells ∧ sl ≤ (mt_rm K).slots) (kk : gg_P Γ K Q cs sl nx L (r :: rest) (τ, ν')) : gg_P Γ K Q cs sl pc L st (τ, ν) := by
  refine gg_callS hM hd hml9 hce hrm hst hrs ⟨by rw [h0.1]; exact hcs.1, by rw [h0.2]; exact hcs.2⟩ ?_
  rintro v μ' ⟨rfl, rfl⟩
  rw [h0.1, h0.2]
  exact kk
theorem gg_okSv {K' : mt_K} {idx : Nat} {As rest : List Value} {τ : Nat × (Nat → sh_T)} {ν ν' : Nat → Nat → Int32} (hM : mt_P Γ K' As (τ, ν) (fun v μ' => v = none ∧ μ' = (τ, ν'))) (hd : decode K.2.1 pc = .ok (.invokestatic idx, 3) ∧ pc + 3 = nx) (hml9 : Cond.methodLink K.1.cls idx K'.1 ∈ wd_all) (hce : ce_S K' As.length) (hrm : rm_le K K') (hst : st = As.reverse ++ rest) (hrs : (rest.map fun v => v.category).sum ≤ 8) (h0 : (mt_rm K').cells = 0 ∧ (mt_rm K').slots = 0) (hcs : cs ≤ (mt_rm K).cells ∧ sl ≤ (mt_rm K).slots) (kk : gg_P Γ K Q cs sl nx L rest (τ, ν')) : gg_P Γ K Q cs sl pc L st (τ, ν) := by
  refine gg_callS hM hd hml9 hce hrm hst hrs ⟨by rw [h0.1]; exact hcs.1, by rw [h0.2]; exact hcs.2⟩ ?_
  rintro v μ' ⟨rfl, rfl⟩
  rw [h0.1, h0.2]
  exact kk
theorem gg_okN {K' : mt_K} {As rest : List Value} {τ : Nat × (Nat → sh_T)} {ν ν' : Nat → Nat → Int32} {r : Value} (hM : mt_P Γ K' As (τ, ν) (fun v μ' => v = some r ∧ μ' = (τ, ν'))) (hd : decode K.2.1 pc = .ok (.invokestatic 123, 3) ∧ pc + 3 = nx) (hKc : K.1.cls = "FeedAxis$Axis") (hy9 : K'.1 = ⟨"FeedAxis", "isPlace", "(I)Z"⟩) (hce : ce_S K' As.length) (hrm : rm_le K K') (hst : st = As.reverse ++ rest) (hrs : (rest.map fun v => v.category).sum ≤ 8) (h0 : (mt_rm K').cells = 0 ∧ (mt_rm K').slots = 0) (hcs : cs ≤ (mt_rm K).cells ∧ sl ≤ (mt_rm K).slots) (kk : gg_P Γ K Q cs sl nx L (r :: rest) (τ, ν')) : gg_P Γ K Q cs sl pc L st (τ, ν) := by
  refine gg_callN hM hd hKc hy9 hce hrm hst hrs ⟨by rw [h0.1]; exact hcs.1, by rw [h0.2]; exact hcs.2⟩ ?_
  rintro v μ' ⟨rfl, rfl⟩
  rw [h0.1, h0.2]
  exact kk
/-- a post that says one answer and one world -/
def ok_P (r : Option Value) (μ : mm_T) : Option Value → mm_T → Prop := fun v μ' => v = r ∧ μ' = μ
end RULES
