/-! the claim out of one walk of the law -/
/-- what holds at the law's entry: the machine, the code, the tables' words (any of lw_tbl by 'hts w (by decide +kernel)'), the script of L ints xs at the cell b, what the Statement gives of the start (any of its parts by flat_of_before) -/
def lx_At (p : Program) (s : State) (m : MethodId) (meth : Method) (c : Code) (b L : Nat) (xs : Nat → Int32) : Prop :=
  p.tables.exec = Jvm.exec ∧ c.code = code ∧ meth.sig.returnType = ret ∧ c.maxLocals = 11 ∧ s.vm.findClass R_law = some m.cls ∧ (∀ w ∈ lw_tbl, w.before #[Value.ref b] s = true) ∧ va_X b L xs s s.heap ∧ b < s.heap.size ∧ meth.locks = false ∧ (Jvm.Cond.and given_1 narrow_1).before #[Value.ref b] s = true ∧ meth.name = "law"
/-- what a static array holds, met at the script's own address -/
theorem lw_eqi {args : Array Value} {s : State} {tm : Term} {z : Int32} (h : (Cond.eq tm (.int z)).before args s = true) : tm.eval args s none [] s = some (.int z) := by
  cases hv : tm.eval args s none [] s with
  | none => simp [Cond.before, Cond.holds, Cond.value, hv] at h
  | some w =>
    have hz : (Term.int z).eval args s none [] s = some (.int z) := rfl
    simp only [Cond.before, Cond.holds, Cond.value, hv, hz] at h
    cases w <;> simp_all
theorem lw_same {b L : Nat} {xs g : Nat → Int32} {A : Nat → Prop} {s : State} (hL : L ≤ 260) (hX : va_X b L xs s s.heap) (hT : va_T .int b 6 (fun j => .int (g j)) A s s.heap) : L = 6 ∧ ∀ j : Nat, j < 6 → xs j = g j := by
  obtain ⟨c1, h1, h2, h3, h4, h5⟩ := hX
  obtain ⟨c2, g1, g2, g3, g4, g5, g6, g7⟩ := hT
  cases h1.symm.trans g1
  have e : L = 6 := by
    rw [h4] at g5
    exact (nI_eq (a := L) (b := 6) (by omega) (by omega)).mp g5
  refine ⟨e, fun j hj => ?_⟩
  have a := h5 j (by omega)
  rw [g6 j hj] at a
  exact (Value.int.inj (Option.some.inj a)).symm
theorem lw_apart {a : Nat} {A : Nat → Prop} {s : State} (hT : va_T .int a 6 (fun j => .int (le_C j)) A s s.heap) (hG : va_T .int a 6 (fun j => .int (gr_C j)) A s s.heap) : False := by
  obtain ⟨c1, h1, h2, h3, h4, h5, h6, h7⟩ := hT
  obtain ⟨c2, g1, g2, g3, g4, g5, g6, g7⟩ := hG
  cases h1.symm.trans g1
  have a := h6 0 (by omega)
  rw [g6 0 (by omega)] at a
  exact absurd a (by decide)
theorem inst_ok : ∀ r ∈ vwCl, Cond.instantiable r.1 r.2.2 ∈ lw_tbl := by decide +kernel
/-- the law, from its entry -/
theorem whole_start {p : Program} {e : Env} {s : State} {m : MethodId} {below : List Frame} {meth : Method} {c : Code} (l : Launch) (hflags : l.flags = flags0) {b L : Nat} {xs : Nat → Int32} (hL : L ≤ 260) (C0 : lx_At p s m meth c b L xs) : W p l e room_1 s m #[Value.ref b] below meth c s.heap [] 0 0 (lw_Z below #[Value.ref b] s) (entryFrame m ([Value.ref b] : List Value).toArray 11) := by
  obtain ⟨hx, hb, hr, hml, hown, hts, hX, hbl, hlocks, hgv, hname⟩ := id C0
  have hg := flat_of_before _ hgv
  have hA : ∀ a : Nat, a < s.heap.size → ¬ (fun q : Nat => s.heap.size ≤ q) a := fun a h => Nat.not_le.mpr h
  obtain ⟨aL, eL, hTL⟩ := va_Tof (args := #[Value.ref b]) (s := s) (tm := .static "FeedAxis$Axis" "LEAST" "[I") (ty := .int) (N := 6) (f := fun j => .int (le_C j)) (A := fun q : Nat => s.heap.size ≤ q) (by omega) (hg (Cond.arrayOf (.static "FeedAxis$Axis" "LEAST" "[I") .int) (by decide +kernel)) (lw_eqi (z := 6) (hg (Cond.eq (.length (.static "FeedAxis$Axis" "LEAST" "[I")) (.int 6)) (by decide +kernel))) (fun j hj => by
    match j, hj with
    | 0, _ => exact lw_eqi (hg (Cond.eq (.elem (.static "FeedAxis$Axis" "LEAST" "[I") (.int 0)) (.int 1)) (by decide +kernel))
    | 1, _ => exact lw_eqi (hg (Cond.eq (.elem (.static "FeedAxis$Axis" "LEAST" "[I") (.int 1)) (.int 0)) (by decide +kernel))
    | 2, _ => exact lw_eqi (hg (Cond.eq (.elem (.static "FeedAxis$Axis" "LEAST" "[I") (.int 2)) (.int 1)) (by decide +kernel))
    | 3, _ => exact lw_eqi (hg (Cond.eq (.elem (.static "FeedAxis$Axis" "LEAST" "[I") (.int 3)) (.int 0)) (by decide +kernel))
    | 4, _ => exact lw_eqi (hg (Cond.eq (.elem (.static "FeedAxis$Axis" "LEAST" "[I") (.int 4)) (.int 0)) (by decide +kernel))
    | 5, _ => exact lw_eqi (hg (Cond.eq (.elem (.static "FeedAxis$Axis" "LEAST" "[I") (.int 5)) (.int 0)) (by decide +kernel))
    | n + 6, h => exact absurd h (by omega)) hA
  have hZL := va_Zref (hts (.laysStatic "FeedAxis$Axis" "LEAST" "[I") (List.mem_of_getElem? (i := 314) (by decide +kernel))) (hts (.initialized "FeedAxis$Axis") (List.mem_of_getElem? (i := 17) (by decide +kernel))) eL hA
  obtain ⟨aG, eG, hTG⟩ := va_Tof (args := #[Value.ref b]) (s := s) (tm := .static "FeedAxis$Axis" "GREATEST" "[I") (ty := .int) (N := 6) (f := fun j => .int (gr_C j)) (A := fun q : Nat => s.heap.size ≤ q) (by omega) (hg (Cond.arrayOf (.static "FeedAxis$Axis" "GREATEST" "[I") .int) (by decide +kernel)) (lw_eqi (z := 6) (hg (Cond.eq (.length (.static "FeedAxis$Axis" "GREATEST" "[I")) (.int 6)) (by decide +kernel))) (fun j hj => by
    match j, hj with
    | 0, _ => exact lw_eqi (hg (Cond.eq (.elem (.static "FeedAxis$Axis" "GREATEST" "[I") (.int 0)) (.int 16)) (by decide +kernel))
    | 1, _ => exact lw_eqi (hg (Cond.eq (.elem (.static "FeedAxis$Axis" "GREATEST" "[I") (.int 1)) (.int 200)) (by decide +kernel))
    | 2, _ => exact lw_eqi (hg (Cond.eq (.elem (.static "FeedAxis$Axis" "GREATEST" "[I") (.int 2)) (.int 1000)) (by decide +kernel))
    | 3, _ => exact lw_eqi (hg (Cond.eq (.elem (.static "FeedAxis$Axis" "GREATEST" "[I") (.int 3)) (.int 100)) (by decide +kernel))
    | 4, _ => exact lw_eqi (hg (Cond.eq (.elem (.static "FeedAxis$Axis" "GREATEST" "[I") (.int 4)) (.int 50)) (by decide +kernel))
    | 5, _ => exact lw_eqi (hg (Cond.eq (.elem (.static "FeedAxis$Axis" "GREATEST" "[I") (.int 5)) (.int 50)) (by decide +kernel))
    | n + 6, h => exact absurd h (by omega)) hA
  have hZG := va_Zref (hts (.laysStatic "FeedAxis$Axis" "GREATEST" "[I") (List.mem_of_getElem? (i := 317) (by decide +kernel))) (hts (.initialized "FeedAxis$Axis") (List.mem_of_getElem? (i := 17) (by decide +kernel))) eG hA
  have hcl : ∀ ci : Nat, ∃ z : ClassId × (Nat → Nat), ∀ r : vw_C, vwCl[ci]? = some r → u_Kn s r.1 r.2.1 r.2.2 z.1 z.2 := by
    intro ci
    cases h : vwCl[ci]? with
    | none => exact ⟨(m.cls, fun _ => 0), fun r hr => by cases hr⟩
    | some r =>
      obtain ⟨c1, i1, hk⟩ := u_known hts (fun w hw => (List.mem_filter.mp ((cls_ok ci r h).1 w hw)).1) (hts _ (inst_ok r (List.mem_of_getElem? h)))
      exact ⟨(c1, i1), fun r' hr => by cases hr; exact hk⟩
  obtain ⟨z, hz⟩ := Classical.axiomOfChoice hcl
  obtain ⟨cI, kI, pI, fI1, fI2, fI3⟩ := Cond.arrayClass_spec (hts (.arrayClass .int) (List.mem_of_getElem? (i := 78) (by decide +kernel)))
  have hAO := hts (.arrayOver (.object "FeedAxis$Axis")) (List.mem_of_getElem? (i := 144) (by decide +kernel))
  obtain ⟨pA, cA, kA, fA1, fA2, fA3, fA4, fA5⟩ := Cond.arrayOver_spec hAO
  have hE : ex_P s := ⟨va_AO.of hAO, va_Nw.of rfl (hts ex_w (List.mem_of_getElem? (i := 339) (by decide +kernel)))⟩
  have hK : va_K (fun k => (z k).1, fun k => (z k).2) vwCl [(cI, .int), (cI, .int), (cA, .object "FeedAxis$Axis")] s := by
    refine ⟨fun k q hq => hz k q hq, fun k q hq => ?_⟩
    match k, hq with
    | 0, hq => cases hq; exact ⟨fun n f => ⟨(fun k h => by cases h), kI, fI2, pI, fI3⟩, fI1⟩
    | 1, hq => cases hq; exact ⟨fun n f => ⟨(fun k h => by cases h), kI, fI2, pI, fI3⟩, fI1⟩
    | 2, hq => cases hq; exact ⟨fun n f => ⟨(fun k h => by cases h), kA, fA3, pA, fA4⟩, kA, pA, fA3, fA4, fA1, fA5⟩
    | k + 3, hq => exact absurd hq (by simp)
  have haL : aL < s.heap.size := Nat.not_le.mp hTL.out
  have haG : aG < s.heap.size := Nat.not_le.mp hTG.out
  have hTX : va_T .int b L (fun j => .int (xs j)) (fun q : Nat => s.heap.size ≤ q) s s.heap := by
    obtain ⟨c1, h1, h2, h3, h4, h5⟩ := hX
    exact ⟨c1, h1, h2, h3, by omega, congrArg Nat.toInt32 h4, h5, hA b hbl⟩
  let Γ : cx_T := (l, (fun k => (z k).1, fun k => (z k).2), (cI, cI, cA), (s.heap.size, aL, aG))
  let sh0 : Nat → sh_T := va_up (va_up (va_up (fun _ => .inl (7, 0)) aL (.inl (2, 6))) aG (.inl (2, 6))) b (.inl (2, L))
  let ν0 : Nat → Nat → Int32 := va_up (va_up (va_up (fun _ _ => 0) aL le_C) aG gr_C) b xs
  have hW : wm_P Γ ((s.heap.size, sh0), ν0) s s.heap := by
    refine ⟨hK, hZL, hZG, rfl, Nat.le_refl _, fun a => ?_⟩
    show cl_at Γ a (va_up (va_up (va_up (fun _ => .inl (7, 0)) aL (.inl (2, 6))) aG (.inl (2, 6))) b (.inl (2, L)) a) (va_up (va_up (va_up (fun _ _ => 0) aL le_C) aG gr_C) b xs a) s s.heap
    by_cases e1 : a = b
    · rw [e1, va_up_self, va_up_self]
      exact hTX
    · rw [va_up_ne _ _ e1, va_up_ne _ _ e1]
      by_cases e2 : a = aG
      · rw [e2, va_up_self, va_up_self]
        exact hTG
      · rw [va_up_ne _ _ e2, va_up_ne _ _ e2]
        by_cases e3 : a = aL
        · rw [e3, va_up_self, va_up_self]
          exact hTL
        · rw [va_up_ne _ _ e3, va_up_ne _ _ e3]
          exact trivial
  have hs : st_P Γ (s.heap.size, sh0) ν0 := by
    have kL : sh0 aL = .inl (2, 6) ∧ ∀ j : Nat, j < 6 → ν0 aL j = le_C j := by
      show va_up (va_up (va_up (fun _ => .inl (7, 0)) aL (.inl (2, 6))) aG (.inl (2, 6))) b (.inl (2, L)) aL = (.inl (2, 6) : sh_T) ∧ ∀ j : Nat, j < 6 → va_up (va_up (va_up (fun _ _ => 0) aL le_C) aG gr_C) b xs aL j = le_C j
      by_cases e1 : aL = b
      · have q := lw_same hL hX (e1 ▸ hTL)
        rw [e1, va_up_self, va_up_self, q.1]
        exact ⟨rfl, q.2⟩
      · rw [va_up_ne _ _ e1, va_up_ne _ _ e1]
        by_cases e2 : aL = aG
        · exact absurd (lw_apart hTL (e2 ▸ hTG)) id
        · rw [va_up_ne _ _ e2, va_up_ne _ _ e2, va_up_self, va_up_self]
          exact ⟨rfl, fun _ _ => rfl⟩
    have kG : sh0 aG = .inl (2, 6) ∧ ∀ j : Nat, j < 6 → ν0 aG j = gr_C j := by
      show va_up (va_up (va_up (fun _ => .inl (7, 0)) aL (.inl (2, 6))) aG (.inl (2, 6))) b (.inl (2, L)) aG = (.inl (2, 6) : sh_T) ∧ ∀ j : Nat, j < 6 → va_up (va_up (va_up (fun _ _ => 0) aL le_C) aG gr_C) b xs aG j = gr_C j
      by_cases e1 : aG = b
      · have q := lw_same hL hX (e1 ▸ hTG)
        rw [e1, va_up_self, va_up_self, q.1]
        exact ⟨rfl, q.2⟩
      · rw [va_up_ne _ _ e1, va_up_ne _ _ e1, va_up_self, va_up_self]
        exact ⟨rfl, fun _ _ => rfl⟩
    exact ⟨kL.1, kG.1, kL.2, kG.2⟩
  have hgo := law_entry (Γ := Γ) (n0 := s.heap.size) (sh0 := sh0) (ν0 := ν0) (b := b) (L := L) (va_up_self _ _ _) hL hbl ⟨haL, haG⟩ hs
  rw [lg_entry_eq]
  have hlen : (lg_sl [Value.ref b]).length ≤ 11 := Nat.le_of_ble_eq_true rfl
  have hl := lv_entry [Value.ref b] (n := 11) hlen
  have hlc : lc_P ((lg_sl [Value.ref b] ++ List.replicate (11 - (lg_sl [Value.ref b]).length) Slot.unset).toArray) 11 [some (.ref b), none, none, none, none, none, none, none, none, none, none] := by
    refine ⟨hl.1, hl.2.1, fun i v hi => ?_⟩
    match i, hi with
    | 0, hi => cases hi; exact hl.2.2 (0, .ref b) List.mem_cons_self
    | 1, hi => cases hi
    | 2, hi => cases hi
    | 3, hi => cases hi
    | 4, hi => cases hi
    | 5, hi => cases hi
    | 6, hi => cases hi
    | 7, hi => cases hi
    | 8, hi => cases hi
    | 9, hi => cases hi
    | 10, hi => cases hi
    | n + 11, hi => exact absurd hi (by simp)
  refine hgo p e s m _ below meth c _ s.heap [] _ ⟨hx, hb, hr, hml, hown, fun w hw => hts w (List.mem_filter.mp hw).1, hname, hE⟩ ?_ hW va_S.rf hlc (Nat.le_refl _)
  intro pc ls v H locs μ hrt _ hS hQ
  have hQ : v = some (.int 1) := hQ
  subst hQ
  rcases hrt with ⟨h1, _⟩ | ⟨x1, h1, _, hd⟩ | ⟨r1, h1, _⟩ | ⟨x1, h1, _⟩
  · cases h1
  · cases h1
    exact va_forget (fun q hq => hS.2.2 q hq) (lw_ret hx hb hr hlocks hd)
  · cases r1 with
    | none => cases h1
    | some a => cases h1
  · cases h1
set_option maxHeartbeats 4000000 in
theorem lw_walk (l : Launch) (hflags : l.flags = flags0) (b : Addr) (xs : List Int32) : MetFree l x (headSpec (Jvm.Cond.code x code maxLocals ret :: tables_1) room_1) (lw_P b xs) (fun _ _ _ _ _ => True) lw_Q := by
  refine MetFree.of_bodyS (code := code) (maxLocals := maxLocals) (ret := ret) (by decide) ?_ ?_
  · intro args s m h hn
    obtain ⟨meth, c, h1, h2, h3, h4, h5, h6, -, -⟩ := Cond.code_spec hn (atoms_spec (ws := Jvm.Cond.code x code maxLocals ret :: tables_1) h _ List.mem_cons_self)
    exact ⟨meth, c, h1, h2, h3, h4, h5, h6⟩
  · intro p e s m args below meth c s₁ B hml0 hP _
    obtain ⟨rfl, hx, hbd, hgv⟩ := hP
    obtain ⟨scr, harrAt, hlist, hof, hsmall⟩ := hx
    obtain ⟨hcb, hkn, -, -⟩ := State.arrayAt?_spec harrAt
    have hown : s.vm.findClass R_law = some m.cls := findClass_of_methodNamed B.named
    have hts0 : ∀ c ∈ (Jvm.Cond.code x code maxLocals ret :: tables_1), c.before #[Value.ref b] s = true := atoms_spec (ws := Jvm.Cond.code x code maxLocals ret :: tables_1) B.pre
    have hts : ∀ w ∈ lw_tbl, w.before #[Value.ref b] s = true := k2_hts_sels lw_privs (fun w hw => hts0 w (List.mem_cons_of_mem _ hw)) lw_privs_ok
    have hml : c.maxLocals = 11 := B.maxLocals_eq (hts0 _ List.mem_cons_self)
    have X₀ : Stand p l e room_1 s m #[Value.ref b] below meth c s₁ [] 0 0 := Stand.of_body B
    have hh0 : s₁.heap = s.heap := by rw [B.state]; rfl
    have hsz : scr.slots.size = xs.length := by rw [← Array.length_toList, hlist, List.length_map]
    have hval : ∀ j : Nat, j < xs.length → scr.slots[j]? = some (.int (xs.getD j 0)) := fun j hj => by
      rw [← Array.getElem?_toList, hlist]
      simp [hj]
    have hbl : b < s.heap.size := (Array.getElem?_eq_some_iff.mp hcb).1
    have hX : va_X b xs.length (fun j => xs.getD j 0) s s.heap := ⟨scr, hcb, hof, hkn, hsz, hval⟩
    have K : W p l e room_1 s m #[Value.ref b] below meth c s₁.heap [] 0 0 (lw_Z below #[Value.ref b] s) (entryFrame m ([Value.ref b] : List Value).toArray 11) := by
      rw [hh0]
      exact whole_start l hflags hbd ⟨B.exec, B.bytes, B.returns, hml, hown, hts, hX, hbl, B.notSynchronized, hgv, (name_of_methodNamed B.named B.method).1⟩
    obtain ⟨t, a1, o, b1, b2, b3⟩ := K s₁ rfl X₀
    exact ⟨t, o, a1, b1, b2, b3⟩
theorem lw_pre_spec {args : Array Value} {s : State} (h : (Jvm.Cond.and given_1 narrow_1).before args s = true) (hr : rest_1_c.before args s = true) : ∃ (b : Addr) (xs : List Int32), lw_P b xs args s := by
  have hs := flat_of_before _ h
  have hq := flat_of_before _ hr
  have hc : (Cond.count 1).before args s = true := hs _ (by decide +kernel)
  have harr : (Cond.arrayOf (.arg 0) .int).before args s = true := hs _ (by decide +kernel)
  have hle : (Cond.le (.length (.arg 0)) (.int 260)).before args s = true := hs _ (by decide +kernel)
  have hlen : (Cond.isInt (.length (.arg 0))).before args s = true := hq _ (by decide +kernel)
  have hall : (Cond.all (.arg 0) (.isInt (.elem (.arg 0) (.index 0)))).before args s = true := hq _ (by decide +kernel)
  obtain ⟨b, xs, hb, hx⟩ := State.ints_of_pre rfl harr hlen hall
  have hsm : xs.length < 2 ^ 31 := hx.choose_spec.2.2.2
  have hev : (Term.length (.arg 0)).eval args s none [] s = some (.int xs.length.toInt32) := hx.length_eval hb
  have hv := Cond.le_ints hev (show (Term.int 260).eval args s none [] s = some (.int 260) from rfl)
  have hd : xs.length.toInt32 ≤ 260 := by
    simpa [Cond.before, Cond.holds, hv] using hle
  have hN : xs.length ≤ 260 := (Int32.ofNat_le_ofNat hsm (by decide)).mp (show Int32.ofNat xs.length ≤ Int32.ofNat 260 from hd)
  exact ⟨b, xs, Cond.one_arg hc (show args[0]? = some (.ref b) from hb), hx, hN, h⟩
theorem lw_comes (l : Launch) (hflags : l.flags = flags0) : Comes l x (Jvm.Cond.code x code maxLocals ret :: tables_1) room_1 (fun tb e args s => Calls_1 tb e args s ∧ rest_1 tb e args s ∧ Pre_1 tb e args s)
    (fun _ _ args s o t => lw_Q args s o t) := by
  intro p e ha hc hk s m args below hf hfit hheap happ hpre
  obtain ⟨b, xs, hP⟩ := lw_pre_spec hpre.2.2 hpre.2.1
  obtain ⟨k, o, h1, h2, h3, hQ⟩ := lw_walk l hflags b xs p e ha hc hk s m args below hf ((Spec.applies_iff_loose hf).mp happ).1 hP trivial
  exact ⟨k, o, h1, h2, h3, hQ⟩
theorem lw_frame {s t : State} {o : Outcome} {args : Array Value} (h : Framed s o t [] 600000 7302250) :
    Framed s o t (fieldLocs frame_1_writes args s ++ arrayLocs frame_1_arrays args s ++ staticLocs frame_1_statics s) 600000 7302250 := h
theorem lw_limb (L : Cond) (hL : ∀ (args : Array Value) (s t : State), L.after args s (.returned (some (.int 1))) t = true) :
    ArmFor flags0 classFile x code maxLocals ret World_1 tables_1 room_1 Calls_1 rest_1 Pre_1
      (fun tb e a s o t => postC L tb e a s o t ∧ Framed s o t (fieldLocs frame_1_writes a s ++ arrayLocs frame_1_arrays a s ++ staticLocs frame_1_statics s) 600000 7302250) := by
  intro l hflags _ _ p e ha hc hk s m args below hf hfit hheap happ hpre
  obtain ⟨k, o, h1, h2, h3, rfl, hF⟩ := lw_comes l hflags p e ha hc hk s m args below hf hfit hheap happ hpre
  exact ⟨k, _, h1, h2, h3, hL args s _, lw_frame hF⟩
theorem i_vc : Claimed_1_1 ∧ Claimed_1_2 := ⟨lw_limb limb_1_1 (fun args s t => by simp [limb_1_1, Cond.after, Cond.holds, Cond.value]), lw_limb limb_1_2 (fun args s t => Cond.after_iff.mpr (by
  first | (rw [show limb_1_2 = Cond.eq .result (.int 1) from rfl, Cond.eq_ints (x := 1) (y := 1) rfl rfl]; simp; done) | (simp [limb_1_2, Cond.value, Term.eval]; done)))⟩
