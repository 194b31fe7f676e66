section RULES2
variable {Γ : cx_T} {K : mt_K} {Q : Option Value → mm_T → Prop} {cs sl pc nx : Nat} {L : List (Option Value)} {st : List Value} {τ : Nat × (Nat → sh_T)} {ν : Nat → Nat → Int32}
theorem gx_geti {idx ci k a : Nat} {fl : List (Option (Option Nat))} (hd : decode K.2.1 pc = .ok (.getfield idx, 3) ∧ pc + 3 = nx) (hf : lf_P K.1.cls idx ci k) (hs : τ.2 a = .inr (.inr (ci, fl))) (hk : fl[k]? = some none) (kk : gg_P Γ K Q cs sl nx L (.int (ν a k) :: st) (τ, ν)) : gg_P Γ K Q cs sl pc L (.ref a :: st) (τ, ν) := gg_geti hd hf hs hk kk
theorem gx_iald {a n : Nat} {i : Int32} (hd : decode K.2.1 pc = .ok (.iaload, 1) ∧ pc + 1 = nx) (hs : τ.2 a = .inl (0, n)) (hin : vp_in i n) (kk : gg_P Γ K Q cs sl nx L (.int (ν a i.toNatClampNeg) :: st) (τ, ν)) : gg_P Γ K Q cs sl pc L (.int i :: .ref a :: st) (τ, ν) := gg_iald hd hs hin kk
theorem gx_iald2 {a n : Nat} {i : Int32} (hd : decode K.2.1 pc = .ok (.iaload, 1) ∧ pc + 1 = nx) (hs : τ.2 a = .inl (2, n)) (hin : vp_in i n) (kk : gg_P Γ K Q cs sl nx L (.int (ν a i.toNatClampNeg) :: st) (τ, ν)) : gg_P Γ K Q cs sl pc L (.int i :: .ref a :: st) (τ, ν) := gg_iald2 hd hs hin kk
/-- an int of an array at a place that is known as a number -/
theorem gx_ialdK {a n k : Nat} {i : Int32} (hd : decode K.2.1 pc = .ok (.iaload, 1) ∧ pc + 1 = nx) (hs : τ.2 a = .inl (0, n)) (hi : i = nI k ∧ k < n ∧ n < 2 ^ 31) (kk : gg_P Γ K Q cs sl nx L (.int (ν a k) :: st) (τ, ν)) : gg_P Γ K Q cs sl pc L (.int i :: .ref a :: st) (τ, ν) := by
  obtain ⟨rfl, h1, h2⟩ := hi
  refine gg_iald hd hs (vp_in_nI h1 h2) ?_
  rw [nI_clamp (by omega)]
  exact kk
theorem gx_iastK {a n k : Nat} {i v : Int32} (hd : decode K.2.1 pc = .ok (.iastore, 1) ∧ pc + 1 = nx) (hs : τ.2 a = .inl (0, n)) (hi : i = nI k ∧ k < n ∧ n < 2 ^ 31) (kk : gg_P Γ K Q cs sl nx L st (τ, up_2 ν a k v)) : gg_P Γ K Q cs sl pc L (.int v :: .int i :: .ref a :: st) (τ, ν) := by
  obtain ⟨rfl, h1, h2⟩ := hi
  refine gg_iast hd hs (vp_in_nI h1 h2) ?_
  rw [nI_clamp (by omega)]
  exact kk
/-- the top of the stack under another name -/
theorem gx_top {x y : Int32} (h : x = y) (kk : gg_P Γ K Q cs sl pc L (.int y :: st) (τ, ν)) : gg_P Γ K Q cs sl pc L (.int x :: st) (τ, ν) := by rw [h]; exact kk
end RULES2
/-- the kit's entry of a method, for a method of a class of the library that the machine runs as bytecode -/
theorem met_plain {l : Launch} {y : MethodName} {ws ws' : List Cond} {rm : Room} {Pc : Array Value → State → Prop} {Qc : Array Value → State → Outcome → State → Prop} {mc ms : Nat} {free : Addr → Prop} {cc : ByteArray} {maxL : Nat} {ret : Option FieldType}
    (hy : plainFor y = true) (hw : ws = Cond.code y cc maxL ret :: ws')
    (body : ∀ p e s m args below meth c s₁, BodyLoose p l y (headSpec ws rm) cc maxL ret e s m args below meth c s₁ → c.maxLocals = maxL → Pc args s →
      W p l e (headSpec ws rm).room s m args below meth c s.heap [] 0 0 (MQ below Qc args s mc ms free) (entryFrame m args maxL)) : Met l y ws rm Pc Qc mc ms free := by
  refine MetFree.of_bodySF (code := cc) (maxLocals := maxL) (ret := ret) hy (fun args s m h hn => ?_) (fun p e s m args below meth c s₁ B hml hP _ => ?_)
  · obtain ⟨meth, c, h1, h2, h3, h4, h5, h6, -, -⟩ := Cond.code_spec hn (atoms_spec (ws := ws) h _ (by rw [hw]; exact List.mem_cons_self))
    exact ⟨meth, c, h1, h2, h3, h4, h5, h6⟩
  · obtain ⟨t, a1, o, b1, b2, b3⟩ := body p e s m args below meth c s₁ B hml hP s₁ (by rw [B.state]; rfl) (Stand.of_body B)
    exact ⟨t, o, a1, b1, b2, b3⟩
set_option maxHeartbeats 1000000 in
theorem mt_ofF {Γ : cx_T} {K : mt_K} {av : List Value} {μ : mm_T} {Q : Option Value → mm_T → Prop} {L : List (Option Value)} (hy : plainFor K.1 = true) (hc : ∀ v ∈ av, v.category = 1) (hn : av.length ≤ K.2.2.1) (hL : ∀ (i : Nat) (v : Value), L[i]? = some (some v) → av[i]? = some v) (h : gg_P Γ K Q 0 0 0 L [] μ) : mt_P Γ K av μ Q := by
  refine met_plain (cc := K.2.1) (maxL := K.2.2.1) (ret := K.2.2.2.1) (ws' := wd_all) hy rfl ?_
  intro p e s m args below meth c s₁ B hml hv
  obtain ⟨rfl, hW, hE⟩ := hv
  have hts := atoms_spec (ws := wd_K K) B.pre
  have hlocks := B.notSynchronized
  rw [lg_entry_eq]
  have hlen : (lg_sl av).length ≤ K.2.2.1 := by rw [lg_sl_len av hc]; exact hn
  have hl := lv_entry av (n := K.2.2.1) hlen
  have hlc : lc_P ((lg_sl av ++ List.replicate (K.2.2.1 - (lg_sl av).length) Slot.unset).toArray) K.2.2.1 L := by
    refine ⟨hl.1, hl.2.1, fun i v hi => ?_⟩
    have h1 := hL i v hi
    have h2 := lc_args av 0 hc i v h1
    rw [Nat.zero_add] at h2
    exact hl.2.2 (i, v) h2
  refine h p e s m _ below meth c _ s.heap [] _ ⟨B.exec, B.bytes, B.returns, hml, findClass_of_methodNamed B.named, fun w hw => hts w (List.mem_cons_of_mem _ hw), (name_of_methodNamed B.named B.method).1, hE⟩ ?_ hW va_S.rf hlc (by rw [hW.2.2.2.1]; exact hW.2.2.2.2.1)
  intro pc ls v H locs μ' hrt hW' hS hQ
  have hq : ∀ t : State, t.heap = H → s.WarmedH t.vm → (∃ (v' : Option Value) (μ'' : mm_T), Outcome.returned v = .returned v' ∧ Q v' μ'' ∧ wm_P Γ μ'' t t.heap) ∧ va_F (fun q => cx_lo Γ ≤ q) s t := fun t ht hWm => ⟨⟨v, μ', rfl, hQ, by rw [ht]; exact wm_moved hWm.alike hW'⟩, hS.F ht⟩
  rcases hrt with ⟨rfl, hr, hd⟩ | ⟨x, rfl, hr, hd⟩ | ⟨r, rfl, ⟨n, hr⟩, hd⟩ | ⟨x, rfl, hr, hd⟩
  · exact W.vret B.exec B.bytes (B.returns.trans hr) hq hS.2.2 hd
  · rcases hr with hr | ⟨hr, hx⟩
    · exact W.iret (v := x) B.exec B.bytes (B.returns.trans hr) hq hS.2.2 hd
    · refine W.zret (v := x) (ty := .boolean) B.exec B.bytes (B.returns.trans hr) ?_ hq hS.2.2 hd
      rcases hx with rfl | rfl <;> rfl
  · refine W.aret (v := va_rf r) B.exec B.bytes (B.returns.trans hr) (Or.inl ⟨n, rfl⟩) ?_ hq hS.2.2 hd
    cases r with
    | none => exact Or.inl rfl
    | some a => exact Or.inr ⟨a, rfl⟩
  · exact W.lret (v := x) B.exec B.bytes (B.returns.trans hr) hq hS.2.2 hd

theorem lc_1_1 (u : Unit) {v0 : Value} : ∀ (i : Nat) (v : Value), ([some v0] : List (Option Value))[i]? = some (some v) → ([v0] : List Value)[i]? = some v
  | 0, v, h => by simpa using h
  | i + 1, v, h => by simp at h
theorem lc_1_2 (u : Unit) {v0 : Value} : ∀ (i : Nat) (v : Value), ([some v0, none] : List (Option Value))[i]? = some (some v) → ([v0] : List Value)[i]? = some v
  | 0, v, h => by simpa using h
  | 1, v, h => by simp at h
  | i + 2, v, h => by simp at h
theorem lc_1_4 (u : Unit) {v0 : Value} : ∀ (i : Nat) (v : Value), ([some v0, none, none, none] : List (Option Value))[i]? = some (some v) → ([v0] : List Value)[i]? = some v
  | 0, v, h => by simpa using h
  | 1, v, h => by simp at h
  | 2, v, h => by simp at h
  | 3, v, h => by simp at h
  | i + 4, v, h => by simp at h
theorem lc_2_2 (u : Unit) {v0 v1 : Value} : ∀ (i : Nat) (v : Value), ([some v0, some v1] : List (Option Value))[i]? = some (some v) → ([v0, v1] : List Value)[i]? = some v
  | 0, v, h => by simpa using h
  | 1, v, h => by simpa using h
  | i + 2, v, h => by simp at h
theorem lc_2_3 (u : Unit) {v0 v1 : Value} : ∀ (i : Nat) (v : Value), ([some v0, some v1, none] : List (Option Value))[i]? = some (some v) → ([v0, v1] : List Value)[i]? = some v
  | 0, v, h => by simpa using h
  | 1, v, h => by simpa using h
  | 2, v, h => by simp at h
  | i + 3, v, h => by simp at h
theorem lc_2_4 (u : Unit) {v0 v1 : Value} : ∀ (i : Nat) (v : Value), ([some v0, some v1, none, none] : List (Option Value))[i]? = some (some v) → ([v0, v1] : List Value)[i]? = some v
  | 0, v, h => by simpa using h
  | 1, v, h => by simpa using h
  | 2, v, h => by simp at h
  | 3, v, h => by simp at h
  | i + 4, v, h => by simp at h
theorem lc_2_5 (u : Unit) {v0 v1 : Value} : ∀ (i : Nat) (v : Value), ([some v0, some v1, none, none, none] : List (Option Value))[i]? = some (some v) → ([v0, v1] : List Value)[i]? = some v
  | 0, v, h => by simpa using h
  | 1, v, h => by simpa using h
  | 2, v, h => by simp at h
  | 3, v, h => by simp at h
  | 4, v, h => by simp at h
  | i + 5, v, h => by simp at h
theorem lc_2_7 (u : Unit) {v0 v1 : Value} : ∀ (i : Nat) (v : Value), ([some v0, some v1, none, none, none, none, none] : List (Option Value))[i]? = some (some v) → ([v0, v1] : List Value)[i]? = some v
  | 0, v, h => by simpa using h
  | 1, v, h => by simpa using h
  | 2, v, h => by simp at h
  | 3, v, h => by simp at h
  | 4, v, h => by simp at h
  | 5, v, h => by simp at h
  | 6, v, h => by simp at h
  | i + 7, v, h => by simp at h
theorem lc_3_3 (u : Unit) {v0 v1 v2 : Value} : ∀ (i : Nat) (v : Value), ([some v0, some v1, some v2] : List (Option Value))[i]? = some (some v) → ([v0, v1, v2] : List Value)[i]? = some v
  | 0, v, h => by simpa using h
  | 1, v, h => by simpa using h
  | 2, v, h => by simpa using h
  | i + 3, v, h => by simp at h
theorem lc_3_4 (u : Unit) {v0 v1 v2 : Value} : ∀ (i : Nat) (v : Value), ([some v0, some v1, some v2, none] : List (Option Value))[i]? = some (some v) → ([v0, v1, v2] : List Value)[i]? = some v
  | 0, v, h => by simpa using h
  | 1, v, h => by simpa using h
  | 2, v, h => by simpa using h
  | 3, v, h => by simp at h
  | i + 4, v, h => by simp at h
theorem lc_3_5 (u : Unit) {v0 v1 v2 : Value} : ∀ (i : Nat) (v : Value), ([some v0, some v1, some v2, none, none] : List (Option Value))[i]? = some (some v) → ([v0, v1, v2] : List Value)[i]? = some v
  | 0, v, h => by simpa using h
  | 1, v, h => by simpa using h
  | 2, v, h => by simpa using h
  | 3, v, h => by simp at h
  | 4, v, h => by simp at h
  | i + 5, v, h => by simp at h
theorem lc_4_5 (u : Unit) {v0 v1 v2 v3 : Value} : ∀ (i : Nat) (v : Value), ([some v0, some v1, some v2, some v3, none] : List (Option Value))[i]? = some (some v) → ([v0, v1, v2, v3] : List Value)[i]? = some v
  | 0, v, h => by simpa using h
  | 1, v, h => by simpa using h
  | 2, v, h => by simpa using h
  | 3, v, h => by simpa using h
  | 4, v, h => by simp at h
  | i + 5, v, h => by simp at h
theorem lc_4_7 (u : Unit) {v0 v1 v2 v3 : Value} : ∀ (i : Nat) (v : Value), ([some v0, some v1, some v2, some v3, none, none, none] : List (Option Value))[i]? = some (some v) → ([v0, v1, v2, v3] : List Value)[i]? = some v
  | 0, v, h => by simpa using h
  | 1, v, h => by simpa using h
  | 2, v, h => by simpa using h
  | 3, v, h => by simpa using h
  | 4, v, h => by simp at h
  | 5, v, h => by simp at h
  | 6, v, h => by simp at h
  | i + 7, v, h => by simp at h
theorem lc_5_6 (u : Unit) {v0 v1 v2 v3 v4 : Value} : ∀ (i : Nat) (v : Value), ([some v0, some v1, some v2, some v3, some v4, none] : List (Option Value))[i]? = some (some v) → ([v0, v1, v2, v3, v4] : List Value)[i]? = some v
  | 0, v, h => by simpa using h
  | 1, v, h => by simpa using h
  | 2, v, h => by simpa using h
  | 3, v, h => by simpa using h
  | 4, v, h => by simpa using h
  | 5, v, h => by simp at h
  | i + 6, v, h => by simp at h
theorem vi_1 {i : Int32} {n : Nat} (h1 : ¬ i < 0) (h2 : ¬ Int32.ofNat n ≤ i) (hn : n < 2 ^ 31) : vp_in i n := by
  rw [vp_in_iff]
  rw [Int32.lt_iff_toInt_lt] at h1
  rw [Int32.le_iff_toInt_le] at h2
  have e : (Int32.ofNat n).toInt = (n : Int) := nI_toInt hn
  rw [e] at h2
  rw [Int32.toInt_zero] at h1
  omega
def mx_I (x y : Int32) : Int32 := if x < y then y else x
def mn_I (x y : Int32) : Int32 := if y < x then y else x
def ab_I (x : Int32) : Int32 := if 0 ≤ x then x else -x
def sg_I (x : Int32) : Int32 := (x >>> (31 &&& 31)) ||| ((-x).toUInt32 >>> ((31 : Int32).toUInt32 &&& Int32.toUInt32 31)).toInt32
def fd_I (x y : Int32) : Int32 := if (x ^^^ y) < 0 ∧ ¬ x / y * y = x then x / y - 1 else x / y
def at_I (g : Nat → Int32) (n : Nat) (i : Int32) : Int32 := if i < 0 ∨ Int32.ofNat n ≤ i then 0 else g i.toNatClampNeg
def pu_I (ν : Nat → Nat → Int32) (r n : Nat) (i v : Int32) : Nat → Nat → Int32 := if i < 0 ∨ Int32.ofNat n ≤ i then ν else up_2 ν r i.toNatClampNeg v
set_option maxRecDepth 100000 in
set_option maxHeartbeats 4000000 in
theorem sp_J_max {Γ : cx_T} {τ : Nat × (Nat → sh_T)} {ν : Nat → Nat → Int32} {x y : Int32} : mt_P Γ mk_J_max [.int x, .int y] (τ, ν) (fun v μ' => v = some (.int (mx_I x y)) ∧ μ' = (τ, ν)) := by
  refine mt_ofF (L := [some (.int x), some (.int y)]) (by decide +kernel) (by simp [Value.category]) (Nat.le_of_ble_eq_true rfl) (lc_2_2 ()) ?_
  refine gg_ildn dc_J_max_0 rfl rfl ?_
  refine gg_ildn dc_J_max_1 rfl rfl ?_
  refine gg_iclt dc_J_max_2 (fun c_2 => ?_) (fun c_2 => ?_)
  · refine gg_ildn dc_J_max_9 rfl rfl ?_
    exact gg_iret dc_J_max_10 rfl ⟨Nat.le_of_ble_eq_true rfl, Nat.le_of_ble_eq_true rfl⟩ (⟨by unfold mx_I; first | rw [if_pos (by assumption)] | rw [if_neg (by assumption)], rfl⟩)
  · refine gg_ildn dc_J_max_5 rfl rfl ?_
    refine gg_goto dc_J_max_6 ?_
    exact gg_iret dc_J_max_10 rfl ⟨Nat.le_of_ble_eq_true rfl, Nat.le_of_ble_eq_true rfl⟩ (⟨by unfold mx_I; first | rw [if_pos (by assumption)] | rw [if_neg (by assumption)], rfl⟩)
set_option maxRecDepth 100000 in
set_option maxHeartbeats 4000000 in
theorem sp_J_min {Γ : cx_T} {τ : Nat × (Nat → sh_T)} {ν : Nat → Nat → Int32} {x y : Int32} : mt_P Γ mk_J_min [.int x, .int y] (τ, ν) (fun v μ' => v = some (.int (mn_I x y)) ∧ μ' = (τ, ν)) := by
  refine mt_ofF (L := [some (.int x), some (.int y)]) (by decide +kernel) (by simp [Value.category]) (Nat.le_of_ble_eq_true rfl) (lc_2_2 ()) ?_
  refine gg_ildn dc_J_min_0 rfl rfl ?_
  refine gg_ildn dc_J_min_1 rfl rfl ?_
  refine gg_icgt dc_J_min_2 (fun c_2 => ?_) (fun c_2 => ?_)
  · refine gg_ildn dc_J_min_9 rfl rfl ?_
    exact gg_iret dc_J_min_10 rfl ⟨Nat.le_of_ble_eq_true rfl, Nat.le_of_ble_eq_true rfl⟩ (⟨by unfold mn_I; first | rw [if_pos (by assumption)] | rw [if_neg (by assumption)], rfl⟩)
  · refine gg_ildn dc_J_min_5 rfl rfl ?_
    refine gg_goto dc_J_min_6 ?_
    exact gg_iret dc_J_min_10 rfl ⟨Nat.le_of_ble_eq_true rfl, Nat.le_of_ble_eq_true rfl⟩ (⟨by unfold mn_I; first | rw [if_pos (by assumption)] | rw [if_neg (by assumption)], rfl⟩)
set_option maxRecDepth 100000 in
set_option maxHeartbeats 4000000 in
theorem sp_J_abs {Γ : cx_T} {τ : Nat × (Nat → sh_T)} {ν : Nat → Nat → Int32} {x : Int32} : mt_P Γ mk_J_abs [.int x] (τ, ν) (fun v μ' => v = some (.int (ab_I x)) ∧ μ' = (τ, ν)) := by
  refine mt_ofF (L := [some (.int x)]) (by decide +kernel) (by simp [Value.category]) (Nat.le_of_ble_eq_true rfl) (lc_1_1 ()) ?_
  refine gg_ildn dc_J_abs_0 rfl rfl ?_
  refine gg_ifge dc_J_abs_1 (fun c_1 => ?_) (fun c_1 => ?_)
  · refine gg_ildn dc_J_abs_9 rfl rfl ?_
    exact gg_iret dc_J_abs_10 rfl ⟨Nat.le_of_ble_eq_true rfl, Nat.le_of_ble_eq_true rfl⟩ (⟨by unfold ab_I; first | rw [if_pos (by assumption)] | rw [if_neg (by assumption)], rfl⟩)
  · refine gg_ildn dc_J_abs_4 rfl rfl ?_
    refine gg_ineg dc_J_abs_5 ?_
    refine gg_goto dc_J_abs_6 ?_
    exact gg_iret dc_J_abs_10 rfl ⟨Nat.le_of_ble_eq_true rfl, Nat.le_of_ble_eq_true rfl⟩ (⟨by unfold ab_I; first | rw [if_pos (by assumption)] | rw [if_neg (by assumption)], rfl⟩)
set_option maxRecDepth 100000 in
set_option maxHeartbeats 4000000 in
theorem sp_J_signum {Γ : cx_T} {τ : Nat × (Nat → sh_T)} {ν : Nat → Nat → Int32} {x : Int32} : mt_P Γ mk_J_signum [.int x] (τ, ν) (fun v μ' => v = some (.int (sg_I x)) ∧ μ' = (τ, ν)) := by
  refine mt_of (L := [some (.int x)]) (by decide +kernel) (by simp [Value.category]) (Nat.le_of_ble_eq_true rfl) (lc_1_1 ()) ?_
  refine gg_ildn dc_J_signum_0 rfl rfl ?_
  refine gg_bipush (v := 31) dc_J_signum_1 (by decide) ?_
  refine gg_ishr dc_J_signum_3 ?_
  refine gg_ildn dc_J_signum_4 rfl rfl ?_
  refine gg_ineg dc_J_signum_5 ?_
  refine gg_bipush (v := 31) dc_J_signum_6 (by decide) ?_
  refine gg_iushr dc_J_signum_8 ?_
  refine gg_ior dc_J_signum_9 ?_
  exact gg_iret dc_J_signum_10 rfl ⟨Nat.le_of_ble_eq_true rfl, Nat.le_of_ble_eq_true rfl⟩ (⟨rfl, rfl⟩)
set_option maxRecDepth 100000 in
set_option maxHeartbeats 4000000 in
theorem sp_J_floorDiv {Γ : cx_T} {τ : Nat × (Nat → sh_T)} {ν : Nat → Nat → Int32} {x y : Int32} (hy : ¬ y = 0) : mt_P Γ mk_J_floorDiv [.int x, .int y] (τ, ν) (fun v μ' => v = some (.int (fd_I x y)) ∧ μ' = (τ, ν)) := by
  refine mt_ofF (L := [some (.int x), some (.int y), none]) (by decide +kernel) (by simp [Value.category]) (Nat.le_of_ble_eq_true rfl) (lc_2_3 ()) ?_
  refine gg_ildn dc_J_floorDiv_0 rfl rfl ?_
  refine gg_ildn dc_J_floorDiv_1 rfl rfl ?_
  refine gg_idiv dc_J_floorDiv_2 (hy) ?_
  refine gg_istn (i := 2) dc_J_floorDiv_3 rfl (Nat.le_of_ble_eq_true rfl) rfl ?_
  dsimp only [List.set]
  refine gg_ildn dc_J_floorDiv_4 rfl rfl ?_
  refine gg_ildn dc_J_floorDiv_5 rfl rfl ?_
  refine gg_ixor dc_J_floorDiv_6 ?_
  refine gg_ifge dc_J_floorDiv_7 (fun c_7 => ?_) (fun c_7 => ?_)
  · refine gg_ildn dc_J_floorDiv_21 rfl rfl ?_
    exact gg_iret dc_J_floorDiv_22 rfl ⟨Nat.le_of_ble_eq_true rfl, Nat.le_of_ble_eq_true rfl⟩ (⟨by unfold fd_I; rw [if_neg (fun h => c_7 |> fun q => by first | exact absurd h.1 (Int32.not_lt.mpr q) | exact absurd h.1 q)], rfl⟩)
  · refine gg_ildn dc_J_floorDiv_10 rfl rfl ?_
    refine gg_ildn dc_J_floorDiv_11 rfl rfl ?_
    refine gg_imul dc_J_floorDiv_12 ?_
    refine gg_ildn dc_J_floorDiv_13 rfl rfl ?_
    refine gg_iceq dc_J_floorDiv_14 (fun c_14 => ?_) (fun c_14 => ?_)
    · refine gg_ildn dc_J_floorDiv_21 rfl rfl ?_
      exact gg_iret dc_J_floorDiv_22 rfl ⟨Nat.le_of_ble_eq_true rfl, Nat.le_of_ble_eq_true rfl⟩ (⟨by unfold fd_I; rw [if_neg (fun h => h.2 c_14)], rfl⟩)
    · refine gg_ildn dc_J_floorDiv_17 rfl rfl ?_
      refine gg_iconst (v := 1) dc_J_floorDiv_18 (by decide) ?_
      refine gg_isub dc_J_floorDiv_19 ?_
      exact gg_iret dc_J_floorDiv_20 rfl ⟨Nat.le_of_ble_eq_true rfl, Nat.le_of_ble_eq_true rfl⟩ (⟨by unfold fd_I; rw [if_pos ⟨by first | exact c_7 | exact Int32.not_le.mp c_7, c_14⟩], rfl⟩)
set_option maxRecDepth 100000 in
set_option maxHeartbeats 4000000 in
theorem sp_R_at {Γ : cx_T} {τ : Nat × (Nat → sh_T)} {ν : Nat → Nat → Int32} {r n : Nat} {i : Int32} (h : τ.2 r = .inl (0, n)) (hn : n < 2 ^ 31) : mt_P Γ mk_R_at [.ref r, .int i] (τ, ν) (fun v μ' => v = some (.int (at_I (ν r) n i)) ∧ μ' = (τ, ν)) := by
  refine mt_of (L := [some (.ref r), some (.int i)]) (by decide +kernel) (by simp [Value.category]) (Nat.le_of_ble_eq_true rfl) (lc_2_2 ()) ?_
  refine gg_ildn dc_R_at_0 rfl rfl ?_
  refine gg_iflt dc_R_at_1 (fun c_1 => ?_) (fun c_1 => ?_)
  · refine gg_iconst (v := 0) dc_R_at_16 (by decide) ?_
    exact gg_iret dc_R_at_17 rfl ⟨Nat.le_of_ble_eq_true rfl, Nat.le_of_ble_eq_true rfl⟩ (⟨by unfold at_I; rw [if_pos (Or.inl c_1)], rfl⟩)
  · refine gg_ildn dc_R_at_4 rfl rfl ?_
    refine gg_aldn dc_R_at_5 rfl rfl ?_
    refine gg_alen dc_R_at_6 (Or.inl h) rfl ?_
    refine gg_icge dc_R_at_7 (fun c_7 => ?_) (fun c_7 => ?_)
    · refine gg_iconst (v := 0) dc_R_at_16 (by decide) ?_
      exact gg_iret dc_R_at_17 rfl ⟨Nat.le_of_ble_eq_true rfl, Nat.le_of_ble_eq_true rfl⟩ (⟨by unfold at_I; rw [if_pos (Or.inr c_7)], rfl⟩)
    · refine gg_aldn dc_R_at_10 rfl rfl ?_
      refine gg_ildn dc_R_at_11 rfl rfl ?_
      refine gx_iald dc_R_at_12 h (vi_1 c_1 c_7 hn) ?_
      refine gg_goto dc_R_at_13 ?_
      exact gg_iret dc_R_at_17 rfl ⟨Nat.le_of_ble_eq_true rfl, Nat.le_of_ble_eq_true rfl⟩ (⟨by unfold at_I; rw [if_neg (fun h => h.elim c_1 c_7)], rfl⟩)
set_option maxRecDepth 100000 in
set_option maxHeartbeats 4000000 in
theorem sp_R_at2 {Γ : cx_T} {τ : Nat × (Nat → sh_T)} {ν : Nat → Nat → Int32} {r n : Nat} {i : Int32} (h : τ.2 r = .inl (2, n)) (hn : n < 2 ^ 31) : mt_P Γ mk_R_at [.ref r, .int i] (τ, ν) (fun v μ' => v = some (.int (at_I (ν r) n i)) ∧ μ' = (τ, ν)) := by
  refine mt_of (L := [some (.ref r), some (.int i)]) (by decide +kernel) (by simp [Value.category]) (Nat.le_of_ble_eq_true rfl) (lc_2_2 ()) ?_
  refine gg_ildn dc_R_at_0 rfl rfl ?_
  refine gg_iflt dc_R_at_1 (fun c_1 => ?_) (fun c_1 => ?_)
  · refine gg_iconst (v := 0) dc_R_at_16 (by decide) ?_
    exact gg_iret dc_R_at_17 rfl ⟨Nat.le_of_ble_eq_true rfl, Nat.le_of_ble_eq_true rfl⟩ (⟨by unfold at_I; rw [if_pos (Or.inl c_1)], rfl⟩)
  · refine gg_ildn dc_R_at_4 rfl rfl ?_
    refine gg_aldn dc_R_at_5 rfl rfl ?_
    refine gg_alen dc_R_at_6 (Or.inr (Or.inl h)) rfl ?_
    refine gg_icge dc_R_at_7 (fun c_7 => ?_) (fun c_7 => ?_)
    · refine gg_iconst (v := 0) dc_R_at_16 (by decide) ?_
      exact gg_iret dc_R_at_17 rfl ⟨Nat.le_of_ble_eq_true rfl, Nat.le_of_ble_eq_true rfl⟩ (⟨by unfold at_I; rw [if_pos (Or.inr c_7)], rfl⟩)
    · refine gg_aldn dc_R_at_10 rfl rfl ?_
      refine gg_ildn dc_R_at_11 rfl rfl ?_
      refine gx_iald2 dc_R_at_12 h (vi_1 c_1 c_7 hn) ?_
      refine gg_goto dc_R_at_13 ?_
      exact gg_iret dc_R_at_17 rfl ⟨Nat.le_of_ble_eq_true rfl, Nat.le_of_ble_eq_true rfl⟩ (⟨by unfold at_I; rw [if_neg (fun h => h.elim c_1 c_7)], rfl⟩)
set_option maxRecDepth 100000 in
set_option maxHeartbeats 4000000 in
theorem sp_R_put {Γ : cx_T} {τ : Nat × (Nat → sh_T)} {ν : Nat → Nat → Int32} {r n : Nat} {i x : Int32} (h : τ.2 r = .inl (0, n)) (hn : n < 2 ^ 31) : mt_P Γ mk_R_put [.ref r, .int i, .int x] (τ, ν) (fun v μ' => v = none ∧ μ' = (τ, pu_I ν r n i x)) := by
  refine mt_of (L := [some (.ref r), some (.int i), some (.int x)]) (by decide +kernel) (by simp [Value.category]) (Nat.le_of_ble_eq_true rfl) (lc_3_3 ()) ?_
  refine gg_ildn dc_R_put_0 rfl rfl ?_
  refine gg_iflt dc_R_put_1 (fun c_1 => ?_) (fun c_1 => ?_)
  · exact gg_vret dc_R_put_14 rfl ⟨Nat.le_of_ble_eq_true rfl, Nat.le_of_ble_eq_true rfl⟩ (⟨rfl, by unfold pu_I; rw [if_pos (Or.inl c_1)]⟩)
  · refine gg_ildn dc_R_put_4 rfl rfl ?_
    refine gg_aldn dc_R_put_5 rfl rfl ?_
    refine gg_alen dc_R_put_6 (Or.inl h) rfl ?_
    refine gg_icge dc_R_put_7 (fun c_7 => ?_) (fun c_7 => ?_)
    · exact gg_vret dc_R_put_14 rfl ⟨Nat.le_of_ble_eq_true rfl, Nat.le_of_ble_eq_true rfl⟩ (⟨rfl, by unfold pu_I; rw [if_pos (Or.inr c_7)]⟩)
    · refine gg_aldn dc_R_put_10 rfl rfl ?_
      refine gg_ildn dc_R_put_11 rfl rfl ?_
      refine gg_ildn dc_R_put_12 rfl rfl ?_
      refine gg_iast dc_R_put_13 h (vi_1 c_1 c_7 hn) ?_
      exact gg_vret dc_R_put_14 rfl ⟨Nat.le_of_ble_eq_true rfl, Nat.le_of_ble_eq_true rfl⟩ (⟨rfl, by unfold pu_I; rw [if_neg (fun h => h.elim c_1 c_7)]⟩)
