def sh_Tx (sh : Nat → sh_T) (q : Nat) : Prop := sh q = .inr (.inr (4, [some (some (q + 1)), none, none, none])) ∧ sh (q + 1) = .inl (0, 100)
section RULES3
variable {Γ : cx_T} {K : mt_K} {Q : Option Value → mm_T → Prop} {cs sl pc nx : Nat} {L9 : List (Option Value)} {st : List Value} {τ : Nat × (Nat → sh_T)} {ν : Nat → Nat → Int32} {q L idx : Nat} {o e : Int32} {fl : List (Option (Option Nat))}
end RULES3
/-- the character at a place, -1 behind the last -/
def nx_I (c : Nat → Int32) (L o : Nat) : Int32 := if o < L then c o else -1
def so_N (c : Nat → Int32) (L : Nat) : Nat → Nat → Nat
  | 0, o => o
  | f + 1, o => if nx_I c L o = 32 then so_N c L f (o + 1) else o
/-- spaces passed over -/
def so (c : Nat → Int32) (L o : Nat) : Nat := so_N c L (L - o) o
theorem nx_t {c : Nat → Int32} {L o : Nat} (h : nx_I c L o = 32) : o < L := by
  unfold nx_I at h
  by_cases c1 : o < L
  · exact c1
  · rw [if_neg c1] at h; exact absurd h (by decide)
theorem so_t {c : Nat → Int32} {L o : Nat} (h : nx_I c L o = 32) : so c L o = so c L (o + 1) := by
  have := nx_t h
  unfold so
  rw [show L - o = (L - (o + 1)) + 1 by omega]
  exact if_pos h
theorem so_f {c : Nat → Int32} {L o : Nat} (h : ¬ nx_I c L o = 32) : so c L o = o := by
  unfold so
  cases L - o with
  | zero => rfl
  | succ f => exact if_neg h
theorem so_le {c : Nat → Int32} {L : Nat} : ∀ (d o : Nat), L - o = d → o ≤ so c L o ∧ (o ≤ L → so c L o ≤ L)
  | 0, o, hd => by
    rw [so_f (fun h => by have := nx_t h; omega)]
    exact ⟨Nat.le_refl _, fun h => h⟩
  | d + 1, o, hd => by
    by_cases h : nx_I c L o = 32
    · rw [so_t h]
      have := so_le (c := c) (L := L) d (o + 1) (by omega)
      exact ⟨by omega, fun _ => this.2 (by omega)⟩
    · rw [so_f h]
      exact ⟨Nat.le_refl _, fun h => h⟩
theorem so_L {c : Nat → Int32} {L o : Nat} (h : o ≤ L) : so c L o ≤ L := (so_le _ o rfl).2 h
theorem so_g {c : Nat → Int32} {L o : Nat} : o ≤ so c L o := (so_le _ o rfl).1
def dg_I (x : Int32) : Int32 := if x < 48 ∨ 57 < x then 0 else 1
theorem dg_t {c : Nat → Int32} {L o : Nat} (h : ¬ dg_I (nx_I c L o) = 0) : o < L := by
  unfold nx_I at h
  by_cases c1 : o < L
  · exact c1
  · rw [if_neg c1] at h; exact absurd (by decide) h
def rd_D (c : Nat → Int32) (L : Nat) : Nat → Nat → Int32 → Int32 × Nat
  | 0, o, v => (v, o)
  | f + 1, o, v => if dg_I (nx_I c L o) = 0 then (v, o) else rd_D c L f (o + 1) (v * 10 + nx_I c L o - 48)
theorem rd_le {c : Nat → Int32} {L : Nat} : ∀ (f o : Nat) (v : Int32), o ≤ (rd_D c L f o v).2 ∧ (o ≤ L → (rd_D c L f o v).2 ≤ L)
  | 0, o, v => ⟨Nat.le_refl _, fun h => h⟩
  | f + 1, o, v => by
    unfold rd_D
    by_cases h : dg_I (nx_I c L o) = 0
    · rw [if_pos h]; exact ⟨Nat.le_refl _, fun h => h⟩
    · rw [if_neg h]
      have h1 := dg_t h
      have := rd_le (c := c) (L := L) f (o + 1) (v * 10 + nx_I c L o - 48)
      exact ⟨by omega, fun _ => this.2 (by omega)⟩
/-- is there a minus sign; where the digits begin; what they tell and where they end; the number -/
abbrev ng_B (c : Nat → Int32) (L : Nat) (mb : Int32) (o : Nat) : Prop := ¬ mb = 0 ∧ nx_I c L (so c L o) = 45
def fi_N (c : Nat → Int32) (L : Nat) (mb : Int32) (o : Nat) : Nat := if ng_B c L mb o then so c L (so c L o + 1) else so c L o
def rv_N (c : Nat → Int32) (L : Nat) (mb : Int32) (o : Nat) : Int32 × Nat := rd_D c L 5 (fi_N c L mb o) 0
def va_9 (c : Nat → Int32) (L : Nat) (mb : Int32) (o : Nat) : Int32 := if ng_B c L mb o then -(rv_N c L mb o).1 else (rv_N c L mb o).1
def er_9 (c : Nat → Int32) (L : Nat) (lo hi mb : Int32) (o : Nat) : Int32 := if fi_N c L mb o < (rv_N c L mb o).2 ∧ ((fi_N c L mb o + 1 < (rv_N c L mb o).2 ∧ c (fi_N c L mb o) = 48) ∨ va_9 c L mb o < lo ∨ hi < va_9 c L mb o) then nI (fi_N c L mb o) else if (rv_N c L mb o).2 = fi_N c L mb o ∨ ¬ dg_I (nx_I c L (rv_N c L mb o).2) = 0 then nI (rv_N c L mb o).2 else -1
theorem ng_t {c : Nat → Int32} {L o : Nat} {mb : Int32} (h : ng_B c L mb o) : so c L o < L := by
  have h := h.2
  unfold nx_I at h
  by_cases c1 : so c L o < L
  · exact c1
  · rw [if_neg c1] at h; exact absurd h (by decide)
theorem fi_le {c : Nat → Int32} {L o : Nat} {mb : Int32} (h : o ≤ L) : o ≤ fi_N c L mb o ∧ fi_N c L mb o ≤ L := by
  have h1 := so_g (c := c) (L := L) (o := o)
  unfold fi_N
  by_cases hn : ng_B c L mb o
  · rw [if_pos hn]
    have h2 := ng_t hn
    have h3 := so_g (c := c) (L := L) (o := so c L o + 1)
    exact ⟨by omega, so_L (by omega)⟩
  · rw [if_neg hn]; exact ⟨h1, so_L h⟩
theorem rv_le {c : Nat → Int32} {L o : Nat} {mb : Int32} (h : o ≤ L) : fi_N c L mb o ≤ (rv_N c L mb o).2 ∧ (rv_N c L mb o).2 ≤ L := by
  have h1 := fi_le (c := c) (L := L) (o := o) (mb := mb) h
  have h2 := rd_le (c := c) (L := L) 5 (fi_N c L mb o) 0
  exact ⟨h2.1, h2.2 h1.2⟩
/-- an offset and an error: what reading a number, a sign makes of them -/
def rn_F (c : Nat → Int32) (L : Nat) (lo hi mb : Int32) (p : Nat × Int32) : Int32 × Nat × Int32 := if p.2 = -1 then (va_9 c L mb p.1, (rv_N c L mb p.1).2, er_9 c L lo hi mb p.1) else (0, p)
def ex_F (c : Nat → Int32) (L : Nat) (ch : Int32) (p : Nat × Int32) : Nat × Int32 := if p.2 = -1 then (if nx_I c L (so c L p.1) = ch then (so c L p.1 + 1, -1) else (so c L p.1, nI (so c L p.1))) else p
theorem rn_L {c : Nat → Int32} {L : Nat} {lo hi mb : Int32} {p : Nat × Int32} (h : p.1 ≤ L) : p.1 ≤ (rn_F c L lo hi mb p).2.1 ∧ (rn_F c L lo hi mb p).2.1 ≤ L := by
  unfold rn_F
  split
  · have h1 := fi_le (c := c) (L := L) (mb := mb) h
    have h2 := rv_le (c := c) (L := L) (mb := mb) h
    exact ⟨by show p.1 ≤ (rv_N c L mb p.1).2; omega, h2.2⟩
  · exact ⟨Nat.le_refl _, h⟩
theorem ex_L {c : Nat → Int32} {L : Nat} {ch : Int32} {p : Nat × Int32} (hch : ¬ ch = -1) (h : p.1 ≤ L) : p.1 ≤ (ex_F c L ch p).1 ∧ (ex_F c L ch p).1 ≤ L := by
  have h1 := so_g (c := c) (L := L) (o := p.1)
  have h2 := so_L (c := c) h
  unfold ex_F
  split
  · split
    · rename_i hx
      have : so c L p.1 < L := by
        unfold nx_I at hx
        by_cases c1 : so c L p.1 < L
        · exact c1
        · rw [if_neg c1] at hx; exact absurd hx.symm hch
      exact ⟨by show p.1 ≤ so c L p.1 + 1; omega, by show so c L p.1 + 1 ≤ L; omega⟩
    · exact ⟨h1, h2⟩
  · exact ⟨Nat.le_refl _, h⟩
def ls_I (k x : Int32) : Int32 := if k = 108 then 0 else if k = 99 then -99 else x + 1
def gs_I (k : Int32) : Int32 := if k = 108 then 200 else if k = 99 then 99 else 20000
/-- what an item makes of a row, and whether it finds room -/
def hr_I (S : Nat → Int32) (b : Nat) (x : Int32) : Int32 := if ls_n S b < 10 then 1 else ha_S S b x
def kb_N (k : Int32) : Nat := if k = 108 then 21 else 42
def si_S (S : Nat → Int32) (k x y : Int32) : Nat → Int32 := if k = 102 then upd (upd (upd S 18 1) 19 x) 20 y else if hr_I S (kb_N k) x = 0 then S else pp_S S (kb_N k) x y
def si_E (S : Nat → Int32) (k x : Int32) (e : Int32) : Int32 := if k = 102 then -1 else if hr_I S (kb_N k) x = 0 then e else -1
theorem hr_o {S : Nat → Int32} {b : Nat} {x : Int32} (h : ¬ hr_I S b x = 0) : ¬ ha_S S b x = 0 ∨ ls_n S b < 10 := by
  unfold hr_I at h
  by_cases c : ls_n S b < 10
  · exact Or.inr c
  · rw [if_neg c] at h; exact Or.inl h
theorem pp_o {S : Nat → Int32} {b j : Nat} {x v : Int32} (hr : ¬ ha_S S b x = 0 ∨ ls_n S b < 10) (hn : ls_n S b ≤ 10) (hj : j < b ∨ b + 20 < j) : pp_S S b x v j = S j := by
  unfold pp_S
  by_cases c : ha_S S b x = 0
  · have h1 := hr.resolve_left (fun q => q c)
    rw [if_pos c, rw_o (by omega)]
  · rw [if_neg c]
    obtain ⟨k, hk, _⟩ := ha_1 c
    have hle : ut_S S b x ≤ ls_n S b := by
      have := (ut_le (ls_P S b) x (ls_n S b) 0).2
      unfold ut_S
      omega
    rw [ud_ne (by omega)]
theorem rp_o {S : Nat → Int32} {b j : Nat} {x : Int32} (hn : ls_n S b ≤ 10) (hj : j < b ∨ b + 20 < j) : rp_S S b x j = S j := rw_o (by omega)
theorem fr_p3 {ν ν' : Nat → Nat → Int32} {a : Nat} (h : ∀ c : Nat, c ≠ a + 3 → c ≠ a + 3 + 1 → c ≠ a + 3 + 2 → ν' c = ν c) : fr_P ν ν' a := fun b hb => h b (by omega) (by omega) (by omega)
theorem fr_p6 {ν ν' : Nat → Nat → Int32} {a : Nat} (h : ∀ c : Nat, c ≠ a + 6 → c ≠ a + 6 + 1 → c ≠ a + 6 + 2 → ν' c = ν c) : fr_P ν ν' a := fun b hb => h b (by omega) (by omega) (by omega)
