theorem mp_o {S : Nat → Int32} {b j : Nat} {x v : Int32} (hr : ¬ ha_S S b x = 0 ∨ ls_n S b < 10) (hn : ls_n S b ≤ 10) (hj : j < b ∨ b + 20 < j) : mp_S S b x v j = S j := by
  have hle : ut_S S b x ≤ ls_n S b := by
    have := (ut_le (ls_P S b) x (ls_n S b) 0).2
    unfold ut_S
    omega
  unfold mp_S
  by_cases c : ha_S S b x = 0
  · have h1 := hr.resolve_left (fun q => q c)
    rw [if_pos c, ud_ne (by omega), ud_ne (by omega), ud_ne (by omega)]
    unfold sf_S; rw [if_neg (by omega)]
  · rw [if_neg c]
    obtain ⟨k, hk, _⟩ := ha_1 c
    rw [ud_ne (by omega), ud_ne (by omega)]
theorem mp_b {S : Nat → Int32} {b : Nat} {x v : Int32} (hr : ¬ ha_S S b x = 0 ∨ ls_n S b < 10) (hL : LK S b 10) : LK (mp_S S b x v) b 10 := by
  have hn := hL.1
  by_cases c : ha_S S b x = 0
  · have h1 := hr.resolve_left (fun q => q c)
    have e : mp_S S b x v b = nI (ls_n S b + 1) := by unfold mp_S; rw [if_pos c, ud_ne (by omega), ud_ne (by omega), ud_eq]
    have e2 : ls_n (mp_S S b x v) b = ls_n S b + 1 := by
      show (mp_S S b x v b).toNatClampNeg = _
      rw [e, nI_clamp (by omega)]
    exact ⟨by omega, by rw [e2]; exact e⟩
  · exact hL.of (by unfold mp_S; rw [if_neg c, ud_ne (by omega), ud_ne (by omega)])
def rm_F (c : Nat → Int32) (L : Nat) : Nat → Nat → Nat × Int32 → (Nat → Int32) → Nat × (Nat × Int32) × (Nat → Int32)
  | 0, i, p, S => (i, p, S)
  | f + 1, i, p, S => if p.1 < L ∧ p.2 = -1 then rm_F c L f (i + 1) (so c L (it_F c L S p.1).1.1, (it_F c L S p.1).1.2) (im_S c L S p.1) else (i, p, S)
theorem rm_x {c : Nat → Int32} {L i : Nat} {p : Nat × Int32} {S : Nat → Int32} : ∀ f : Nat, ¬ (p.1 < L ∧ p.2 = -1) → rm_F c L f i p S = (i, p, S)
  | 0, _ => rfl
  | _ + 1, h => if_neg h
