def em_S (S : Nat → Int32) (x : Int32) : Int32 := if ls_n S 42 = 0 then 0 else match ut_N (ls_P S 42) x (ls_n S 42) 0 with
  | 0 => ls_V S 42 0
  | k + 1 => if ls_n S 42 = k + 1 then ls_V S 42 k else ls_V S 42 k + dn_I ((ls_V S 42 (k + 1) - ls_V S 42 k) * (x - ls_P S 42 k)) (ls_P S 42 (k + 1) - ls_P S 42 k)
/-- no two comb points next to one another at one place -/
def nz_P (S : Nat → Int32) : Prop := ∀ i : Nat, i + 1 < ls_n S 42 → ¬ ls_P S 42 (i + 1) - ls_P S 42 i = 0
def to_M (S : Nat → Int32) : Int32 := if 0 ≤ S 1 - S 2 * S 3 / 100 then S 1 - S 2 * S 3 / 100 else 0
def fo_S (S : Nat → Int32) : Nat → Int32 := upd S 8 (if S 8 < S 7 - S 4 then S 7 - S 4 else if S 7 < S 8 then S 7 else S 8)
def m3_S (S : Nat → Int32) (d : Int32) : Nat → Int32 := upd (upd (upd S 12 (S 12 + 1)) 6 (S 6 + d * S 0)) 9 (S 9 + d * S 0)
def mt_S (T : Nat → Int32) : Nat → Int32 := fo_S (upd (upd (upd T 16 (T 16 + sz_I (T 9))) 7 (T 7 + T 9)) 9 0)
def mw_S (U : Nat → Int32) : Nat → Int32 := if U 9 < 32 then (if -32 < U 9 then U else upd (upd (upd U 15 (U 15 + 1)) 10 (U 10 - 64)) 9 (U 9 + 64)) else upd (upd (upd U 14 (U 14 + 1)) 10 (U 10 + 64)) 9 (U 9 - 64)
def mq_S (T : Nat → Int32) : Nat → Int32 := if to_M T < lo_S T (T 8) then mw_S (upd T 13 (T 13 + 1)) else mt_S T
def ms_S (S : Nat → Int32) (d : Int32) : Nat → Int32 := mq_S (m3_S S d)
def fi_S (d : Int32) : Nat → (Nat → Int32) → (Nat → Int32)
  | 0, S => S
  | f + 1, S => fi_S d f (ms_S S d)
def am_S (S : Nat → Int32) (x : Int32) : Int32 := x + em_S S x
def sn_I (x : Int32) : Int32 := if 0 ≤ x then 1 else -1
def mo_S (S : Nat → Int32) (x : Int32) : Nat → Int32 := fi_S (sn_I ((am_S S x - S 6) / S 0)) (sz_I ((am_S S x - S 6) / S 0)).toNatClampNeg S
theorem ms_o {S : Nat → Int32} {d : Int32} {j : Nat} (h : j < 6 ∨ j = 11 ∨ 17 ≤ j) : ms_S S d j = S j := by
  have h3 : m3_S S d j = S j := by unfold m3_S; rw [ud_ne (by omega), ud_ne (by omega), ud_ne (by omega)]
  unfold ms_S mq_S
  by_cases c : to_M (m3_S S d) < lo_S (m3_S S d) (m3_S S d 8)
  · rw [if_pos c]
    unfold mw_S
    split
    · split
      · rw [ud_ne (by omega), h3]
      · rw [ud_ne (by omega), ud_ne (by omega), ud_ne (by omega), ud_ne (by omega), h3]
    · rw [ud_ne (by omega), ud_ne (by omega), ud_ne (by omega), ud_ne (by omega), h3]
  · rw [if_neg c]
    unfold mt_S fo_S
    rw [ud_ne (by omega), ud_ne (by omega), ud_ne (by omega), ud_ne (by omega), h3]
theorem LK.of {S T : Nat → Int32} {b N : Nat} (h : LK S b N) (e : T b = S b) : LK T b N := by
  unfold LK ls_n at h ⊢
  rw [e]; exact h
theorem fi_o {d : Int32} {j : Nat} (h : j < 6 ∨ j = 11 ∨ 17 ≤ j) : ∀ (f : Nat) (S : Nat → Int32), fi_S d f S j = S j
  | 0, S => rfl
  | f + 1, S => (fi_o h f (ms_S S d)).trans (ms_o h)
theorem fi_s {d : Int32} : ∀ (f : Nat) (S : Nat → Int32), fi_S d (f + 1) S = fi_S d f (ms_S S d) := fun _ _ => rfl
