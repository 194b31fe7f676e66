def nm_N (k : Nat) (x : Int32) : Int32 := match k with
  | 0 => if x = 1 ∨ x = 2 ∨ x = 4 ∨ x = 8 ∨ x = 16 then 1 else 0
  | 1 => in_I x 0 200
  | 2 => in_I x 1 1000
  | 3 => in_I x 0 100
  | _ => in_I x 0 50
def nm_I (i x : Int32) : Int32 := if i < 0 ∨ 6 ≤ i then 0 else nm_N i.toNatClampNeg x
theorem nm_k {k : Nat} {x : Int32} (h : k < 6) : nm_I (nI k) x = nm_N k x := by
  unfold nm_I
  rw [if_neg (fun q => q.elim (nI_pos (by omega)) (nI_ge (b := 6) h (by omega))), nI_clamp (by omega)]
/-- microsteps in a direction until a test holds, at most so many; how many are left -/
def lp_S (c : (Nat → Int32) → Bool) (d : Int32) : Nat → (Nat → Int32) → (Nat → Int32) × Nat
  | 0, S => (S, 0)
  | l + 1, S => if c S = true then (S, l + 1) else lp_S c d l (ms_S S d)
def se_S (S : Nat → Int32) (w : Int32) : (Nat → Int32) × Nat := if w = 0 then lp_S (fun T => decide (S 19 ≤ T 8)) 1 (lp_S (fun T => decide (T 8 < S 19 - 16)) (-1) 20001 S).2 (lp_S (fun T => decide (T 8 < S 19 - 16)) (-1) 20001 S).1 else lp_S (fun T => decide (T 8 ≤ S 20)) (-1) (lp_S (fun T => decide (S 20 + 16 < T 8)) 1 20001 S).2 (lp_S (fun T => decide (S 20 + 16 < T 8)) 1 20001 S).1
theorem lp_o {c : (Nat → Int32) → Bool} {d : Int32} {j : Nat} (h : j < 6 ∨ j = 11 ∨ 17 ≤ j) : ∀ (f : Nat) (S : Nat → Int32), (lp_S c d f S).1 j = S j
  | 0, S => rfl
  | f + 1, S => by
    unfold lp_S
    split
    · rfl
    · exact (lp_o h f (ms_S S d)).trans (ms_o h)
theorem lp_t {c : (Nat → Int32) → Bool} {d : Int32} {f : Nat} {S : Nat → Int32} (h : c S = true) : lp_S c d (f + 1) S = (S, f + 1) := if_pos h
theorem lp_f {c : (Nat → Int32) → Bool} {d : Int32} {f : Nat} {S : Nat → Int32} (h : ¬ c S = true) : lp_S c d (f + 1) S = lp_S c d f (ms_S S d) := if_neg h
