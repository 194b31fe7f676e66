def sf_S (S : Nat → Int32) (b K T : Nat) : Nat → Int32 := fun j => if b + K < j ∧ j ≤ b + T then S (j - 2) else S j
def sg_S (S : Nat → Int32) (b K T : Nat) : Nat → Int32 := fun j => if b + K ≤ j ∧ j < b + T then S (j + 2) else S j
theorem sg_b {S : Nat → Int32} {b K T : Nat} (h : 1 ≤ K) : sg_S S b K T b = S b := by unfold sg_S; rw [if_neg (by omega)]
def mp_S (S : Nat → Int32) (b : Nat) (x v : Int32) : Nat → Int32 := if ha_S S b x = 0 then upd (upd (upd (sf_S S b (2 * ut_S S b x + 2) (2 * ls_n S b + 2)) b (nI (ls_n S b + 1))) (b + 1 + 2 * ut_S S b x) x) (b + 2 + 2 * ut_S S b x) v else upd (upd S (b + 1 + 2 * (ut_S S b x - 1)) x) (b + 2 + 2 * (ut_S S b x - 1)) v
def mr_S (S : Nat → Int32) (b : Nat) (x : Int32) : Nat → Int32 := sg_S (upd S b (nI (ls_n S b - 1))) b (2 * (ut_S S b x - 1) + 1) (2 * (ls_n S b - 1) + 1)
def nt_X (X : Nat → Nat → Int32) : Nat → Nat → Int32 := if X 0 2 = 6 then up_2 (va_up X 2 (pa_N (cp_N (fun k => X 2 (k + 80)) (X 2) 400) 400 (X 1) 80)) 0 2 (nI 6) else up_2 (va_up X 2 (pa_N (X 2) (80 * (X 0 2).toNatClampNeg) (X 1) 80)) 0 2 (X 0 2 + 1)
def PS (X : Nat → Nat → Int32) : Prop := ∃ n : Nat, n ≤ 6 ∧ X 0 2 = nI n
theorem nt_o {X : Nat → Nat → Int32} {c : Nat} (h0 : c ≠ 0) (h2 : c ≠ 2) : nt_X X c = X c := by
  unfold nt_X
  split
  · rw [u2_ne h0, va_up_ne _ _ h2]
  · rw [u2_ne h0, va_up_ne _ _ h2]
theorem nt_j {X : Nat → Nat → Int32} {j : Nat} (h : j ≠ 2) : nt_X X 0 j = X 0 j := by
  unfold nt_X
  split
  · unfold up_2 va_up; simp [h]
  · unfold up_2 va_up; simp [h]
