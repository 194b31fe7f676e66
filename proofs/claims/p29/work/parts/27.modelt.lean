def sa_I (S : Nat → Int32) (x v : Int32) : Int32 := if S 13 < mo_S (upd S 2 v) x 13 then 1 else 0
def fs_N (S : Nat → Int32) (x : Int32) : Nat → Nat
  | 0 => 0
  | k + 1 => if sa_I S x (nI (50 * (k + 1))) = 0 then k + 1 else fs_N S x k
