def sm_S (S : Nat → Int32) (k x y : Int32) : Nat → Int32 := if k = 102 then upd (upd (upd S 18 1) 19 x) 20 y else mp_S S (kb_N k) x y
def im_S (c : Nat → Int32) (L : Nat) (S : Nat → Int32) (o : Nat) : Nat → Int32 := sm_S S (nx_I c L o) (i1_F c L o).1 (i3_F c L (nx_I c L o) o).1
