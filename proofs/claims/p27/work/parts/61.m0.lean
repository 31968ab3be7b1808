/-! THE START: the island that the constructor makes -/
def fl9 (F : Nat → Int32) (i : Nat) : Nat → Int32 := fun j => if 40 ≤ j ∧ j < 40 + i then 100 else F j
def m1 : Nat → Int32 := (upd (upd (upd (upd (upd (upd (upd (upd (upd (upd (upd (upd (upd (upd (upd (upd (fun _ => 0) 0 200) 4 60) 8 10) 12 1) 1 200) 5 60) 9 20) 13 1) 2 200) 6 60) 10 30) 14 1) 3 200) 7 60) 11 40) 15 1)
def m0 : Nat → Int32 := upd (upd (fl9 m1 48) 32 80) 33 6
