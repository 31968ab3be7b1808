/-! small ones -/
def bgF (s : Nat → Int32) (k : Nat) : Nat → Int32 := upd (upd s (20 + k) (s (12 + k))) (16 + k) (if s (12 + k) = 0 then 2 else 1)
