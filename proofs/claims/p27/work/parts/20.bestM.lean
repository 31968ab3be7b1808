/-! THE MODEL: best, whole -/
theorem beI_s {s : Nat → Int32} {hour : Int32} {d i : Nat} {x : Int32 × (Int32 × ((Nat → Int32) × (Nat → Int32)))} : beI s hour (d + 1) i x = beI s hour d (i + 1) (beT s hour (nI i) x) := rfl
