/-! THE MODEL: what would be -/
theorem left_nI {x : Int32} {H : Nat} (hs : x = nI H) (hH : H ≤ 48) : nI (48 - H) = 48 - x := by
  rw [hs, show (48 : Int32) = nI (48 - H + H) from by rw [Nat.sub_add_cancel hH]; rfl, ← nI_add, Int32.add_sub_cancel]
/-- the model's island at the end -/
def endF (s ld ob : Nat → Int32) (H : Nat) : S3 := goI (48 - H) (s, ld, ob)

