/-! THE MODEL: its memory by parts, and its small methods -/
def dm (s a v t ld ob : Nat → Int32) : Nat → Nat → Int32 := fun q => if q = 33 then s else if q = 34 then a else if q = 35 then v else if q = 36 then t else if q = 37 then ld else if q = 32 then ob else fun _ => 0
section DM
variable {s a v t ld ob s' ld' ob' : Nat → Int32} {k : Nat} {x : Int32}
theorem dm_33 : up2 (dm s a v t ld ob) 33 k x = dm (upd s k x) a v t ld ob := by
  funext q
  unfold up2 dm
  by_cases h : q = 33
  · subst h; rfl
  · simp [h]
theorem dm_34 : up2 (dm s a v t ld ob) 34 k x = dm s (upd a k x) v t ld ob := by
  funext q
  unfold up2 dm
  by_cases h : q = 34
  · subst h; rfl
  · simp [h]
theorem dm_35 : up2 (dm s a v t ld ob) 35 k x = dm s a (upd v k x) t ld ob := by
  funext q
  unfold up2 dm
  by_cases h : q = 35
  · subst h; rfl
  · simp [h]
theorem dm_36 : up2 (dm s a v t ld ob) 36 k x = dm s a v (upd t k x) ld ob := by
  funext q
  unfold up2 dm
  by_cases h : q = 36
  · subst h; rfl
  · simp [h]
theorem dm_37 : up2 (dm s a v t ld ob) 37 k x = dm s a v t (upd ld k x) ob := by
  funext q
  unfold up2 dm
  by_cases h : q = 37
  · subst h; rfl
  · simp [h]
theorem dm_32 : up2 (dm s a v t ld ob) 32 k x = dm s a v t ld (upd ob k x) := by
  funext q
  unfold up2 dm
  by_cases h : q = 32
  · subst h; rfl
  · simp [h]
theorem dm_mk : mk2 (md (dm s a v t ld ob) s') ld' ob' = dm s' a v t ld' ob' := by
  funext q
  unfold mk2 md dm
  by_cases h1 : q = 37
  · subst h1; rfl
  · by_cases h2 : q = 32
    · subst h2; rfl
    · by_cases h3 : q = 33
      · subst h3; rfl
      · simp [h1, h2, h3]
theorem dm_mk0 : mk2 (dm s a v t ld ob) ld' ob' = dm s a v t ld' ob' := by
  funext q
  unfold mk2 dm
  by_cases h1 : q = 37
  · subst h1; rfl
  · by_cases h2 : q = 32
    · subst h2; rfl
    · simp [h1, h2]
end DM
theorem set4 {v : Int32} (h : 0 ≤ v ∧ v ≤ 3) : v = 0 ∨ v = 1 ∨ v = 2 ∨ v = 3 := by
  have h1 := Int32.le_iff_toInt_le.mp h.1
  have h2 := Int32.le_iff_toInt_le.mp h.2
  have e0 : (0 : Int32).toInt = 0 := rfl
  have e3 : (3 : Int32).toInt = 3 := rfl
  rw [e0] at h1
  rw [e3] at h2
  have h3 : v.toInt = 0 ∨ v.toInt = 1 ∨ v.toInt = 2 ∨ v.toInt = 3 := by omega
  rcases h3 with e | e | e | e
  · exact Or.inl (Int32.toInt_inj.mp e)
  · exact Or.inr (Or.inl (Int32.toInt_inj.mp e))
  · exact Or.inr (Or.inr (Or.inl (Int32.toInt_inj.mp e)))
  · exact Or.inr (Or.inr (Or.inr (Int32.toInt_inj.mp e)))

theorem f_b_t {P : Prop} [Decidable P] (h : P) : f_b P = 1 := if_pos h
theorem f_b_f {P : Prop} [Decidable P] (h : ¬ P) : f_b P = 0 := if_neg h
def manF (m : Int32) : Int32 := (m &&& 1) + ((m >>> ((1 : Int32) &&& 31)) &&& 1) + ((m >>> ((2 : Int32) &&& 31)) &&& 1) + ((m >>> ((3 : Int32) &&& 31)) &&& 1)
