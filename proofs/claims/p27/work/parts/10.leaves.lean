/-! THE METHODS, BY WALKS: leaves -/
def f_b (P : Prop) [Decidable P] : Int32 := if P then 1 else 0
theorem f_b1 {P : Prop} [Decidable P] (h : P) : 1 = f_b P := (if_pos h).symm
theorem f_b0 {P : Prop} [Decidable P] (h : ¬ P) : 0 = f_b P := (if_neg h).symm
theorem i_le {a b : Int32} : a ≤ b ↔ a.toInt ≤ b.toInt := Int32.le_iff_toInt_le
theorem i_lt {a b : Int32} : a < b ↔ a.toInt < b.toInt := Int32.lt_iff_toInt_lt

theorem e_isFrom {xs : Nat → Int32} {L : Nat} (a b v : Int32) (C : Nat → Nat → Nat → Int32) (D : Nat → Nat → Int32) (E : Nat → Int64) : z_Mt xs L m_X4_isFrom [aI a, aI b, aI v] (C, D, E) (.inl (some (aI (f_b (a ≤ v ∧ v ≤ b))))) (C, D, E) 0 := by
  refine z_Ev_blk 3 (c' := ((if v < a then 14 else 5), [some (aI a), some (aI b), some (aI v)], [], (C, D, E))) rfl trivial ?_
  refine z_Ev_ite (fun h1 => ?_) (fun h1 => ?_)
  · skip
    refine z_Ev_blk 1 (c' := (15, [some (aI a), some (aI b), some (aI v)], [aI (0 : Int32)], (C, D, E))) rfl trivial ?_
    exact z_Ev_zretE rfl rfl (rfl) (by first | (refine f_b1 ?_; refine ⟨?_, ?_⟩ <;> (simp only [i_le, i_lt] at *; omega)) | (refine f_b0 ?_; rintro ⟨q1, q2⟩; simp only [i_le, i_lt] at *; omega)) (by rfl)
  · skip
    refine z_Ev_blk 3 (c' := ((if b < v then 14 else 10), [some (aI a), some (aI b), some (aI v)], [], (C, D, E))) rfl trivial ?_
    refine z_Ev_ite (fun h2 => ?_) (fun h2 => ?_)
    · skip
      refine z_Ev_blk 1 (c' := (15, [some (aI a), some (aI b), some (aI v)], [aI (0 : Int32)], (C, D, E))) rfl trivial ?_
      exact z_Ev_zretE rfl rfl (rfl) (by first | (refine f_b1 ?_; refine ⟨?_, ?_⟩ <;> (simp only [i_le, i_lt] at *; omega)) | (refine f_b0 ?_; rintro ⟨q1, q2⟩; simp only [i_le, i_lt] at *; omega)) (by rfl)
    · skip
      refine z_Ev_blk 2 (c' := (15, [some (aI a), some (aI b), some (aI v)], [aI (1 : Int32)], (C, D, E))) rfl trivial ?_
      exact z_Ev_zretE rfl rfl (rfl) (by first | (refine f_b1 ?_; refine ⟨?_, ?_⟩ <;> (simp only [i_le, i_lt] at *; omega)) | (refine f_b0 ?_; rintro ⟨q1, q2⟩; simp only [i_le, i_lt] at *; omega)) (by rfl)
theorem f_bP {P : Prop} [Decidable P] (h : P) : ¬ f_b P = 0 := by unfold f_b; rw [if_pos h]; decide
theorem f_bN {P : Prop} [Decidable P] (h : ¬ P) : f_b P = 0 := if_neg h
theorem f_bQ {P : Prop} [Decidable P] (h : ¬ f_b P = 0) : P := Decidable.byContradiction fun q => h (f_bN q)
theorem f_bZ {P : Prop} [Decidable P] (h : f_b P = 0) : ¬ P := fun q => f_bP q h
theorem z_Ev_eq {xs : Nat → Int32} {L m : Nat} {c c' : Cf} {o : z_Rs} {M' : Mem} {k : Nat} (e : c = c') (h : z_Ev xs L m c' o M' k) : z_Ev xs L m c o M' k := by subst e; exact h
theorem f_bB (P : Prop) [Decidable P] : z_isB (f_b P) = true := by
  unfold f_b
  split <;> rfl

theorem e_isSet {xs : Nat → Int32} {L : Nat} (v : Int32) (C : Nat → Nat → Nat → Int32) (D : Nat → Nat → Int32) (E : Nat → Int64) : z_Mt xs L m_X4_isSet [aI v] (C, D, E) (.inl (some (aI (f_b (0 ≤ v ∧ v ≤ 3))))) (C, D, E) 0 := by
  refine z_Ev_blk 3 (c' := (3, [some (aI v)], [aI v, aI (3 : Int32), aI (0 : Int32)], (C, D, E))) rfl trivial ?_
  refine z_Ev_call0 (m' := m_X4_isFrom) (as := [aI (0 : Int32), aI (3 : Int32), aI v]) (r := []) (e_isFrom (0 : Int32) (3 : Int32) v _ _ _) rfl rfl ?_
  exact z_Ev_zretE rfl rfl (f_bB _) (by first | rfl | simp [*]) (by rfl)
theorem e_isHour {xs : Nat → Int32} {L : Nat} (v : Int32) (C : Nat → Nat → Nat → Int32) (D : Nat → Nat → Int32) (E : Nat → Int64) : z_Mt xs L m_X4_isHour [aI v] (C, D, E) (.inl (some (aI (f_b (0 ≤ v ∧ v ≤ 47))))) (C, D, E) 0 := by
  refine z_Ev_blk 3 (c' := (4, [some (aI v)], [aI v, aI (47 : Int32), aI (0 : Int32)], (C, D, E))) rfl trivial ?_
  refine z_Ev_call0 (m' := m_X4_isFrom) (as := [aI (0 : Int32), aI (47 : Int32), aI v]) (r := []) (e_isFrom (0 : Int32) (47 : Int32) v _ _ _) rfl rfl ?_
  exact z_Ev_zretE rfl rfl (f_bB _) (by first | rfl | simp [*]) (by rfl)
theorem e_oneIf {xs : Nat → Int32} {L : Nat} (v : Int32) (C : Nat → Nat → Nat → Int32) (D : Nat → Nat → Int32) (E : Nat → Int64) : z_Mt xs L m_X4_oneIf [aI v] (C, D, E) (.inl (some (aI (if v = 0 then 0 else 1)))) (C, D, E) 0 := by
  refine z_Ev_blk 2 (c' := ((if v = 0 then 8 else 4), [some (aI v)], [], (C, D, E))) rfl trivial ?_
  refine z_Ev_ite (fun h1 => ?_) (fun h1 => ?_)
  · skip
    refine z_Ev_blk 1 (c' := (9, [some (aI v)], [aI (0 : Int32)], (C, D, E))) rfl trivial ?_
    exact z_Ev_iretE rfl rfl (by simp [*]) (by rfl)
  · skip
    refine z_Ev_blk 2 (c' := (9, [some (aI v)], [aI (1 : Int32)], (C, D, E))) rfl trivial ?_
    exact z_Ev_iretE rfl rfl (by simp [*]) (by rfl)

