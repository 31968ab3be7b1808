/-! THE LEAST MERIT OF A MASK, in the class and in the model -/
def hs (mask k : Int32) : Bool := decide ((mask >>> (k &&& 31)) &&& 1 = 1)
theorem hs_t {mask k : Int32} : hs mask k = true ↔ (mask >>> (k &&& 31)) &&& 1 = 1 := decide_eq_true_iff
theorem hs_n {mask k : Int32} (h : ¬ (mask >>> (k &&& 31)) &&& 1 = 1) : ¬ hs mask k = true := fun q => h (hs_t.mp q)
theorem hs_m {mask k : Int32} (h : ¬ hs mask k = true) : ¬ (mask >>> (k &&& 31)) &&& 1 = 1 := fun q => h (hs_t.mpr q)
def fnd (x : Int32) : Prop := x = -1 ∨ x = 0 ∨ x = 1 ∨ x = 2 ∨ x = 3
/-- one more set looked at -/
def chS (mer : Nat → Int32) (mask k found : Int32) : Int32 := if hs mask k = true ∧ (found = -1 ∨ mer k.toNatClampNeg < mer found.toNatClampNeg) then k else found
def chF (mer : Nat → Int32) (mask : Int32) : Int32 := chS mer mask 3 (chS mer mask 2 (chS mer mask 1 (chS mer mask 0 (-1))))
theorem chS_fnd {mer : Nat → Int32} {mask k found : Int32} (hk : fnd k) (h : fnd found) : fnd (chS mer mask k found) := by
  unfold chS
  split
  · exact hk
  · exact h
theorem f0 : fnd 0 := Or.inr (Or.inl rfl)
theorem f1 : fnd 1 := Or.inr (Or.inr (Or.inl rfl))
theorem f2 : fnd 2 := Or.inr (Or.inr (Or.inr (Or.inl rfl)))
theorem f3 : fnd 3 := Or.inr (Or.inr (Or.inr (Or.inr rfl)))
theorem fm : fnd (-1) := Or.inl rfl
theorem chF_fnd (mer : Nat → Int32) (mask : Int32) : fnd (chF mer mask) := chS_fnd f3 (chS_fnd f2 (chS_fnd f1 (chS_fnd f0 fm)))
theorem chS_m (mer : Nat → Int32) (mask k : Int32) : chS mer mask k (-1) = if hs mask k = true then k else -1 := by
  unfold chS
  simp
theorem chS_j (mer : Nat → Int32) (mask k j : Int32) (hj : j ≠ -1) : chS mer mask k j = if hs mask k = true ∧ mer k.toNatClampNeg < mer j.toNatClampNeg then k else j := by
  unfold chS
  simp [hj]

theorem ch_c_0_m {xs : Nat → Int32} {L : Nat} {o : z_Rs} {M' : Mem} {kk : Nat} (f : Nat) (mask : Int32) (C : Nat → Nat → Nat → Int32) (D : Nat → Nat → Int32) (E : Nat → Int64) (K : z_Ev xs L m_X0_firstByMerit (4, [some (aR f 1), some (aI mask), some (aI (if hs mask 0 = true then 0 else (-1))), some (aI (1 : Int32)), none], [], (C, D, E)) o M' kk) : z_Ev xs L m_X0_firstByMerit (4, [some (aR f 1), some (aI mask), some (aI (-1 : Int32)), some (aI (0 : Int32)), none], [], (C, D, E)) o M' kk := by
  refine z_Ev_blk 3 (c' := ((if (4 : Int32) ≤ (0 : Int32) then 58 else 9), [some (aR f 1), some (aI mask), some (aI (-1 : Int32)), some (aI (0 : Int32)), none], [], (C, D, E))) rfl trivial ?_
  refine z_Ev_else (by decide) ?_
  refine z_Ev_blk 7 (c' := ((if ((mask >>> ((0 : Int32) &&& 31)) &&& (1 : Int32)) = (1 : Int32) then 18 else 22), [some (aR f 1), some (aI mask), some (aI (-1 : Int32)), some (aI (0 : Int32)), none], [], (C, D, E))) rfl trivial ?_
  refine z_Ev_ite (fun h1 => ?_) (fun h1 => ?_)
  · replace h1 := hs_t.mpr h1
    refine z_Ev_blk 5 (c' := ((if (1 : Int32) = 0 then 52 else 30), [some (aR f 1), some (aI mask), some (aI (-1 : Int32)), some (aI (0 : Int32)), some (aI (1 : Int32))], [], (C, D, E))) rfl trivial ?_
    refine z_Ev_else (by decide) ?_
    refine z_Ev_blk 3 (c' := ((if (-1 : Int32) = (-1 : Int32) then 50 else 35), [some (aR f 1), some (aI mask), some (aI (-1 : Int32)), some (aI (0 : Int32)), some (aI (1 : Int32))], [], (C, D, E))) rfl trivial ?_
    refine z_Ev_if (by decide) ?_
    refine z_Ev_blk 4 (c' := (4, [some (aR f 1), some (aI mask), some (aI (0 : Int32)), some (aI (1 : Int32)), some (aI (1 : Int32))], [], (C, D, E))) rfl trivial ?_
    refine z_Ev_fgt [true, true, true, true, false] ?_
    exact z_Ev_eq (c := (4, [some (aR f 1), some (aI mask), some (aI (0 : Int32)), some (aI (1 : Int32)), none], [], (C, D, E))) (c' := (4, [some (aR f 1), some (aI mask), some (aI (if hs mask 0 = true then 0 else (-1))), some (aI (1 : Int32)), none], [], (C, D, E))) (by simp [h1]) K
  · replace h1 := hs_n h1
    refine z_Ev_blk 4 (c' := ((if (0 : Int32) = 0 then 52 else 30), [some (aR f 1), some (aI mask), some (aI (-1 : Int32)), some (aI (0 : Int32)), some (aI (0 : Int32))], [], (C, D, E))) rfl trivial ?_
    refine z_Ev_if (by decide) ?_
    refine z_Ev_blk 2 (c' := (4, [some (aR f 1), some (aI mask), some (aI (-1 : Int32)), some (aI (1 : Int32)), some (aI (0 : Int32))], [], (C, D, E))) rfl trivial ?_
    refine z_Ev_fgt [true, true, true, true, false] ?_
    exact z_Ev_eq (c := (4, [some (aR f 1), some (aI mask), some (aI (-1 : Int32)), some (aI (1 : Int32)), none], [], (C, D, E))) (c' := (4, [some (aR f 1), some (aI mask), some (aI (if hs mask 0 = true then 0 else (-1))), some (aI (1 : Int32)), none], [], (C, D, E))) (by simp [h1]) K
theorem ch_c_1_m {xs : Nat → Int32} {L : Nat} {o : z_Rs} {M' : Mem} {kk : Nat} (f : Nat) (mask : Int32) (C : Nat → Nat → Nat → Int32) (D : Nat → Nat → Int32) (E : Nat → Int64) (K : z_Ev xs L m_X0_firstByMerit (4, [some (aR f 1), some (aI mask), some (aI (if hs mask 1 = true then 1 else (-1))), some (aI (2 : Int32)), none], [], (C, D, E)) o M' kk) : z_Ev xs L m_X0_firstByMerit (4, [some (aR f 1), some (aI mask), some (aI (-1 : Int32)), some (aI (1 : Int32)), none], [], (C, D, E)) o M' kk := by
  refine z_Ev_blk 3 (c' := ((if (4 : Int32) ≤ (1 : Int32) then 58 else 9), [some (aR f 1), some (aI mask), some (aI (-1 : Int32)), some (aI (1 : Int32)), none], [], (C, D, E))) rfl trivial ?_
  refine z_Ev_else (by decide) ?_
  refine z_Ev_blk 7 (c' := ((if ((mask >>> ((1 : Int32) &&& 31)) &&& (1 : Int32)) = (1 : Int32) then 18 else 22), [some (aR f 1), some (aI mask), some (aI (-1 : Int32)), some (aI (1 : Int32)), none], [], (C, D, E))) rfl trivial ?_
  refine z_Ev_ite (fun h1 => ?_) (fun h1 => ?_)
  · replace h1 := hs_t.mpr h1
    refine z_Ev_blk 5 (c' := ((if (1 : Int32) = 0 then 52 else 30), [some (aR f 1), some (aI mask), some (aI (-1 : Int32)), some (aI (1 : Int32)), some (aI (1 : Int32))], [], (C, D, E))) rfl trivial ?_
    refine z_Ev_else (by decide) ?_
    refine z_Ev_blk 3 (c' := ((if (-1 : Int32) = (-1 : Int32) then 50 else 35), [some (aR f 1), some (aI mask), some (aI (-1 : Int32)), some (aI (1 : Int32)), some (aI (1 : Int32))], [], (C, D, E))) rfl trivial ?_
    refine z_Ev_if (by decide) ?_
    refine z_Ev_blk 4 (c' := (4, [some (aR f 1), some (aI mask), some (aI (1 : Int32)), some (aI (2 : Int32)), some (aI (1 : Int32))], [], (C, D, E))) rfl trivial ?_
    refine z_Ev_fgt [true, true, true, true, false] ?_
    exact z_Ev_eq (c := (4, [some (aR f 1), some (aI mask), some (aI (1 : Int32)), some (aI (2 : Int32)), none], [], (C, D, E))) (c' := (4, [some (aR f 1), some (aI mask), some (aI (if hs mask 1 = true then 1 else (-1))), some (aI (2 : Int32)), none], [], (C, D, E))) (by simp [h1]) K
  · replace h1 := hs_n h1
    refine z_Ev_blk 4 (c' := ((if (0 : Int32) = 0 then 52 else 30), [some (aR f 1), some (aI mask), some (aI (-1 : Int32)), some (aI (1 : Int32)), some (aI (0 : Int32))], [], (C, D, E))) rfl trivial ?_
    refine z_Ev_if (by decide) ?_
    refine z_Ev_blk 2 (c' := (4, [some (aR f 1), some (aI mask), some (aI (-1 : Int32)), some (aI (2 : Int32)), some (aI (0 : Int32))], [], (C, D, E))) rfl trivial ?_
    refine z_Ev_fgt [true, true, true, true, false] ?_
    exact z_Ev_eq (c := (4, [some (aR f 1), some (aI mask), some (aI (-1 : Int32)), some (aI (2 : Int32)), none], [], (C, D, E))) (c' := (4, [some (aR f 1), some (aI mask), some (aI (if hs mask 1 = true then 1 else (-1))), some (aI (2 : Int32)), none], [], (C, D, E))) (by simp [h1]) K
theorem ch_c_2_m {xs : Nat → Int32} {L : Nat} {o : z_Rs} {M' : Mem} {kk : Nat} (f : Nat) (mask : Int32) (C : Nat → Nat → Nat → Int32) (D : Nat → Nat → Int32) (E : Nat → Int64) (K : z_Ev xs L m_X0_firstByMerit (4, [some (aR f 1), some (aI mask), some (aI (if hs mask 2 = true then 2 else (-1))), some (aI (3 : Int32)), none], [], (C, D, E)) o M' kk) : z_Ev xs L m_X0_firstByMerit (4, [some (aR f 1), some (aI mask), some (aI (-1 : Int32)), some (aI (2 : Int32)), none], [], (C, D, E)) o M' kk := by
  refine z_Ev_blk 3 (c' := ((if (4 : Int32) ≤ (2 : Int32) then 58 else 9), [some (aR f 1), some (aI mask), some (aI (-1 : Int32)), some (aI (2 : Int32)), none], [], (C, D, E))) rfl trivial ?_
  refine z_Ev_else (by decide) ?_
  refine z_Ev_blk 7 (c' := ((if ((mask >>> ((2 : Int32) &&& 31)) &&& (1 : Int32)) = (1 : Int32) then 18 else 22), [some (aR f 1), some (aI mask), some (aI (-1 : Int32)), some (aI (2 : Int32)), none], [], (C, D, E))) rfl trivial ?_
  refine z_Ev_ite (fun h1 => ?_) (fun h1 => ?_)
  · replace h1 := hs_t.mpr h1
    refine z_Ev_blk 5 (c' := ((if (1 : Int32) = 0 then 52 else 30), [some (aR f 1), some (aI mask), some (aI (-1 : Int32)), some (aI (2 : Int32)), some (aI (1 : Int32))], [], (C, D, E))) rfl trivial ?_
    refine z_Ev_else (by decide) ?_
    refine z_Ev_blk 3 (c' := ((if (-1 : Int32) = (-1 : Int32) then 50 else 35), [some (aR f 1), some (aI mask), some (aI (-1 : Int32)), some (aI (2 : Int32)), some (aI (1 : Int32))], [], (C, D, E))) rfl trivial ?_
    refine z_Ev_if (by decide) ?_
    refine z_Ev_blk 4 (c' := (4, [some (aR f 1), some (aI mask), some (aI (2 : Int32)), some (aI (3 : Int32)), some (aI (1 : Int32))], [], (C, D, E))) rfl trivial ?_
    refine z_Ev_fgt [true, true, true, true, false] ?_
    exact z_Ev_eq (c := (4, [some (aR f 1), some (aI mask), some (aI (2 : Int32)), some (aI (3 : Int32)), none], [], (C, D, E))) (c' := (4, [some (aR f 1), some (aI mask), some (aI (if hs mask 2 = true then 2 else (-1))), some (aI (3 : Int32)), none], [], (C, D, E))) (by simp [h1]) K
  · replace h1 := hs_n h1
    refine z_Ev_blk 4 (c' := ((if (0 : Int32) = 0 then 52 else 30), [some (aR f 1), some (aI mask), some (aI (-1 : Int32)), some (aI (2 : Int32)), some (aI (0 : Int32))], [], (C, D, E))) rfl trivial ?_
    refine z_Ev_if (by decide) ?_
    refine z_Ev_blk 2 (c' := (4, [some (aR f 1), some (aI mask), some (aI (-1 : Int32)), some (aI (3 : Int32)), some (aI (0 : Int32))], [], (C, D, E))) rfl trivial ?_
    refine z_Ev_fgt [true, true, true, true, false] ?_
    exact z_Ev_eq (c := (4, [some (aR f 1), some (aI mask), some (aI (-1 : Int32)), some (aI (3 : Int32)), none], [], (C, D, E))) (c' := (4, [some (aR f 1), some (aI mask), some (aI (if hs mask 2 = true then 2 else (-1))), some (aI (3 : Int32)), none], [], (C, D, E))) (by simp [h1]) K
theorem ch_c_3_m {xs : Nat → Int32} {L : Nat} {o : z_Rs} {M' : Mem} {kk : Nat} (f : Nat) (mask : Int32) (C : Nat → Nat → Nat → Int32) (D : Nat → Nat → Int32) (E : Nat → Int64) (K : z_Ev xs L m_X0_firstByMerit (4, [some (aR f 1), some (aI mask), some (aI (if hs mask 3 = true then 3 else (-1))), some (aI (4 : Int32)), none], [], (C, D, E)) o M' kk) : z_Ev xs L m_X0_firstByMerit (4, [some (aR f 1), some (aI mask), some (aI (-1 : Int32)), some (aI (3 : Int32)), none], [], (C, D, E)) o M' kk := by
  refine z_Ev_blk 3 (c' := ((if (4 : Int32) ≤ (3 : Int32) then 58 else 9), [some (aR f 1), some (aI mask), some (aI (-1 : Int32)), some (aI (3 : Int32)), none], [], (C, D, E))) rfl trivial ?_
  refine z_Ev_else (by decide) ?_
  refine z_Ev_blk 7 (c' := ((if ((mask >>> ((3 : Int32) &&& 31)) &&& (1 : Int32)) = (1 : Int32) then 18 else 22), [some (aR f 1), some (aI mask), some (aI (-1 : Int32)), some (aI (3 : Int32)), none], [], (C, D, E))) rfl trivial ?_
  refine z_Ev_ite (fun h1 => ?_) (fun h1 => ?_)
  · replace h1 := hs_t.mpr h1
    refine z_Ev_blk 5 (c' := ((if (1 : Int32) = 0 then 52 else 30), [some (aR f 1), some (aI mask), some (aI (-1 : Int32)), some (aI (3 : Int32)), some (aI (1 : Int32))], [], (C, D, E))) rfl trivial ?_
    refine z_Ev_else (by decide) ?_
    refine z_Ev_blk 3 (c' := ((if (-1 : Int32) = (-1 : Int32) then 50 else 35), [some (aR f 1), some (aI mask), some (aI (-1 : Int32)), some (aI (3 : Int32)), some (aI (1 : Int32))], [], (C, D, E))) rfl trivial ?_
    refine z_Ev_if (by decide) ?_
    refine z_Ev_blk 4 (c' := (4, [some (aR f 1), some (aI mask), some (aI (3 : Int32)), some (aI (4 : Int32)), some (aI (1 : Int32))], [], (C, D, E))) rfl trivial ?_
    refine z_Ev_fgt [true, true, true, true, false] ?_
    exact z_Ev_eq (c := (4, [some (aR f 1), some (aI mask), some (aI (3 : Int32)), some (aI (4 : Int32)), none], [], (C, D, E))) (c' := (4, [some (aR f 1), some (aI mask), some (aI (if hs mask 3 = true then 3 else (-1))), some (aI (4 : Int32)), none], [], (C, D, E))) (by simp [h1]) K
  · replace h1 := hs_n h1
    refine z_Ev_blk 4 (c' := ((if (0 : Int32) = 0 then 52 else 30), [some (aR f 1), some (aI mask), some (aI (-1 : Int32)), some (aI (3 : Int32)), some (aI (0 : Int32))], [], (C, D, E))) rfl trivial ?_
    refine z_Ev_if (by decide) ?_
    refine z_Ev_blk 2 (c' := (4, [some (aR f 1), some (aI mask), some (aI (-1 : Int32)), some (aI (4 : Int32)), some (aI (0 : Int32))], [], (C, D, E))) rfl trivial ?_
    refine z_Ev_fgt [true, true, true, true, false] ?_
    exact z_Ev_eq (c := (4, [some (aR f 1), some (aI mask), some (aI (-1 : Int32)), some (aI (4 : Int32)), none], [], (C, D, E))) (c' := (4, [some (aR f 1), some (aI mask), some (aI (if hs mask 3 = true then 3 else (-1))), some (aI (4 : Int32)), none], [], (C, D, E))) (by simp [h1]) K
theorem ch_c_0_0 {xs : Nat → Int32} {L : Nat} {o : z_Rs} {M' : Mem} {kk : Nat} (f : Nat) (mask : Int32) (C : Nat → Nat → Nat → Int32) (D : Nat → Nat → Int32) (E : Nat → Int64) (K : z_Ev xs L m_X0_firstByMerit (4, [some (aR f 1), some (aI mask), some (aI (if hs mask 0 = true ∧ C f 4 0 < C f 4 0 then 0 else 0)), some (aI (1 : Int32)), none], [], (C, D, E)) o M' kk) : z_Ev xs L m_X0_firstByMerit (4, [some (aR f 1), some (aI mask), some (aI (0 : Int32)), some (aI (0 : Int32)), none], [], (C, D, E)) o M' kk := by
  refine z_Ev_blk 3 (c' := ((if (4 : Int32) ≤ (0 : Int32) then 58 else 9), [some (aR f 1), some (aI mask), some (aI (0 : Int32)), some (aI (0 : Int32)), none], [], (C, D, E))) rfl trivial ?_
  refine z_Ev_else (by decide) ?_
  refine z_Ev_blk 7 (c' := ((if ((mask >>> ((0 : Int32) &&& 31)) &&& (1 : Int32)) = (1 : Int32) then 18 else 22), [some (aR f 1), some (aI mask), some (aI (0 : Int32)), some (aI (0 : Int32)), none], [], (C, D, E))) rfl trivial ?_
  refine z_Ev_ite (fun h1 => ?_) (fun h1 => ?_)
  · replace h1 := hs_t.mpr h1
    refine z_Ev_blk 5 (c' := ((if (1 : Int32) = 0 then 52 else 30), [some (aR f 1), some (aI mask), some (aI (0 : Int32)), some (aI (0 : Int32)), some (aI (1 : Int32))], [], (C, D, E))) rfl trivial ?_
    refine z_Ev_else (by decide) ?_
    refine z_Ev_blk 3 (c' := ((if (0 : Int32) = (-1 : Int32) then 50 else 35), [some (aR f 1), some (aI mask), some (aI (0 : Int32)), some (aI (0 : Int32)), some (aI (1 : Int32))], [], (C, D, E))) rfl trivial ?_
    refine z_Ev_else (by decide) ?_
    refine z_Ev_blk 9 (c' := ((if (C f 4 0) ≤ (C f 4 0) then 52 else 50), [some (aR f 1), some (aI mask), some (aI (0 : Int32)), some (aI (0 : Int32)), some (aI (1 : Int32))], [], (C, D, E))) rfl ⟨rfl, rfl, trivial⟩ ?_
    refine z_Ev_ite (fun h2 => ?_) (fun h2 => ?_)
    · skip
      refine z_Ev_blk 2 (c' := (4, [some (aR f 1), some (aI mask), some (aI (0 : Int32)), some (aI (1 : Int32)), some (aI (1 : Int32))], [], (C, D, E))) rfl trivial ?_
      refine z_Ev_fgt [true, true, true, true, false] ?_
      exact z_Ev_eq (c := (4, [some (aR f 1), some (aI mask), some (aI (0 : Int32)), some (aI (1 : Int32)), none], [], (C, D, E))) (c' := (4, [some (aR f 1), some (aI mask), some (aI (if hs mask 0 = true ∧ C f 4 0 < C f 4 0 then 0 else 0)), some (aI (1 : Int32)), none], [], (C, D, E))) (by simp [h1, h2]) K
    · skip
      refine z_Ev_blk 4 (c' := (4, [some (aR f 1), some (aI mask), some (aI (0 : Int32)), some (aI (1 : Int32)), some (aI (1 : Int32))], [], (C, D, E))) rfl trivial ?_
      refine z_Ev_fgt [true, true, true, true, false] ?_
      exact z_Ev_eq (c := (4, [some (aR f 1), some (aI mask), some (aI (0 : Int32)), some (aI (1 : Int32)), none], [], (C, D, E))) (c' := (4, [some (aR f 1), some (aI mask), some (aI (if hs mask 0 = true ∧ C f 4 0 < C f 4 0 then 0 else 0)), some (aI (1 : Int32)), none], [], (C, D, E))) (by simp [h1, h2]) K
  · replace h1 := hs_n h1
    refine z_Ev_blk 4 (c' := ((if (0 : Int32) = 0 then 52 else 30), [some (aR f 1), some (aI mask), some (aI (0 : Int32)), some (aI (0 : Int32)), some (aI (0 : Int32))], [], (C, D, E))) rfl trivial ?_
    refine z_Ev_if (by decide) ?_
    refine z_Ev_blk 2 (c' := (4, [some (aR f 1), some (aI mask), some (aI (0 : Int32)), some (aI (1 : Int32)), some (aI (0 : Int32))], [], (C, D, E))) rfl trivial ?_
    refine z_Ev_fgt [true, true, true, true, false] ?_
    exact z_Ev_eq (c := (4, [some (aR f 1), some (aI mask), some (aI (0 : Int32)), some (aI (1 : Int32)), none], [], (C, D, E))) (c' := (4, [some (aR f 1), some (aI mask), some (aI (if hs mask 0 = true ∧ C f 4 0 < C f 4 0 then 0 else 0)), some (aI (1 : Int32)), none], [], (C, D, E))) (by simp [h1]) K
theorem ch_c_1_0 {xs : Nat → Int32} {L : Nat} {o : z_Rs} {M' : Mem} {kk : Nat} (f : Nat) (mask : Int32) (C : Nat → Nat → Nat → Int32) (D : Nat → Nat → Int32) (E : Nat → Int64) (K : z_Ev xs L m_X0_firstByMerit (4, [some (aR f 1), some (aI mask), some (aI (if hs mask 1 = true ∧ C f 4 1 < C f 4 0 then 1 else 0)), some (aI (2 : Int32)), none], [], (C, D, E)) o M' kk) : z_Ev xs L m_X0_firstByMerit (4, [some (aR f 1), some (aI mask), some (aI (0 : Int32)), some (aI (1 : Int32)), none], [], (C, D, E)) o M' kk := by
  refine z_Ev_blk 3 (c' := ((if (4 : Int32) ≤ (1 : Int32) then 58 else 9), [some (aR f 1), some (aI mask), some (aI (0 : Int32)), some (aI (1 : Int32)), none], [], (C, D, E))) rfl trivial ?_
  refine z_Ev_else (by decide) ?_
  refine z_Ev_blk 7 (c' := ((if ((mask >>> ((1 : Int32) &&& 31)) &&& (1 : Int32)) = (1 : Int32) then 18 else 22), [some (aR f 1), some (aI mask), some (aI (0 : Int32)), some (aI (1 : Int32)), none], [], (C, D, E))) rfl trivial ?_
  refine z_Ev_ite (fun h1 => ?_) (fun h1 => ?_)
  · replace h1 := hs_t.mpr h1
    refine z_Ev_blk 5 (c' := ((if (1 : Int32) = 0 then 52 else 30), [some (aR f 1), some (aI mask), some (aI (0 : Int32)), some (aI (1 : Int32)), some (aI (1 : Int32))], [], (C, D, E))) rfl trivial ?_
    refine z_Ev_else (by decide) ?_
    refine z_Ev_blk 3 (c' := ((if (0 : Int32) = (-1 : Int32) then 50 else 35), [some (aR f 1), some (aI mask), some (aI (0 : Int32)), some (aI (1 : Int32)), some (aI (1 : Int32))], [], (C, D, E))) rfl trivial ?_
    refine z_Ev_else (by decide) ?_
    refine z_Ev_blk 9 (c' := ((if (C f 4 0) ≤ (C f 4 1) then 52 else 50), [some (aR f 1), some (aI mask), some (aI (0 : Int32)), some (aI (1 : Int32)), some (aI (1 : Int32))], [], (C, D, E))) rfl ⟨rfl, rfl, trivial⟩ ?_
    refine z_Ev_ite (fun h2 => ?_) (fun h2 => ?_)
    · skip
      refine z_Ev_blk 2 (c' := (4, [some (aR f 1), some (aI mask), some (aI (0 : Int32)), some (aI (2 : Int32)), some (aI (1 : Int32))], [], (C, D, E))) rfl trivial ?_
      refine z_Ev_fgt [true, true, true, true, false] ?_
      exact z_Ev_eq (c := (4, [some (aR f 1), some (aI mask), some (aI (0 : Int32)), some (aI (2 : Int32)), none], [], (C, D, E))) (c' := (4, [some (aR f 1), some (aI mask), some (aI (if hs mask 1 = true ∧ C f 4 1 < C f 4 0 then 1 else 0)), some (aI (2 : Int32)), none], [], (C, D, E))) (by simp [h1, h2]) K
    · skip
      refine z_Ev_blk 4 (c' := (4, [some (aR f 1), some (aI mask), some (aI (1 : Int32)), some (aI (2 : Int32)), some (aI (1 : Int32))], [], (C, D, E))) rfl trivial ?_
      refine z_Ev_fgt [true, true, true, true, false] ?_
      exact z_Ev_eq (c := (4, [some (aR f 1), some (aI mask), some (aI (1 : Int32)), some (aI (2 : Int32)), none], [], (C, D, E))) (c' := (4, [some (aR f 1), some (aI mask), some (aI (if hs mask 1 = true ∧ C f 4 1 < C f 4 0 then 1 else 0)), some (aI (2 : Int32)), none], [], (C, D, E))) (by simp [h1, h2]) K
  · replace h1 := hs_n h1
    refine z_Ev_blk 4 (c' := ((if (0 : Int32) = 0 then 52 else 30), [some (aR f 1), some (aI mask), some (aI (0 : Int32)), some (aI (1 : Int32)), some (aI (0 : Int32))], [], (C, D, E))) rfl trivial ?_
    refine z_Ev_if (by decide) ?_
    refine z_Ev_blk 2 (c' := (4, [some (aR f 1), some (aI mask), some (aI (0 : Int32)), some (aI (2 : Int32)), some (aI (0 : Int32))], [], (C, D, E))) rfl trivial ?_
    refine z_Ev_fgt [true, true, true, true, false] ?_
    exact z_Ev_eq (c := (4, [some (aR f 1), some (aI mask), some (aI (0 : Int32)), some (aI (2 : Int32)), none], [], (C, D, E))) (c' := (4, [some (aR f 1), some (aI mask), some (aI (if hs mask 1 = true ∧ C f 4 1 < C f 4 0 then 1 else 0)), some (aI (2 : Int32)), none], [], (C, D, E))) (by simp [h1]) K
theorem ch_c_2_0 {xs : Nat → Int32} {L : Nat} {o : z_Rs} {M' : Mem} {kk : Nat} (f : Nat) (mask : Int32) (C : Nat → Nat → Nat → Int32) (D : Nat → Nat → Int32) (E : Nat → Int64) (K : z_Ev xs L m_X0_firstByMerit (4, [some (aR f 1), some (aI mask), some (aI (if hs mask 2 = true ∧ C f 4 2 < C f 4 0 then 2 else 0)), some (aI (3 : Int32)), none], [], (C, D, E)) o M' kk) : z_Ev xs L m_X0_firstByMerit (4, [some (aR f 1), some (aI mask), some (aI (0 : Int32)), some (aI (2 : Int32)), none], [], (C, D, E)) o M' kk := by
  refine z_Ev_blk 3 (c' := ((if (4 : Int32) ≤ (2 : Int32) then 58 else 9), [some (aR f 1), some (aI mask), some (aI (0 : Int32)), some (aI (2 : Int32)), none], [], (C, D, E))) rfl trivial ?_
  refine z_Ev_else (by decide) ?_
  refine z_Ev_blk 7 (c' := ((if ((mask >>> ((2 : Int32) &&& 31)) &&& (1 : Int32)) = (1 : Int32) then 18 else 22), [some (aR f 1), some (aI mask), some (aI (0 : Int32)), some (aI (2 : Int32)), none], [], (C, D, E))) rfl trivial ?_
  refine z_Ev_ite (fun h1 => ?_) (fun h1 => ?_)
  · replace h1 := hs_t.mpr h1
    refine z_Ev_blk 5 (c' := ((if (1 : Int32) = 0 then 52 else 30), [some (aR f 1), some (aI mask), some (aI (0 : Int32)), some (aI (2 : Int32)), some (aI (1 : Int32))], [], (C, D, E))) rfl trivial ?_
    refine z_Ev_else (by decide) ?_
    refine z_Ev_blk 3 (c' := ((if (0 : Int32) = (-1 : Int32) then 50 else 35), [some (aR f 1), some (aI mask), some (aI (0 : Int32)), some (aI (2 : Int32)), some (aI (1 : Int32))], [], (C, D, E))) rfl trivial ?_
    refine z_Ev_else (by decide) ?_
    refine z_Ev_blk 9 (c' := ((if (C f 4 0) ≤ (C f 4 2) then 52 else 50), [some (aR f 1), some (aI mask), some (aI (0 : Int32)), some (aI (2 : Int32)), some (aI (1 : Int32))], [], (C, D, E))) rfl ⟨rfl, rfl, trivial⟩ ?_
    refine z_Ev_ite (fun h2 => ?_) (fun h2 => ?_)
    · skip
      refine z_Ev_blk 2 (c' := (4, [some (aR f 1), some (aI mask), some (aI (0 : Int32)), some (aI (3 : Int32)), some (aI (1 : Int32))], [], (C, D, E))) rfl trivial ?_
      refine z_Ev_fgt [true, true, true, true, false] ?_
      exact z_Ev_eq (c := (4, [some (aR f 1), some (aI mask), some (aI (0 : Int32)), some (aI (3 : Int32)), none], [], (C, D, E))) (c' := (4, [some (aR f 1), some (aI mask), some (aI (if hs mask 2 = true ∧ C f 4 2 < C f 4 0 then 2 else 0)), some (aI (3 : Int32)), none], [], (C, D, E))) (by simp [h1, h2]) K
    · skip
      refine z_Ev_blk 4 (c' := (4, [some (aR f 1), some (aI mask), some (aI (2 : Int32)), some (aI (3 : Int32)), some (aI (1 : Int32))], [], (C, D, E))) rfl trivial ?_
      refine z_Ev_fgt [true, true, true, true, false] ?_
      exact z_Ev_eq (c := (4, [some (aR f 1), some (aI mask), some (aI (2 : Int32)), some (aI (3 : Int32)), none], [], (C, D, E))) (c' := (4, [some (aR f 1), some (aI mask), some (aI (if hs mask 2 = true ∧ C f 4 2 < C f 4 0 then 2 else 0)), some (aI (3 : Int32)), none], [], (C, D, E))) (by simp [h1, h2]) K
  · replace h1 := hs_n h1
    refine z_Ev_blk 4 (c' := ((if (0 : Int32) = 0 then 52 else 30), [some (aR f 1), some (aI mask), some (aI (0 : Int32)), some (aI (2 : Int32)), some (aI (0 : Int32))], [], (C, D, E))) rfl trivial ?_
    refine z_Ev_if (by decide) ?_
    refine z_Ev_blk 2 (c' := (4, [some (aR f 1), some (aI mask), some (aI (0 : Int32)), some (aI (3 : Int32)), some (aI (0 : Int32))], [], (C, D, E))) rfl trivial ?_
    refine z_Ev_fgt [true, true, true, true, false] ?_
    exact z_Ev_eq (c := (4, [some (aR f 1), some (aI mask), some (aI (0 : Int32)), some (aI (3 : Int32)), none], [], (C, D, E))) (c' := (4, [some (aR f 1), some (aI mask), some (aI (if hs mask 2 = true ∧ C f 4 2 < C f 4 0 then 2 else 0)), some (aI (3 : Int32)), none], [], (C, D, E))) (by simp [h1]) K
theorem ch_c_3_0 {xs : Nat → Int32} {L : Nat} {o : z_Rs} {M' : Mem} {kk : Nat} (f : Nat) (mask : Int32) (C : Nat → Nat → Nat → Int32) (D : Nat → Nat → Int32) (E : Nat → Int64) (K : z_Ev xs L m_X0_firstByMerit (4, [some (aR f 1), some (aI mask), some (aI (if hs mask 3 = true ∧ C f 4 3 < C f 4 0 then 3 else 0)), some (aI (4 : Int32)), none], [], (C, D, E)) o M' kk) : z_Ev xs L m_X0_firstByMerit (4, [some (aR f 1), some (aI mask), some (aI (0 : Int32)), some (aI (3 : Int32)), none], [], (C, D, E)) o M' kk := by
  refine z_Ev_blk 3 (c' := ((if (4 : Int32) ≤ (3 : Int32) then 58 else 9), [some (aR f 1), some (aI mask), some (aI (0 : Int32)), some (aI (3 : Int32)), none], [], (C, D, E))) rfl trivial ?_
  refine z_Ev_else (by decide) ?_
  refine z_Ev_blk 7 (c' := ((if ((mask >>> ((3 : Int32) &&& 31)) &&& (1 : Int32)) = (1 : Int32) then 18 else 22), [some (aR f 1), some (aI mask), some (aI (0 : Int32)), some (aI (3 : Int32)), none], [], (C, D, E))) rfl trivial ?_
  refine z_Ev_ite (fun h1 => ?_) (fun h1 => ?_)
  · replace h1 := hs_t.mpr h1
    refine z_Ev_blk 5 (c' := ((if (1 : Int32) = 0 then 52 else 30), [some (aR f 1), some (aI mask), some (aI (0 : Int32)), some (aI (3 : Int32)), some (aI (1 : Int32))], [], (C, D, E))) rfl trivial ?_
    refine z_Ev_else (by decide) ?_
    refine z_Ev_blk 3 (c' := ((if (0 : Int32) = (-1 : Int32) then 50 else 35), [some (aR f 1), some (aI mask), some (aI (0 : Int32)), some (aI (3 : Int32)), some (aI (1 : Int32))], [], (C, D, E))) rfl trivial ?_
    refine z_Ev_else (by decide) ?_
    refine z_Ev_blk 9 (c' := ((if (C f 4 0) ≤ (C f 4 3) then 52 else 50), [some (aR f 1), some (aI mask), some (aI (0 : Int32)), some (aI (3 : Int32)), some (aI (1 : Int32))], [], (C, D, E))) rfl ⟨rfl, rfl, trivial⟩ ?_
    refine z_Ev_ite (fun h2 => ?_) (fun h2 => ?_)
    · skip
      refine z_Ev_blk 2 (c' := (4, [some (aR f 1), some (aI mask), some (aI (0 : Int32)), some (aI (4 : Int32)), some (aI (1 : Int32))], [], (C, D, E))) rfl trivial ?_
      refine z_Ev_fgt [true, true, true, true, false] ?_
      exact z_Ev_eq (c := (4, [some (aR f 1), some (aI mask), some (aI (0 : Int32)), some (aI (4 : Int32)), none], [], (C, D, E))) (c' := (4, [some (aR f 1), some (aI mask), some (aI (if hs mask 3 = true ∧ C f 4 3 < C f 4 0 then 3 else 0)), some (aI (4 : Int32)), none], [], (C, D, E))) (by simp [h1, h2]) K
    · skip
      refine z_Ev_blk 4 (c' := (4, [some (aR f 1), some (aI mask), some (aI (3 : Int32)), some (aI (4 : Int32)), some (aI (1 : Int32))], [], (C, D, E))) rfl trivial ?_
      refine z_Ev_fgt [true, true, true, true, false] ?_
      exact z_Ev_eq (c := (4, [some (aR f 1), some (aI mask), some (aI (3 : Int32)), some (aI (4 : Int32)), none], [], (C, D, E))) (c' := (4, [some (aR f 1), some (aI mask), some (aI (if hs mask 3 = true ∧ C f 4 3 < C f 4 0 then 3 else 0)), some (aI (4 : Int32)), none], [], (C, D, E))) (by simp [h1, h2]) K
  · replace h1 := hs_n h1
    refine z_Ev_blk 4 (c' := ((if (0 : Int32) = 0 then 52 else 30), [some (aR f 1), some (aI mask), some (aI (0 : Int32)), some (aI (3 : Int32)), some (aI (0 : Int32))], [], (C, D, E))) rfl trivial ?_
    refine z_Ev_if (by decide) ?_
    refine z_Ev_blk 2 (c' := (4, [some (aR f 1), some (aI mask), some (aI (0 : Int32)), some (aI (4 : Int32)), some (aI (0 : Int32))], [], (C, D, E))) rfl trivial ?_
    refine z_Ev_fgt [true, true, true, true, false] ?_
    exact z_Ev_eq (c := (4, [some (aR f 1), some (aI mask), some (aI (0 : Int32)), some (aI (4 : Int32)), none], [], (C, D, E))) (c' := (4, [some (aR f 1), some (aI mask), some (aI (if hs mask 3 = true ∧ C f 4 3 < C f 4 0 then 3 else 0)), some (aI (4 : Int32)), none], [], (C, D, E))) (by simp [h1]) K
theorem ch_c_0_1 {xs : Nat → Int32} {L : Nat} {o : z_Rs} {M' : Mem} {kk : Nat} (f : Nat) (mask : Int32) (C : Nat → Nat → Nat → Int32) (D : Nat → Nat → Int32) (E : Nat → Int64) (K : z_Ev xs L m_X0_firstByMerit (4, [some (aR f 1), some (aI mask), some (aI (if hs mask 0 = true ∧ C f 4 0 < C f 4 1 then 0 else 1)), some (aI (1 : Int32)), none], [], (C, D, E)) o M' kk) : z_Ev xs L m_X0_firstByMerit (4, [some (aR f 1), some (aI mask), some (aI (1 : Int32)), some (aI (0 : Int32)), none], [], (C, D, E)) o M' kk := by
  refine z_Ev_blk 3 (c' := ((if (4 : Int32) ≤ (0 : Int32) then 58 else 9), [some (aR f 1), some (aI mask), some (aI (1 : Int32)), some (aI (0 : Int32)), none], [], (C, D, E))) rfl trivial ?_
  refine z_Ev_else (by decide) ?_
  refine z_Ev_blk 7 (c' := ((if ((mask >>> ((0 : Int32) &&& 31)) &&& (1 : Int32)) = (1 : Int32) then 18 else 22), [some (aR f 1), some (aI mask), some (aI (1 : Int32)), some (aI (0 : Int32)), none], [], (C, D, E))) rfl trivial ?_
  refine z_Ev_ite (fun h1 => ?_) (fun h1 => ?_)
  · replace h1 := hs_t.mpr h1
    refine z_Ev_blk 5 (c' := ((if (1 : Int32) = 0 then 52 else 30), [some (aR f 1), some (aI mask), some (aI (1 : Int32)), some (aI (0 : Int32)), some (aI (1 : Int32))], [], (C, D, E))) rfl trivial ?_
    refine z_Ev_else (by decide) ?_
    refine z_Ev_blk 3 (c' := ((if (1 : Int32) = (-1 : Int32) then 50 else 35), [some (aR f 1), some (aI mask), some (aI (1 : Int32)), some (aI (0 : Int32)), some (aI (1 : Int32))], [], (C, D, E))) rfl trivial ?_
    refine z_Ev_else (by decide) ?_
    refine z_Ev_blk 9 (c' := ((if (C f 4 1) ≤ (C f 4 0) then 52 else 50), [some (aR f 1), some (aI mask), some (aI (1 : Int32)), some (aI (0 : Int32)), some (aI (1 : Int32))], [], (C, D, E))) rfl ⟨rfl, rfl, trivial⟩ ?_
    refine z_Ev_ite (fun h2 => ?_) (fun h2 => ?_)
    · skip
      refine z_Ev_blk 2 (c' := (4, [some (aR f 1), some (aI mask), some (aI (1 : Int32)), some (aI (1 : Int32)), some (aI (1 : Int32))], [], (C, D, E))) rfl trivial ?_
      refine z_Ev_fgt [true, true, true, true, false] ?_
      exact z_Ev_eq (c := (4, [some (aR f 1), some (aI mask), some (aI (1 : Int32)), some (aI (1 : Int32)), none], [], (C, D, E))) (c' := (4, [some (aR f 1), some (aI mask), some (aI (if hs mask 0 = true ∧ C f 4 0 < C f 4 1 then 0 else 1)), some (aI (1 : Int32)), none], [], (C, D, E))) (by simp [h1, h2]) K
    · skip
      refine z_Ev_blk 4 (c' := (4, [some (aR f 1), some (aI mask), some (aI (0 : Int32)), some (aI (1 : Int32)), some (aI (1 : Int32))], [], (C, D, E))) rfl trivial ?_
      refine z_Ev_fgt [true, true, true, true, false] ?_
      exact z_Ev_eq (c := (4, [some (aR f 1), some (aI mask), some (aI (0 : Int32)), some (aI (1 : Int32)), none], [], (C, D, E))) (c' := (4, [some (aR f 1), some (aI mask), some (aI (if hs mask 0 = true ∧ C f 4 0 < C f 4 1 then 0 else 1)), some (aI (1 : Int32)), none], [], (C, D, E))) (by simp [h1, h2]) K
  · replace h1 := hs_n h1
    refine z_Ev_blk 4 (c' := ((if (0 : Int32) = 0 then 52 else 30), [some (aR f 1), some (aI mask), some (aI (1 : Int32)), some (aI (0 : Int32)), some (aI (0 : Int32))], [], (C, D, E))) rfl trivial ?_
    refine z_Ev_if (by decide) ?_
    refine z_Ev_blk 2 (c' := (4, [some (aR f 1), some (aI mask), some (aI (1 : Int32)), some (aI (1 : Int32)), some (aI (0 : Int32))], [], (C, D, E))) rfl trivial ?_
    refine z_Ev_fgt [true, true, true, true, false] ?_
    exact z_Ev_eq (c := (4, [some (aR f 1), some (aI mask), some (aI (1 : Int32)), some (aI (1 : Int32)), none], [], (C, D, E))) (c' := (4, [some (aR f 1), some (aI mask), some (aI (if hs mask 0 = true ∧ C f 4 0 < C f 4 1 then 0 else 1)), some (aI (1 : Int32)), none], [], (C, D, E))) (by simp [h1]) K
theorem ch_c_1_1 {xs : Nat → Int32} {L : Nat} {o : z_Rs} {M' : Mem} {kk : Nat} (f : Nat) (mask : Int32) (C : Nat → Nat → Nat → Int32) (D : Nat → Nat → Int32) (E : Nat → Int64) (K : z_Ev xs L m_X0_firstByMerit (4, [some (aR f 1), some (aI mask), some (aI (if hs mask 1 = true ∧ C f 4 1 < C f 4 1 then 1 else 1)), some (aI (2 : Int32)), none], [], (C, D, E)) o M' kk) : z_Ev xs L m_X0_firstByMerit (4, [some (aR f 1), some (aI mask), some (aI (1 : Int32)), some (aI (1 : Int32)), none], [], (C, D, E)) o M' kk := by
  refine z_Ev_blk 3 (c' := ((if (4 : Int32) ≤ (1 : Int32) then 58 else 9), [some (aR f 1), some (aI mask), some (aI (1 : Int32)), some (aI (1 : Int32)), none], [], (C, D, E))) rfl trivial ?_
  refine z_Ev_else (by decide) ?_
  refine z_Ev_blk 7 (c' := ((if ((mask >>> ((1 : Int32) &&& 31)) &&& (1 : Int32)) = (1 : Int32) then 18 else 22), [some (aR f 1), some (aI mask), some (aI (1 : Int32)), some (aI (1 : Int32)), none], [], (C, D, E))) rfl trivial ?_
  refine z_Ev_ite (fun h1 => ?_) (fun h1 => ?_)
  · replace h1 := hs_t.mpr h1
    refine z_Ev_blk 5 (c' := ((if (1 : Int32) = 0 then 52 else 30), [some (aR f 1), some (aI mask), some (aI (1 : Int32)), some (aI (1 : Int32)), some (aI (1 : Int32))], [], (C, D, E))) rfl trivial ?_
    refine z_Ev_else (by decide) ?_
    refine z_Ev_blk 3 (c' := ((if (1 : Int32) = (-1 : Int32) then 50 else 35), [some (aR f 1), some (aI mask), some (aI (1 : Int32)), some (aI (1 : Int32)), some (aI (1 : Int32))], [], (C, D, E))) rfl trivial ?_
    refine z_Ev_else (by decide) ?_
    refine z_Ev_blk 9 (c' := ((if (C f 4 1) ≤ (C f 4 1) then 52 else 50), [some (aR f 1), some (aI mask), some (aI (1 : Int32)), some (aI (1 : Int32)), some (aI (1 : Int32))], [], (C, D, E))) rfl ⟨rfl, rfl, trivial⟩ ?_
    refine z_Ev_ite (fun h2 => ?_) (fun h2 => ?_)
    · skip
      refine z_Ev_blk 2 (c' := (4, [some (aR f 1), some (aI mask), some (aI (1 : Int32)), some (aI (2 : Int32)), some (aI (1 : Int32))], [], (C, D, E))) rfl trivial ?_
      refine z_Ev_fgt [true, true, true, true, false] ?_
      exact z_Ev_eq (c := (4, [some (aR f 1), some (aI mask), some (aI (1 : Int32)), some (aI (2 : Int32)), none], [], (C, D, E))) (c' := (4, [some (aR f 1), some (aI mask), some (aI (if hs mask 1 = true ∧ C f 4 1 < C f 4 1 then 1 else 1)), some (aI (2 : Int32)), none], [], (C, D, E))) (by simp [h1, h2]) K
    · skip
      refine z_Ev_blk 4 (c' := (4, [some (aR f 1), some (aI mask), some (aI (1 : Int32)), some (aI (2 : Int32)), some (aI (1 : Int32))], [], (C, D, E))) rfl trivial ?_
      refine z_Ev_fgt [true, true, true, true, false] ?_
      exact z_Ev_eq (c := (4, [some (aR f 1), some (aI mask), some (aI (1 : Int32)), some (aI (2 : Int32)), none], [], (C, D, E))) (c' := (4, [some (aR f 1), some (aI mask), some (aI (if hs mask 1 = true ∧ C f 4 1 < C f 4 1 then 1 else 1)), some (aI (2 : Int32)), none], [], (C, D, E))) (by simp [h1, h2]) K
  · replace h1 := hs_n h1
    refine z_Ev_blk 4 (c' := ((if (0 : Int32) = 0 then 52 else 30), [some (aR f 1), some (aI mask), some (aI (1 : Int32)), some (aI (1 : Int32)), some (aI (0 : Int32))], [], (C, D, E))) rfl trivial ?_
    refine z_Ev_if (by decide) ?_
    refine z_Ev_blk 2 (c' := (4, [some (aR f 1), some (aI mask), some (aI (1 : Int32)), some (aI (2 : Int32)), some (aI (0 : Int32))], [], (C, D, E))) rfl trivial ?_
    refine z_Ev_fgt [true, true, true, true, false] ?_
    exact z_Ev_eq (c := (4, [some (aR f 1), some (aI mask), some (aI (1 : Int32)), some (aI (2 : Int32)), none], [], (C, D, E))) (c' := (4, [some (aR f 1), some (aI mask), some (aI (if hs mask 1 = true ∧ C f 4 1 < C f 4 1 then 1 else 1)), some (aI (2 : Int32)), none], [], (C, D, E))) (by simp [h1]) K
theorem ch_c_2_1 {xs : Nat → Int32} {L : Nat} {o : z_Rs} {M' : Mem} {kk : Nat} (f : Nat) (mask : Int32) (C : Nat → Nat → Nat → Int32) (D : Nat → Nat → Int32) (E : Nat → Int64) (K : z_Ev xs L m_X0_firstByMerit (4, [some (aR f 1), some (aI mask), some (aI (if hs mask 2 = true ∧ C f 4 2 < C f 4 1 then 2 else 1)), some (aI (3 : Int32)), none], [], (C, D, E)) o M' kk) : z_Ev xs L m_X0_firstByMerit (4, [some (aR f 1), some (aI mask), some (aI (1 : Int32)), some (aI (2 : Int32)), none], [], (C, D, E)) o M' kk := by
  refine z_Ev_blk 3 (c' := ((if (4 : Int32) ≤ (2 : Int32) then 58 else 9), [some (aR f 1), some (aI mask), some (aI (1 : Int32)), some (aI (2 : Int32)), none], [], (C, D, E))) rfl trivial ?_
  refine z_Ev_else (by decide) ?_
  refine z_Ev_blk 7 (c' := ((if ((mask >>> ((2 : Int32) &&& 31)) &&& (1 : Int32)) = (1 : Int32) then 18 else 22), [some (aR f 1), some (aI mask), some (aI (1 : Int32)), some (aI (2 : Int32)), none], [], (C, D, E))) rfl trivial ?_
  refine z_Ev_ite (fun h1 => ?_) (fun h1 => ?_)
  · replace h1 := hs_t.mpr h1
    refine z_Ev_blk 5 (c' := ((if (1 : Int32) = 0 then 52 else 30), [some (aR f 1), some (aI mask), some (aI (1 : Int32)), some (aI (2 : Int32)), some (aI (1 : Int32))], [], (C, D, E))) rfl trivial ?_
    refine z_Ev_else (by decide) ?_
    refine z_Ev_blk 3 (c' := ((if (1 : Int32) = (-1 : Int32) then 50 else 35), [some (aR f 1), some (aI mask), some (aI (1 : Int32)), some (aI (2 : Int32)), some (aI (1 : Int32))], [], (C, D, E))) rfl trivial ?_
    refine z_Ev_else (by decide) ?_
    refine z_Ev_blk 9 (c' := ((if (C f 4 1) ≤ (C f 4 2) then 52 else 50), [some (aR f 1), some (aI mask), some (aI (1 : Int32)), some (aI (2 : Int32)), some (aI (1 : Int32))], [], (C, D, E))) rfl ⟨rfl, rfl, trivial⟩ ?_
    refine z_Ev_ite (fun h2 => ?_) (fun h2 => ?_)
    · skip
      refine z_Ev_blk 2 (c' := (4, [some (aR f 1), some (aI mask), some (aI (1 : Int32)), some (aI (3 : Int32)), some (aI (1 : Int32))], [], (C, D, E))) rfl trivial ?_
      refine z_Ev_fgt [true, true, true, true, false] ?_
      exact z_Ev_eq (c := (4, [some (aR f 1), some (aI mask), some (aI (1 : Int32)), some (aI (3 : Int32)), none], [], (C, D, E))) (c' := (4, [some (aR f 1), some (aI mask), some (aI (if hs mask 2 = true ∧ C f 4 2 < C f 4 1 then 2 else 1)), some (aI (3 : Int32)), none], [], (C, D, E))) (by simp [h1, h2]) K
    · skip
      refine z_Ev_blk 4 (c' := (4, [some (aR f 1), some (aI mask), some (aI (2 : Int32)), some (aI (3 : Int32)), some (aI (1 : Int32))], [], (C, D, E))) rfl trivial ?_
      refine z_Ev_fgt [true, true, true, true, false] ?_
      exact z_Ev_eq (c := (4, [some (aR f 1), some (aI mask), some (aI (2 : Int32)), some (aI (3 : Int32)), none], [], (C, D, E))) (c' := (4, [some (aR f 1), some (aI mask), some (aI (if hs mask 2 = true ∧ C f 4 2 < C f 4 1 then 2 else 1)), some (aI (3 : Int32)), none], [], (C, D, E))) (by simp [h1, h2]) K
  · replace h1 := hs_n h1
    refine z_Ev_blk 4 (c' := ((if (0 : Int32) = 0 then 52 else 30), [some (aR f 1), some (aI mask), some (aI (1 : Int32)), some (aI (2 : Int32)), some (aI (0 : Int32))], [], (C, D, E))) rfl trivial ?_
    refine z_Ev_if (by decide) ?_
    refine z_Ev_blk 2 (c' := (4, [some (aR f 1), some (aI mask), some (aI (1 : Int32)), some (aI (3 : Int32)), some (aI (0 : Int32))], [], (C, D, E))) rfl trivial ?_
    refine z_Ev_fgt [true, true, true, true, false] ?_
    exact z_Ev_eq (c := (4, [some (aR f 1), some (aI mask), some (aI (1 : Int32)), some (aI (3 : Int32)), none], [], (C, D, E))) (c' := (4, [some (aR f 1), some (aI mask), some (aI (if hs mask 2 = true ∧ C f 4 2 < C f 4 1 then 2 else 1)), some (aI (3 : Int32)), none], [], (C, D, E))) (by simp [h1]) K
theorem ch_c_3_1 {xs : Nat → Int32} {L : Nat} {o : z_Rs} {M' : Mem} {kk : Nat} (f : Nat) (mask : Int32) (C : Nat → Nat → Nat → Int32) (D : Nat → Nat → Int32) (E : Nat → Int64) (K : z_Ev xs L m_X0_firstByMerit (4, [some (aR f 1), some (aI mask), some (aI (if hs mask 3 = true ∧ C f 4 3 < C f 4 1 then 3 else 1)), some (aI (4 : Int32)), none], [], (C, D, E)) o M' kk) : z_Ev xs L m_X0_firstByMerit (4, [some (aR f 1), some (aI mask), some (aI (1 : Int32)), some (aI (3 : Int32)), none], [], (C, D, E)) o M' kk := by
  refine z_Ev_blk 3 (c' := ((if (4 : Int32) ≤ (3 : Int32) then 58 else 9), [some (aR f 1), some (aI mask), some (aI (1 : Int32)), some (aI (3 : Int32)), none], [], (C, D, E))) rfl trivial ?_
  refine z_Ev_else (by decide) ?_
  refine z_Ev_blk 7 (c' := ((if ((mask >>> ((3 : Int32) &&& 31)) &&& (1 : Int32)) = (1 : Int32) then 18 else 22), [some (aR f 1), some (aI mask), some (aI (1 : Int32)), some (aI (3 : Int32)), none], [], (C, D, E))) rfl trivial ?_
  refine z_Ev_ite (fun h1 => ?_) (fun h1 => ?_)
  · replace h1 := hs_t.mpr h1
    refine z_Ev_blk 5 (c' := ((if (1 : Int32) = 0 then 52 else 30), [some (aR f 1), some (aI mask), some (aI (1 : Int32)), some (aI (3 : Int32)), some (aI (1 : Int32))], [], (C, D, E))) rfl trivial ?_
    refine z_Ev_else (by decide) ?_
    refine z_Ev_blk 3 (c' := ((if (1 : Int32) = (-1 : Int32) then 50 else 35), [some (aR f 1), some (aI mask), some (aI (1 : Int32)), some (aI (3 : Int32)), some (aI (1 : Int32))], [], (C, D, E))) rfl trivial ?_
    refine z_Ev_else (by decide) ?_
    refine z_Ev_blk 9 (c' := ((if (C f 4 1) ≤ (C f 4 3) then 52 else 50), [some (aR f 1), some (aI mask), some (aI (1 : Int32)), some (aI (3 : Int32)), some (aI (1 : Int32))], [], (C, D, E))) rfl ⟨rfl, rfl, trivial⟩ ?_
    refine z_Ev_ite (fun h2 => ?_) (fun h2 => ?_)
    · skip
      refine z_Ev_blk 2 (c' := (4, [some (aR f 1), some (aI mask), some (aI (1 : Int32)), some (aI (4 : Int32)), some (aI (1 : Int32))], [], (C, D, E))) rfl trivial ?_
      refine z_Ev_fgt [true, true, true, true, false] ?_
      exact z_Ev_eq (c := (4, [some (aR f 1), some (aI mask), some (aI (1 : Int32)), some (aI (4 : Int32)), none], [], (C, D, E))) (c' := (4, [some (aR f 1), some (aI mask), some (aI (if hs mask 3 = true ∧ C f 4 3 < C f 4 1 then 3 else 1)), some (aI (4 : Int32)), none], [], (C, D, E))) (by simp [h1, h2]) K
    · skip
      refine z_Ev_blk 4 (c' := (4, [some (aR f 1), some (aI mask), some (aI (3 : Int32)), some (aI (4 : Int32)), some (aI (1 : Int32))], [], (C, D, E))) rfl trivial ?_
      refine z_Ev_fgt [true, true, true, true, false] ?_
      exact z_Ev_eq (c := (4, [some (aR f 1), some (aI mask), some (aI (3 : Int32)), some (aI (4 : Int32)), none], [], (C, D, E))) (c' := (4, [some (aR f 1), some (aI mask), some (aI (if hs mask 3 = true ∧ C f 4 3 < C f 4 1 then 3 else 1)), some (aI (4 : Int32)), none], [], (C, D, E))) (by simp [h1, h2]) K
  · replace h1 := hs_n h1
    refine z_Ev_blk 4 (c' := ((if (0 : Int32) = 0 then 52 else 30), [some (aR f 1), some (aI mask), some (aI (1 : Int32)), some (aI (3 : Int32)), some (aI (0 : Int32))], [], (C, D, E))) rfl trivial ?_
    refine z_Ev_if (by decide) ?_
    refine z_Ev_blk 2 (c' := (4, [some (aR f 1), some (aI mask), some (aI (1 : Int32)), some (aI (4 : Int32)), some (aI (0 : Int32))], [], (C, D, E))) rfl trivial ?_
    refine z_Ev_fgt [true, true, true, true, false] ?_
    exact z_Ev_eq (c := (4, [some (aR f 1), some (aI mask), some (aI (1 : Int32)), some (aI (4 : Int32)), none], [], (C, D, E))) (c' := (4, [some (aR f 1), some (aI mask), some (aI (if hs mask 3 = true ∧ C f 4 3 < C f 4 1 then 3 else 1)), some (aI (4 : Int32)), none], [], (C, D, E))) (by simp [h1]) K
theorem ch_c_0_2 {xs : Nat → Int32} {L : Nat} {o : z_Rs} {M' : Mem} {kk : Nat} (f : Nat) (mask : Int32) (C : Nat → Nat → Nat → Int32) (D : Nat → Nat → Int32) (E : Nat → Int64) (K : z_Ev xs L m_X0_firstByMerit (4, [some (aR f 1), some (aI mask), some (aI (if hs mask 0 = true ∧ C f 4 0 < C f 4 2 then 0 else 2)), some (aI (1 : Int32)), none], [], (C, D, E)) o M' kk) : z_Ev xs L m_X0_firstByMerit (4, [some (aR f 1), some (aI mask), some (aI (2 : Int32)), some (aI (0 : Int32)), none], [], (C, D, E)) o M' kk := by
  refine z_Ev_blk 3 (c' := ((if (4 : Int32) ≤ (0 : Int32) then 58 else 9), [some (aR f 1), some (aI mask), some (aI (2 : Int32)), some (aI (0 : Int32)), none], [], (C, D, E))) rfl trivial ?_
  refine z_Ev_else (by decide) ?_
  refine z_Ev_blk 7 (c' := ((if ((mask >>> ((0 : Int32) &&& 31)) &&& (1 : Int32)) = (1 : Int32) then 18 else 22), [some (aR f 1), some (aI mask), some (aI (2 : Int32)), some (aI (0 : Int32)), none], [], (C, D, E))) rfl trivial ?_
  refine z_Ev_ite (fun h1 => ?_) (fun h1 => ?_)
  · replace h1 := hs_t.mpr h1
    refine z_Ev_blk 5 (c' := ((if (1 : Int32) = 0 then 52 else 30), [some (aR f 1), some (aI mask), some (aI (2 : Int32)), some (aI (0 : Int32)), some (aI (1 : Int32))], [], (C, D, E))) rfl trivial ?_
    refine z_Ev_else (by decide) ?_
    refine z_Ev_blk 3 (c' := ((if (2 : Int32) = (-1 : Int32) then 50 else 35), [some (aR f 1), some (aI mask), some (aI (2 : Int32)), some (aI (0 : Int32)), some (aI (1 : Int32))], [], (C, D, E))) rfl trivial ?_
    refine z_Ev_else (by decide) ?_
    refine z_Ev_blk 9 (c' := ((if (C f 4 2) ≤ (C f 4 0) then 52 else 50), [some (aR f 1), some (aI mask), some (aI (2 : Int32)), some (aI (0 : Int32)), some (aI (1 : Int32))], [], (C, D, E))) rfl ⟨rfl, rfl, trivial⟩ ?_
    refine z_Ev_ite (fun h2 => ?_) (fun h2 => ?_)
    · skip
      refine z_Ev_blk 2 (c' := (4, [some (aR f 1), some (aI mask), some (aI (2 : Int32)), some (aI (1 : Int32)), some (aI (1 : Int32))], [], (C, D, E))) rfl trivial ?_
      refine z_Ev_fgt [true, true, true, true, false] ?_
      exact z_Ev_eq (c := (4, [some (aR f 1), some (aI mask), some (aI (2 : Int32)), some (aI (1 : Int32)), none], [], (C, D, E))) (c' := (4, [some (aR f 1), some (aI mask), some (aI (if hs mask 0 = true ∧ C f 4 0 < C f 4 2 then 0 else 2)), some (aI (1 : Int32)), none], [], (C, D, E))) (by simp [h1, h2]) K
    · skip
      refine z_Ev_blk 4 (c' := (4, [some (aR f 1), some (aI mask), some (aI (0 : Int32)), some (aI (1 : Int32)), some (aI (1 : Int32))], [], (C, D, E))) rfl trivial ?_
      refine z_Ev_fgt [true, true, true, true, false] ?_
      exact z_Ev_eq (c := (4, [some (aR f 1), some (aI mask), some (aI (0 : Int32)), some (aI (1 : Int32)), none], [], (C, D, E))) (c' := (4, [some (aR f 1), some (aI mask), some (aI (if hs mask 0 = true ∧ C f 4 0 < C f 4 2 then 0 else 2)), some (aI (1 : Int32)), none], [], (C, D, E))) (by simp [h1, h2]) K
  · replace h1 := hs_n h1
    refine z_Ev_blk 4 (c' := ((if (0 : Int32) = 0 then 52 else 30), [some (aR f 1), some (aI mask), some (aI (2 : Int32)), some (aI (0 : Int32)), some (aI (0 : Int32))], [], (C, D, E))) rfl trivial ?_
    refine z_Ev_if (by decide) ?_
    refine z_Ev_blk 2 (c' := (4, [some (aR f 1), some (aI mask), some (aI (2 : Int32)), some (aI (1 : Int32)), some (aI (0 : Int32))], [], (C, D, E))) rfl trivial ?_
    refine z_Ev_fgt [true, true, true, true, false] ?_
    exact z_Ev_eq (c := (4, [some (aR f 1), some (aI mask), some (aI (2 : Int32)), some (aI (1 : Int32)), none], [], (C, D, E))) (c' := (4, [some (aR f 1), some (aI mask), some (aI (if hs mask 0 = true ∧ C f 4 0 < C f 4 2 then 0 else 2)), some (aI (1 : Int32)), none], [], (C, D, E))) (by simp [h1]) K
theorem ch_c_1_2 {xs : Nat → Int32} {L : Nat} {o : z_Rs} {M' : Mem} {kk : Nat} (f : Nat) (mask : Int32) (C : Nat → Nat → Nat → Int32) (D : Nat → Nat → Int32) (E : Nat → Int64) (K : z_Ev xs L m_X0_firstByMerit (4, [some (aR f 1), some (aI mask), some (aI (if hs mask 1 = true ∧ C f 4 1 < C f 4 2 then 1 else 2)), some (aI (2 : Int32)), none], [], (C, D, E)) o M' kk) : z_Ev xs L m_X0_firstByMerit (4, [some (aR f 1), some (aI mask), some (aI (2 : Int32)), some (aI (1 : Int32)), none], [], (C, D, E)) o M' kk := by
  refine z_Ev_blk 3 (c' := ((if (4 : Int32) ≤ (1 : Int32) then 58 else 9), [some (aR f 1), some (aI mask), some (aI (2 : Int32)), some (aI (1 : Int32)), none], [], (C, D, E))) rfl trivial ?_
  refine z_Ev_else (by decide) ?_
  refine z_Ev_blk 7 (c' := ((if ((mask >>> ((1 : Int32) &&& 31)) &&& (1 : Int32)) = (1 : Int32) then 18 else 22), [some (aR f 1), some (aI mask), some (aI (2 : Int32)), some (aI (1 : Int32)), none], [], (C, D, E))) rfl trivial ?_
  refine z_Ev_ite (fun h1 => ?_) (fun h1 => ?_)
  · replace h1 := hs_t.mpr h1
    refine z_Ev_blk 5 (c' := ((if (1 : Int32) = 0 then 52 else 30), [some (aR f 1), some (aI mask), some (aI (2 : Int32)), some (aI (1 : Int32)), some (aI (1 : Int32))], [], (C, D, E))) rfl trivial ?_
    refine z_Ev_else (by decide) ?_
    refine z_Ev_blk 3 (c' := ((if (2 : Int32) = (-1 : Int32) then 50 else 35), [some (aR f 1), some (aI mask), some (aI (2 : Int32)), some (aI (1 : Int32)), some (aI (1 : Int32))], [], (C, D, E))) rfl trivial ?_
    refine z_Ev_else (by decide) ?_
    refine z_Ev_blk 9 (c' := ((if (C f 4 2) ≤ (C f 4 1) then 52 else 50), [some (aR f 1), some (aI mask), some (aI (2 : Int32)), some (aI (1 : Int32)), some (aI (1 : Int32))], [], (C, D, E))) rfl ⟨rfl, rfl, trivial⟩ ?_
    refine z_Ev_ite (fun h2 => ?_) (fun h2 => ?_)
    · skip
      refine z_Ev_blk 2 (c' := (4, [some (aR f 1), some (aI mask), some (aI (2 : Int32)), some (aI (2 : Int32)), some (aI (1 : Int32))], [], (C, D, E))) rfl trivial ?_
      refine z_Ev_fgt [true, true, true, true, false] ?_
      exact z_Ev_eq (c := (4, [some (aR f 1), some (aI mask), some (aI (2 : Int32)), some (aI (2 : Int32)), none], [], (C, D, E))) (c' := (4, [some (aR f 1), some (aI mask), some (aI (if hs mask 1 = true ∧ C f 4 1 < C f 4 2 then 1 else 2)), some (aI (2 : Int32)), none], [], (C, D, E))) (by simp [h1, h2]) K
    · skip
      refine z_Ev_blk 4 (c' := (4, [some (aR f 1), some (aI mask), some (aI (1 : Int32)), some (aI (2 : Int32)), some (aI (1 : Int32))], [], (C, D, E))) rfl trivial ?_
      refine z_Ev_fgt [true, true, true, true, false] ?_
      exact z_Ev_eq (c := (4, [some (aR f 1), some (aI mask), some (aI (1 : Int32)), some (aI (2 : Int32)), none], [], (C, D, E))) (c' := (4, [some (aR f 1), some (aI mask), some (aI (if hs mask 1 = true ∧ C f 4 1 < C f 4 2 then 1 else 2)), some (aI (2 : Int32)), none], [], (C, D, E))) (by simp [h1, h2]) K
  · replace h1 := hs_n h1
    refine z_Ev_blk 4 (c' := ((if (0 : Int32) = 0 then 52 else 30), [some (aR f 1), some (aI mask), some (aI (2 : Int32)), some (aI (1 : Int32)), some (aI (0 : Int32))], [], (C, D, E))) rfl trivial ?_
    refine z_Ev_if (by decide) ?_
    refine z_Ev_blk 2 (c' := (4, [some (aR f 1), some (aI mask), some (aI (2 : Int32)), some (aI (2 : Int32)), some (aI (0 : Int32))], [], (C, D, E))) rfl trivial ?_
    refine z_Ev_fgt [true, true, true, true, false] ?_
    exact z_Ev_eq (c := (4, [some (aR f 1), some (aI mask), some (aI (2 : Int32)), some (aI (2 : Int32)), none], [], (C, D, E))) (c' := (4, [some (aR f 1), some (aI mask), some (aI (if hs mask 1 = true ∧ C f 4 1 < C f 4 2 then 1 else 2)), some (aI (2 : Int32)), none], [], (C, D, E))) (by simp [h1]) K
theorem ch_c_2_2 {xs : Nat → Int32} {L : Nat} {o : z_Rs} {M' : Mem} {kk : Nat} (f : Nat) (mask : Int32) (C : Nat → Nat → Nat → Int32) (D : Nat → Nat → Int32) (E : Nat → Int64) (K : z_Ev xs L m_X0_firstByMerit (4, [some (aR f 1), some (aI mask), some (aI (if hs mask 2 = true ∧ C f 4 2 < C f 4 2 then 2 else 2)), some (aI (3 : Int32)), none], [], (C, D, E)) o M' kk) : z_Ev xs L m_X0_firstByMerit (4, [some (aR f 1), some (aI mask), some (aI (2 : Int32)), some (aI (2 : Int32)), none], [], (C, D, E)) o M' kk := by
  refine z_Ev_blk 3 (c' := ((if (4 : Int32) ≤ (2 : Int32) then 58 else 9), [some (aR f 1), some (aI mask), some (aI (2 : Int32)), some (aI (2 : Int32)), none], [], (C, D, E))) rfl trivial ?_
  refine z_Ev_else (by decide) ?_
  refine z_Ev_blk 7 (c' := ((if ((mask >>> ((2 : Int32) &&& 31)) &&& (1 : Int32)) = (1 : Int32) then 18 else 22), [some (aR f 1), some (aI mask), some (aI (2 : Int32)), some (aI (2 : Int32)), none], [], (C, D, E))) rfl trivial ?_
  refine z_Ev_ite (fun h1 => ?_) (fun h1 => ?_)
  · replace h1 := hs_t.mpr h1
    refine z_Ev_blk 5 (c' := ((if (1 : Int32) = 0 then 52 else 30), [some (aR f 1), some (aI mask), some (aI (2 : Int32)), some (aI (2 : Int32)), some (aI (1 : Int32))], [], (C, D, E))) rfl trivial ?_
    refine z_Ev_else (by decide) ?_
    refine z_Ev_blk 3 (c' := ((if (2 : Int32) = (-1 : Int32) then 50 else 35), [some (aR f 1), some (aI mask), some (aI (2 : Int32)), some (aI (2 : Int32)), some (aI (1 : Int32))], [], (C, D, E))) rfl trivial ?_
    refine z_Ev_else (by decide) ?_
    refine z_Ev_blk 9 (c' := ((if (C f 4 2) ≤ (C f 4 2) then 52 else 50), [some (aR f 1), some (aI mask), some (aI (2 : Int32)), some (aI (2 : Int32)), some (aI (1 : Int32))], [], (C, D, E))) rfl ⟨rfl, rfl, trivial⟩ ?_
    refine z_Ev_ite (fun h2 => ?_) (fun h2 => ?_)
    · skip
      refine z_Ev_blk 2 (c' := (4, [some (aR f 1), some (aI mask), some (aI (2 : Int32)), some (aI (3 : Int32)), some (aI (1 : Int32))], [], (C, D, E))) rfl trivial ?_
      refine z_Ev_fgt [true, true, true, true, false] ?_
      exact z_Ev_eq (c := (4, [some (aR f 1), some (aI mask), some (aI (2 : Int32)), some (aI (3 : Int32)), none], [], (C, D, E))) (c' := (4, [some (aR f 1), some (aI mask), some (aI (if hs mask 2 = true ∧ C f 4 2 < C f 4 2 then 2 else 2)), some (aI (3 : Int32)), none], [], (C, D, E))) (by simp [h1, h2]) K
    · skip
      refine z_Ev_blk 4 (c' := (4, [some (aR f 1), some (aI mask), some (aI (2 : Int32)), some (aI (3 : Int32)), some (aI (1 : Int32))], [], (C, D, E))) rfl trivial ?_
      refine z_Ev_fgt [true, true, true, true, false] ?_
      exact z_Ev_eq (c := (4, [some (aR f 1), some (aI mask), some (aI (2 : Int32)), some (aI (3 : Int32)), none], [], (C, D, E))) (c' := (4, [some (aR f 1), some (aI mask), some (aI (if hs mask 2 = true ∧ C f 4 2 < C f 4 2 then 2 else 2)), some (aI (3 : Int32)), none], [], (C, D, E))) (by simp [h1, h2]) K
  · replace h1 := hs_n h1
    refine z_Ev_blk 4 (c' := ((if (0 : Int32) = 0 then 52 else 30), [some (aR f 1), some (aI mask), some (aI (2 : Int32)), some (aI (2 : Int32)), some (aI (0 : Int32))], [], (C, D, E))) rfl trivial ?_
    refine z_Ev_if (by decide) ?_
    refine z_Ev_blk 2 (c' := (4, [some (aR f 1), some (aI mask), some (aI (2 : Int32)), some (aI (3 : Int32)), some (aI (0 : Int32))], [], (C, D, E))) rfl trivial ?_
    refine z_Ev_fgt [true, true, true, true, false] ?_
    exact z_Ev_eq (c := (4, [some (aR f 1), some (aI mask), some (aI (2 : Int32)), some (aI (3 : Int32)), none], [], (C, D, E))) (c' := (4, [some (aR f 1), some (aI mask), some (aI (if hs mask 2 = true ∧ C f 4 2 < C f 4 2 then 2 else 2)), some (aI (3 : Int32)), none], [], (C, D, E))) (by simp [h1]) K
theorem ch_c_3_2 {xs : Nat → Int32} {L : Nat} {o : z_Rs} {M' : Mem} {kk : Nat} (f : Nat) (mask : Int32) (C : Nat → Nat → Nat → Int32) (D : Nat → Nat → Int32) (E : Nat → Int64) (K : z_Ev xs L m_X0_firstByMerit (4, [some (aR f 1), some (aI mask), some (aI (if hs mask 3 = true ∧ C f 4 3 < C f 4 2 then 3 else 2)), some (aI (4 : Int32)), none], [], (C, D, E)) o M' kk) : z_Ev xs L m_X0_firstByMerit (4, [some (aR f 1), some (aI mask), some (aI (2 : Int32)), some (aI (3 : Int32)), none], [], (C, D, E)) o M' kk := by
  refine z_Ev_blk 3 (c' := ((if (4 : Int32) ≤ (3 : Int32) then 58 else 9), [some (aR f 1), some (aI mask), some (aI (2 : Int32)), some (aI (3 : Int32)), none], [], (C, D, E))) rfl trivial ?_
  refine z_Ev_else (by decide) ?_
  refine z_Ev_blk 7 (c' := ((if ((mask >>> ((3 : Int32) &&& 31)) &&& (1 : Int32)) = (1 : Int32) then 18 else 22), [some (aR f 1), some (aI mask), some (aI (2 : Int32)), some (aI (3 : Int32)), none], [], (C, D, E))) rfl trivial ?_
  refine z_Ev_ite (fun h1 => ?_) (fun h1 => ?_)
  · replace h1 := hs_t.mpr h1
    refine z_Ev_blk 5 (c' := ((if (1 : Int32) = 0 then 52 else 30), [some (aR f 1), some (aI mask), some (aI (2 : Int32)), some (aI (3 : Int32)), some (aI (1 : Int32))], [], (C, D, E))) rfl trivial ?_
    refine z_Ev_else (by decide) ?_
    refine z_Ev_blk 3 (c' := ((if (2 : Int32) = (-1 : Int32) then 50 else 35), [some (aR f 1), some (aI mask), some (aI (2 : Int32)), some (aI (3 : Int32)), some (aI (1 : Int32))], [], (C, D, E))) rfl trivial ?_
    refine z_Ev_else (by decide) ?_
    refine z_Ev_blk 9 (c' := ((if (C f 4 2) ≤ (C f 4 3) then 52 else 50), [some (aR f 1), some (aI mask), some (aI (2 : Int32)), some (aI (3 : Int32)), some (aI (1 : Int32))], [], (C, D, E))) rfl ⟨rfl, rfl, trivial⟩ ?_
    refine z_Ev_ite (fun h2 => ?_) (fun h2 => ?_)
    · skip
      refine z_Ev_blk 2 (c' := (4, [some (aR f 1), some (aI mask), some (aI (2 : Int32)), some (aI (4 : Int32)), some (aI (1 : Int32))], [], (C, D, E))) rfl trivial ?_
      refine z_Ev_fgt [true, true, true, true, false] ?_
      exact z_Ev_eq (c := (4, [some (aR f 1), some (aI mask), some (aI (2 : Int32)), some (aI (4 : Int32)), none], [], (C, D, E))) (c' := (4, [some (aR f 1), some (aI mask), some (aI (if hs mask 3 = true ∧ C f 4 3 < C f 4 2 then 3 else 2)), some (aI (4 : Int32)), none], [], (C, D, E))) (by simp [h1, h2]) K
    · skip
      refine z_Ev_blk 4 (c' := (4, [some (aR f 1), some (aI mask), some (aI (3 : Int32)), some (aI (4 : Int32)), some (aI (1 : Int32))], [], (C, D, E))) rfl trivial ?_
      refine z_Ev_fgt [true, true, true, true, false] ?_
      exact z_Ev_eq (c := (4, [some (aR f 1), some (aI mask), some (aI (3 : Int32)), some (aI (4 : Int32)), none], [], (C, D, E))) (c' := (4, [some (aR f 1), some (aI mask), some (aI (if hs mask 3 = true ∧ C f 4 3 < C f 4 2 then 3 else 2)), some (aI (4 : Int32)), none], [], (C, D, E))) (by simp [h1, h2]) K
  · replace h1 := hs_n h1
    refine z_Ev_blk 4 (c' := ((if (0 : Int32) = 0 then 52 else 30), [some (aR f 1), some (aI mask), some (aI (2 : Int32)), some (aI (3 : Int32)), some (aI (0 : Int32))], [], (C, D, E))) rfl trivial ?_
    refine z_Ev_if (by decide) ?_
    refine z_Ev_blk 2 (c' := (4, [some (aR f 1), some (aI mask), some (aI (2 : Int32)), some (aI (4 : Int32)), some (aI (0 : Int32))], [], (C, D, E))) rfl trivial ?_
    refine z_Ev_fgt [true, true, true, true, false] ?_
    exact z_Ev_eq (c := (4, [some (aR f 1), some (aI mask), some (aI (2 : Int32)), some (aI (4 : Int32)), none], [], (C, D, E))) (c' := (4, [some (aR f 1), some (aI mask), some (aI (if hs mask 3 = true ∧ C f 4 3 < C f 4 2 then 3 else 2)), some (aI (4 : Int32)), none], [], (C, D, E))) (by simp [h1]) K
theorem ch_c_0_3 {xs : Nat → Int32} {L : Nat} {o : z_Rs} {M' : Mem} {kk : Nat} (f : Nat) (mask : Int32) (C : Nat → Nat → Nat → Int32) (D : Nat → Nat → Int32) (E : Nat → Int64) (K : z_Ev xs L m_X0_firstByMerit (4, [some (aR f 1), some (aI mask), some (aI (if hs mask 0 = true ∧ C f 4 0 < C f 4 3 then 0 else 3)), some (aI (1 : Int32)), none], [], (C, D, E)) o M' kk) : z_Ev xs L m_X0_firstByMerit (4, [some (aR f 1), some (aI mask), some (aI (3 : Int32)), some (aI (0 : Int32)), none], [], (C, D, E)) o M' kk := by
  refine z_Ev_blk 3 (c' := ((if (4 : Int32) ≤ (0 : Int32) then 58 else 9), [some (aR f 1), some (aI mask), some (aI (3 : Int32)), some (aI (0 : Int32)), none], [], (C, D, E))) rfl trivial ?_
  refine z_Ev_else (by decide) ?_
  refine z_Ev_blk 7 (c' := ((if ((mask >>> ((0 : Int32) &&& 31)) &&& (1 : Int32)) = (1 : Int32) then 18 else 22), [some (aR f 1), some (aI mask), some (aI (3 : Int32)), some (aI (0 : Int32)), none], [], (C, D, E))) rfl trivial ?_
  refine z_Ev_ite (fun h1 => ?_) (fun h1 => ?_)
  · replace h1 := hs_t.mpr h1
    refine z_Ev_blk 5 (c' := ((if (1 : Int32) = 0 then 52 else 30), [some (aR f 1), some (aI mask), some (aI (3 : Int32)), some (aI (0 : Int32)), some (aI (1 : Int32))], [], (C, D, E))) rfl trivial ?_
    refine z_Ev_else (by decide) ?_
    refine z_Ev_blk 3 (c' := ((if (3 : Int32) = (-1 : Int32) then 50 else 35), [some (aR f 1), some (aI mask), some (aI (3 : Int32)), some (aI (0 : Int32)), some (aI (1 : Int32))], [], (C, D, E))) rfl trivial ?_
    refine z_Ev_else (by decide) ?_
    refine z_Ev_blk 9 (c' := ((if (C f 4 3) ≤ (C f 4 0) then 52 else 50), [some (aR f 1), some (aI mask), some (aI (3 : Int32)), some (aI (0 : Int32)), some (aI (1 : Int32))], [], (C, D, E))) rfl ⟨rfl, rfl, trivial⟩ ?_
    refine z_Ev_ite (fun h2 => ?_) (fun h2 => ?_)
    · skip
      refine z_Ev_blk 2 (c' := (4, [some (aR f 1), some (aI mask), some (aI (3 : Int32)), some (aI (1 : Int32)), some (aI (1 : Int32))], [], (C, D, E))) rfl trivial ?_
      refine z_Ev_fgt [true, true, true, true, false] ?_
      exact z_Ev_eq (c := (4, [some (aR f 1), some (aI mask), some (aI (3 : Int32)), some (aI (1 : Int32)), none], [], (C, D, E))) (c' := (4, [some (aR f 1), some (aI mask), some (aI (if hs mask 0 = true ∧ C f 4 0 < C f 4 3 then 0 else 3)), some (aI (1 : Int32)), none], [], (C, D, E))) (by simp [h1, h2]) K
    · skip
      refine z_Ev_blk 4 (c' := (4, [some (aR f 1), some (aI mask), some (aI (0 : Int32)), some (aI (1 : Int32)), some (aI (1 : Int32))], [], (C, D, E))) rfl trivial ?_
      refine z_Ev_fgt [true, true, true, true, false] ?_
      exact z_Ev_eq (c := (4, [some (aR f 1), some (aI mask), some (aI (0 : Int32)), some (aI (1 : Int32)), none], [], (C, D, E))) (c' := (4, [some (aR f 1), some (aI mask), some (aI (if hs mask 0 = true ∧ C f 4 0 < C f 4 3 then 0 else 3)), some (aI (1 : Int32)), none], [], (C, D, E))) (by simp [h1, h2]) K
  · replace h1 := hs_n h1
    refine z_Ev_blk 4 (c' := ((if (0 : Int32) = 0 then 52 else 30), [some (aR f 1), some (aI mask), some (aI (3 : Int32)), some (aI (0 : Int32)), some (aI (0 : Int32))], [], (C, D, E))) rfl trivial ?_
    refine z_Ev_if (by decide) ?_
    refine z_Ev_blk 2 (c' := (4, [some (aR f 1), some (aI mask), some (aI (3 : Int32)), some (aI (1 : Int32)), some (aI (0 : Int32))], [], (C, D, E))) rfl trivial ?_
    refine z_Ev_fgt [true, true, true, true, false] ?_
    exact z_Ev_eq (c := (4, [some (aR f 1), some (aI mask), some (aI (3 : Int32)), some (aI (1 : Int32)), none], [], (C, D, E))) (c' := (4, [some (aR f 1), some (aI mask), some (aI (if hs mask 0 = true ∧ C f 4 0 < C f 4 3 then 0 else 3)), some (aI (1 : Int32)), none], [], (C, D, E))) (by simp [h1]) K
theorem ch_c_1_3 {xs : Nat → Int32} {L : Nat} {o : z_Rs} {M' : Mem} {kk : Nat} (f : Nat) (mask : Int32) (C : Nat → Nat → Nat → Int32) (D : Nat → Nat → Int32) (E : Nat → Int64) (K : z_Ev xs L m_X0_firstByMerit (4, [some (aR f 1), some (aI mask), some (aI (if hs mask 1 = true ∧ C f 4 1 < C f 4 3 then 1 else 3)), some (aI (2 : Int32)), none], [], (C, D, E)) o M' kk) : z_Ev xs L m_X0_firstByMerit (4, [some (aR f 1), some (aI mask), some (aI (3 : Int32)), some (aI (1 : Int32)), none], [], (C, D, E)) o M' kk := by
  refine z_Ev_blk 3 (c' := ((if (4 : Int32) ≤ (1 : Int32) then 58 else 9), [some (aR f 1), some (aI mask), some (aI (3 : Int32)), some (aI (1 : Int32)), none], [], (C, D, E))) rfl trivial ?_
  refine z_Ev_else (by decide) ?_
  refine z_Ev_blk 7 (c' := ((if ((mask >>> ((1 : Int32) &&& 31)) &&& (1 : Int32)) = (1 : Int32) then 18 else 22), [some (aR f 1), some (aI mask), some (aI (3 : Int32)), some (aI (1 : Int32)), none], [], (C, D, E))) rfl trivial ?_
  refine z_Ev_ite (fun h1 => ?_) (fun h1 => ?_)
  · replace h1 := hs_t.mpr h1
    refine z_Ev_blk 5 (c' := ((if (1 : Int32) = 0 then 52 else 30), [some (aR f 1), some (aI mask), some (aI (3 : Int32)), some (aI (1 : Int32)), some (aI (1 : Int32))], [], (C, D, E))) rfl trivial ?_
    refine z_Ev_else (by decide) ?_
    refine z_Ev_blk 3 (c' := ((if (3 : Int32) = (-1 : Int32) then 50 else 35), [some (aR f 1), some (aI mask), some (aI (3 : Int32)), some (aI (1 : Int32)), some (aI (1 : Int32))], [], (C, D, E))) rfl trivial ?_
    refine z_Ev_else (by decide) ?_
    refine z_Ev_blk 9 (c' := ((if (C f 4 3) ≤ (C f 4 1) then 52 else 50), [some (aR f 1), some (aI mask), some (aI (3 : Int32)), some (aI (1 : Int32)), some (aI (1 : Int32))], [], (C, D, E))) rfl ⟨rfl, rfl, trivial⟩ ?_
    refine z_Ev_ite (fun h2 => ?_) (fun h2 => ?_)
    · skip
      refine z_Ev_blk 2 (c' := (4, [some (aR f 1), some (aI mask), some (aI (3 : Int32)), some (aI (2 : Int32)), some (aI (1 : Int32))], [], (C, D, E))) rfl trivial ?_
      refine z_Ev_fgt [true, true, true, true, false] ?_
      exact z_Ev_eq (c := (4, [some (aR f 1), some (aI mask), some (aI (3 : Int32)), some (aI (2 : Int32)), none], [], (C, D, E))) (c' := (4, [some (aR f 1), some (aI mask), some (aI (if hs mask 1 = true ∧ C f 4 1 < C f 4 3 then 1 else 3)), some (aI (2 : Int32)), none], [], (C, D, E))) (by simp [h1, h2]) K
    · skip
      refine z_Ev_blk 4 (c' := (4, [some (aR f 1), some (aI mask), some (aI (1 : Int32)), some (aI (2 : Int32)), some (aI (1 : Int32))], [], (C, D, E))) rfl trivial ?_
      refine z_Ev_fgt [true, true, true, true, false] ?_
      exact z_Ev_eq (c := (4, [some (aR f 1), some (aI mask), some (aI (1 : Int32)), some (aI (2 : Int32)), none], [], (C, D, E))) (c' := (4, [some (aR f 1), some (aI mask), some (aI (if hs mask 1 = true ∧ C f 4 1 < C f 4 3 then 1 else 3)), some (aI (2 : Int32)), none], [], (C, D, E))) (by simp [h1, h2]) K
  · replace h1 := hs_n h1
    refine z_Ev_blk 4 (c' := ((if (0 : Int32) = 0 then 52 else 30), [some (aR f 1), some (aI mask), some (aI (3 : Int32)), some (aI (1 : Int32)), some (aI (0 : Int32))], [], (C, D, E))) rfl trivial ?_
    refine z_Ev_if (by decide) ?_
    refine z_Ev_blk 2 (c' := (4, [some (aR f 1), some (aI mask), some (aI (3 : Int32)), some (aI (2 : Int32)), some (aI (0 : Int32))], [], (C, D, E))) rfl trivial ?_
    refine z_Ev_fgt [true, true, true, true, false] ?_
    exact z_Ev_eq (c := (4, [some (aR f 1), some (aI mask), some (aI (3 : Int32)), some (aI (2 : Int32)), none], [], (C, D, E))) (c' := (4, [some (aR f 1), some (aI mask), some (aI (if hs mask 1 = true ∧ C f 4 1 < C f 4 3 then 1 else 3)), some (aI (2 : Int32)), none], [], (C, D, E))) (by simp [h1]) K
theorem ch_c_2_3 {xs : Nat → Int32} {L : Nat} {o : z_Rs} {M' : Mem} {kk : Nat} (f : Nat) (mask : Int32) (C : Nat → Nat → Nat → Int32) (D : Nat → Nat → Int32) (E : Nat → Int64) (K : z_Ev xs L m_X0_firstByMerit (4, [some (aR f 1), some (aI mask), some (aI (if hs mask 2 = true ∧ C f 4 2 < C f 4 3 then 2 else 3)), some (aI (3 : Int32)), none], [], (C, D, E)) o M' kk) : z_Ev xs L m_X0_firstByMerit (4, [some (aR f 1), some (aI mask), some (aI (3 : Int32)), some (aI (2 : Int32)), none], [], (C, D, E)) o M' kk := by
  refine z_Ev_blk 3 (c' := ((if (4 : Int32) ≤ (2 : Int32) then 58 else 9), [some (aR f 1), some (aI mask), some (aI (3 : Int32)), some (aI (2 : Int32)), none], [], (C, D, E))) rfl trivial ?_
  refine z_Ev_else (by decide) ?_
  refine z_Ev_blk 7 (c' := ((if ((mask >>> ((2 : Int32) &&& 31)) &&& (1 : Int32)) = (1 : Int32) then 18 else 22), [some (aR f 1), some (aI mask), some (aI (3 : Int32)), some (aI (2 : Int32)), none], [], (C, D, E))) rfl trivial ?_
  refine z_Ev_ite (fun h1 => ?_) (fun h1 => ?_)
  · replace h1 := hs_t.mpr h1
    refine z_Ev_blk 5 (c' := ((if (1 : Int32) = 0 then 52 else 30), [some (aR f 1), some (aI mask), some (aI (3 : Int32)), some (aI (2 : Int32)), some (aI (1 : Int32))], [], (C, D, E))) rfl trivial ?_
    refine z_Ev_else (by decide) ?_
    refine z_Ev_blk 3 (c' := ((if (3 : Int32) = (-1 : Int32) then 50 else 35), [some (aR f 1), some (aI mask), some (aI (3 : Int32)), some (aI (2 : Int32)), some (aI (1 : Int32))], [], (C, D, E))) rfl trivial ?_
    refine z_Ev_else (by decide) ?_
    refine z_Ev_blk 9 (c' := ((if (C f 4 3) ≤ (C f 4 2) then 52 else 50), [some (aR f 1), some (aI mask), some (aI (3 : Int32)), some (aI (2 : Int32)), some (aI (1 : Int32))], [], (C, D, E))) rfl ⟨rfl, rfl, trivial⟩ ?_
    refine z_Ev_ite (fun h2 => ?_) (fun h2 => ?_)
    · skip
      refine z_Ev_blk 2 (c' := (4, [some (aR f 1), some (aI mask), some (aI (3 : Int32)), some (aI (3 : Int32)), some (aI (1 : Int32))], [], (C, D, E))) rfl trivial ?_
      refine z_Ev_fgt [true, true, true, true, false] ?_
      exact z_Ev_eq (c := (4, [some (aR f 1), some (aI mask), some (aI (3 : Int32)), some (aI (3 : Int32)), none], [], (C, D, E))) (c' := (4, [some (aR f 1), some (aI mask), some (aI (if hs mask 2 = true ∧ C f 4 2 < C f 4 3 then 2 else 3)), some (aI (3 : Int32)), none], [], (C, D, E))) (by simp [h1, h2]) K
    · skip
      refine z_Ev_blk 4 (c' := (4, [some (aR f 1), some (aI mask), some (aI (2 : Int32)), some (aI (3 : Int32)), some (aI (1 : Int32))], [], (C, D, E))) rfl trivial ?_
      refine z_Ev_fgt [true, true, true, true, false] ?_
      exact z_Ev_eq (c := (4, [some (aR f 1), some (aI mask), some (aI (2 : Int32)), some (aI (3 : Int32)), none], [], (C, D, E))) (c' := (4, [some (aR f 1), some (aI mask), some (aI (if hs mask 2 = true ∧ C f 4 2 < C f 4 3 then 2 else 3)), some (aI (3 : Int32)), none], [], (C, D, E))) (by simp [h1, h2]) K
  · replace h1 := hs_n h1
    refine z_Ev_blk 4 (c' := ((if (0 : Int32) = 0 then 52 else 30), [some (aR f 1), some (aI mask), some (aI (3 : Int32)), some (aI (2 : Int32)), some (aI (0 : Int32))], [], (C, D, E))) rfl trivial ?_
    refine z_Ev_if (by decide) ?_
    refine z_Ev_blk 2 (c' := (4, [some (aR f 1), some (aI mask), some (aI (3 : Int32)), some (aI (3 : Int32)), some (aI (0 : Int32))], [], (C, D, E))) rfl trivial ?_
    refine z_Ev_fgt [true, true, true, true, false] ?_
    exact z_Ev_eq (c := (4, [some (aR f 1), some (aI mask), some (aI (3 : Int32)), some (aI (3 : Int32)), none], [], (C, D, E))) (c' := (4, [some (aR f 1), some (aI mask), some (aI (if hs mask 2 = true ∧ C f 4 2 < C f 4 3 then 2 else 3)), some (aI (3 : Int32)), none], [], (C, D, E))) (by simp [h1]) K
theorem ch_c_3_3 {xs : Nat → Int32} {L : Nat} {o : z_Rs} {M' : Mem} {kk : Nat} (f : Nat) (mask : Int32) (C : Nat → Nat → Nat → Int32) (D : Nat → Nat → Int32) (E : Nat → Int64) (K : z_Ev xs L m_X0_firstByMerit (4, [some (aR f 1), some (aI mask), some (aI (if hs mask 3 = true ∧ C f 4 3 < C f 4 3 then 3 else 3)), some (aI (4 : Int32)), none], [], (C, D, E)) o M' kk) : z_Ev xs L m_X0_firstByMerit (4, [some (aR f 1), some (aI mask), some (aI (3 : Int32)), some (aI (3 : Int32)), none], [], (C, D, E)) o M' kk := by
  refine z_Ev_blk 3 (c' := ((if (4 : Int32) ≤ (3 : Int32) then 58 else 9), [some (aR f 1), some (aI mask), some (aI (3 : Int32)), some (aI (3 : Int32)), none], [], (C, D, E))) rfl trivial ?_
  refine z_Ev_else (by decide) ?_
  refine z_Ev_blk 7 (c' := ((if ((mask >>> ((3 : Int32) &&& 31)) &&& (1 : Int32)) = (1 : Int32) then 18 else 22), [some (aR f 1), some (aI mask), some (aI (3 : Int32)), some (aI (3 : Int32)), none], [], (C, D, E))) rfl trivial ?_
  refine z_Ev_ite (fun h1 => ?_) (fun h1 => ?_)
  · replace h1 := hs_t.mpr h1
    refine z_Ev_blk 5 (c' := ((if (1 : Int32) = 0 then 52 else 30), [some (aR f 1), some (aI mask), some (aI (3 : Int32)), some (aI (3 : Int32)), some (aI (1 : Int32))], [], (C, D, E))) rfl trivial ?_
    refine z_Ev_else (by decide) ?_
    refine z_Ev_blk 3 (c' := ((if (3 : Int32) = (-1 : Int32) then 50 else 35), [some (aR f 1), some (aI mask), some (aI (3 : Int32)), some (aI (3 : Int32)), some (aI (1 : Int32))], [], (C, D, E))) rfl trivial ?_
    refine z_Ev_else (by decide) ?_
    refine z_Ev_blk 9 (c' := ((if (C f 4 3) ≤ (C f 4 3) then 52 else 50), [some (aR f 1), some (aI mask), some (aI (3 : Int32)), some (aI (3 : Int32)), some (aI (1 : Int32))], [], (C, D, E))) rfl ⟨rfl, rfl, trivial⟩ ?_
    refine z_Ev_ite (fun h2 => ?_) (fun h2 => ?_)
    · skip
      refine z_Ev_blk 2 (c' := (4, [some (aR f 1), some (aI mask), some (aI (3 : Int32)), some (aI (4 : Int32)), some (aI (1 : Int32))], [], (C, D, E))) rfl trivial ?_
      refine z_Ev_fgt [true, true, true, true, false] ?_
      exact z_Ev_eq (c := (4, [some (aR f 1), some (aI mask), some (aI (3 : Int32)), some (aI (4 : Int32)), none], [], (C, D, E))) (c' := (4, [some (aR f 1), some (aI mask), some (aI (if hs mask 3 = true ∧ C f 4 3 < C f 4 3 then 3 else 3)), some (aI (4 : Int32)), none], [], (C, D, E))) (by simp [h1, h2]) K
    · skip
      refine z_Ev_blk 4 (c' := (4, [some (aR f 1), some (aI mask), some (aI (3 : Int32)), some (aI (4 : Int32)), some (aI (1 : Int32))], [], (C, D, E))) rfl trivial ?_
      refine z_Ev_fgt [true, true, true, true, false] ?_
      exact z_Ev_eq (c := (4, [some (aR f 1), some (aI mask), some (aI (3 : Int32)), some (aI (4 : Int32)), none], [], (C, D, E))) (c' := (4, [some (aR f 1), some (aI mask), some (aI (if hs mask 3 = true ∧ C f 4 3 < C f 4 3 then 3 else 3)), some (aI (4 : Int32)), none], [], (C, D, E))) (by simp [h1, h2]) K
  · replace h1 := hs_n h1
    refine z_Ev_blk 4 (c' := ((if (0 : Int32) = 0 then 52 else 30), [some (aR f 1), some (aI mask), some (aI (3 : Int32)), some (aI (3 : Int32)), some (aI (0 : Int32))], [], (C, D, E))) rfl trivial ?_
    refine z_Ev_if (by decide) ?_
    refine z_Ev_blk 2 (c' := (4, [some (aR f 1), some (aI mask), some (aI (3 : Int32)), some (aI (4 : Int32)), some (aI (0 : Int32))], [], (C, D, E))) rfl trivial ?_
    refine z_Ev_fgt [true, true, true, true, false] ?_
    exact z_Ev_eq (c := (4, [some (aR f 1), some (aI mask), some (aI (3 : Int32)), some (aI (4 : Int32)), none], [], (C, D, E))) (c' := (4, [some (aR f 1), some (aI mask), some (aI (if hs mask 3 = true ∧ C f 4 3 < C f 4 3 then 3 else 3)), some (aI (4 : Int32)), none], [], (C, D, E))) (by simp [h1]) K
theorem ch_c_0 {xs : Nat → Int32} {L : Nat} {o : z_Rs} {M' : Mem} {kk : Nat} (f : Nat) (mask : Int32) (C : Nat → Nat → Nat → Int32) (D : Nat → Nat → Int32) (E : Nat → Int64) (found : Int32) (hf : fnd found) (K : z_Ev xs L m_X0_firstByMerit (4, [some (aR f 1), some (aI mask), some (aI (chS (fun j => C f 4 j) mask 0 found)), some (aI (1 : Int32)), none], [], (C, D, E)) o M' kk) : z_Ev xs L m_X0_firstByMerit (4, [some (aR f 1), some (aI mask), some (aI found), some (aI (0 : Int32)), none], [], (C, D, E)) o M' kk := by
  rcases hf with rfl | rfl | rfl | rfl | rfl
  · exact ch_c_0_m f mask C D E (by rw [chS_m] at K; exact K)
  · exact ch_c_0_0 f mask C D E (by rw [chS_j _ _ _ _ (by decide)] at K; exact K)
  · exact ch_c_0_1 f mask C D E (by rw [chS_j _ _ _ _ (by decide)] at K; exact K)
  · exact ch_c_0_2 f mask C D E (by rw [chS_j _ _ _ _ (by decide)] at K; exact K)
  · exact ch_c_0_3 f mask C D E (by rw [chS_j _ _ _ _ (by decide)] at K; exact K)
theorem ch_c_1 {xs : Nat → Int32} {L : Nat} {o : z_Rs} {M' : Mem} {kk : Nat} (f : Nat) (mask : Int32) (C : Nat → Nat → Nat → Int32) (D : Nat → Nat → Int32) (E : Nat → Int64) (found : Int32) (hf : fnd found) (K : z_Ev xs L m_X0_firstByMerit (4, [some (aR f 1), some (aI mask), some (aI (chS (fun j => C f 4 j) mask 1 found)), some (aI (2 : Int32)), none], [], (C, D, E)) o M' kk) : z_Ev xs L m_X0_firstByMerit (4, [some (aR f 1), some (aI mask), some (aI found), some (aI (1 : Int32)), none], [], (C, D, E)) o M' kk := by
  rcases hf with rfl | rfl | rfl | rfl | rfl
  · exact ch_c_1_m f mask C D E (by rw [chS_m] at K; exact K)
  · exact ch_c_1_0 f mask C D E (by rw [chS_j _ _ _ _ (by decide)] at K; exact K)
  · exact ch_c_1_1 f mask C D E (by rw [chS_j _ _ _ _ (by decide)] at K; exact K)
  · exact ch_c_1_2 f mask C D E (by rw [chS_j _ _ _ _ (by decide)] at K; exact K)
  · exact ch_c_1_3 f mask C D E (by rw [chS_j _ _ _ _ (by decide)] at K; exact K)
theorem ch_c_2 {xs : Nat → Int32} {L : Nat} {o : z_Rs} {M' : Mem} {kk : Nat} (f : Nat) (mask : Int32) (C : Nat → Nat → Nat → Int32) (D : Nat → Nat → Int32) (E : Nat → Int64) (found : Int32) (hf : fnd found) (K : z_Ev xs L m_X0_firstByMerit (4, [some (aR f 1), some (aI mask), some (aI (chS (fun j => C f 4 j) mask 2 found)), some (aI (3 : Int32)), none], [], (C, D, E)) o M' kk) : z_Ev xs L m_X0_firstByMerit (4, [some (aR f 1), some (aI mask), some (aI found), some (aI (2 : Int32)), none], [], (C, D, E)) o M' kk := by
  rcases hf with rfl | rfl | rfl | rfl | rfl
  · exact ch_c_2_m f mask C D E (by rw [chS_m] at K; exact K)
  · exact ch_c_2_0 f mask C D E (by rw [chS_j _ _ _ _ (by decide)] at K; exact K)
  · exact ch_c_2_1 f mask C D E (by rw [chS_j _ _ _ _ (by decide)] at K; exact K)
  · exact ch_c_2_2 f mask C D E (by rw [chS_j _ _ _ _ (by decide)] at K; exact K)
  · exact ch_c_2_3 f mask C D E (by rw [chS_j _ _ _ _ (by decide)] at K; exact K)
theorem ch_c_3 {xs : Nat → Int32} {L : Nat} {o : z_Rs} {M' : Mem} {kk : Nat} (f : Nat) (mask : Int32) (C : Nat → Nat → Nat → Int32) (D : Nat → Nat → Int32) (E : Nat → Int64) (found : Int32) (hf : fnd found) (K : z_Ev xs L m_X0_firstByMerit (4, [some (aR f 1), some (aI mask), some (aI (chS (fun j => C f 4 j) mask 3 found)), some (aI (4 : Int32)), none], [], (C, D, E)) o M' kk) : z_Ev xs L m_X0_firstByMerit (4, [some (aR f 1), some (aI mask), some (aI found), some (aI (3 : Int32)), none], [], (C, D, E)) o M' kk := by
  rcases hf with rfl | rfl | rfl | rfl | rfl
  · exact ch_c_3_m f mask C D E (by rw [chS_m] at K; exact K)
  · exact ch_c_3_0 f mask C D E (by rw [chS_j _ _ _ _ (by decide)] at K; exact K)
  · exact ch_c_3_1 f mask C D E (by rw [chS_j _ _ _ _ (by decide)] at K; exact K)
  · exact ch_c_3_2 f mask C D E (by rw [chS_j _ _ _ _ (by decide)] at K; exact K)
  · exact ch_c_3_3 f mask C D E (by rw [chS_j _ _ _ _ (by decide)] at K; exact K)
theorem e_firstByMerit {xs : Nat → Int32} {L : Nat} (f : Nat) (mask : Int32) (C : Nat → Nat → Nat → Int32) (D : Nat → Nat → Int32) (E : Nat → Int64) : z_Mt xs L m_X0_firstByMerit [aR f 1, aI mask] (C, D, E) (.inl (some (aI (chF (fun j => C f 4 j) mask)))) (C, D, E) 0 := by
  refine z_Ev_blk 4 (c' := (4, [some (aR f 1), some (aI mask), some (aI (-1 : Int32)), some (aI (0 : Int32)), none], [], (C, D, E))) rfl trivial ?_
  refine ch_c_0 f mask C D E _ fm ?_
  refine ch_c_1 f mask C D E _ (chS_fnd f0 fm) ?_
  refine ch_c_2 f mask C D E _ (chS_fnd f1 (chS_fnd f0 fm)) ?_
  refine ch_c_3 f mask C D E _ (chS_fnd f2 (chS_fnd f1 (chS_fnd f0 fm))) ?_
  refine z_Ev_blk 3 (c' := ((if (4 : Int32) ≤ (4 : Int32) then 58 else 9), [some (aR f 1), some (aI mask), some (aI (chF (fun j => C f 4 j) mask)), some (aI (4 : Int32)), none], [], (C, D, E))) rfl trivial ?_
  refine z_Ev_if (by decide) ?_
  refine z_Ev_blk 1 (c' := (59, [some (aR f 1), some (aI mask), some (aI (chF (fun j => C f 4 j) mask)), some (aI (4 : Int32)), none], [aI (chF (fun j => C f 4 j) mask)], (C, D, E))) rfl trivial ?_
  exact z_Ev_iretE rfl rfl (by rfl) (by rfl)

