/-! PURE: what a sharing tells -/
theorem kI4 {k : Nat} (h : k < 4) : nI k ∈ k4 := by
  rcases (show k = 0 ∨ k = 1 ∨ k = 2 ∨ k = 3 by omega) with e | e | e | e <;> subst e <;> decide
theorem nc4 {k : Nat} (h : k < 4) : (nI k).toNatClampNeg = k := nI_clamp (by omega)
def bI (b : Bool) (x : Int) : Int := bif b then x else 0
def gS (m : Int32) (f : Nat → Int32) : Int := bI (hs m 0) (f 0).toInt + bI (hs m 1) (f 1).toInt + bI (hs m 2) (f 2).toInt + bI (hs m 3) (f 3).toInt
theorem bI_b {b : Bool} {x : Int} {y : Int} (h : 0 ≤ x ∧ x ≤ y) : 0 ≤ bI b x ∧ bI b x ≤ y := by
  cases b
  · exact ⟨Int.le_refl _, by show (0 : Int) ≤ y; omega⟩
  · exact h
theorem sx_I {s : Nat → Int32} {m k : Int32} {j : Nat} : (sx (md g0 s) m k j).toInt = bI (hs m k) (s j).toInt := by
  unfold sx
  cases hs m k <;> rfl
theorem ld0_at {s : Nat → Int32} {m : Int32} {k : Nat} (hk : k < 4) : sLd0 (md g0 s) m z0 k = if hs m (nI k) = true then s (4 + k) else 0 := by
  rcases (show k = 0 ∨ k = 1 ∨ k = 2 ∨ k = 3 by omega) with e | e | e | e <;> subst e <;> rfl
theorem okk_g {s : Nat → Int32} (h : ∀ k, k < 4 → okk s k) {k : Nat} (hk : k < 4) : 50 ≤ (s k).toInt ∧ (s k).toInt ≤ 500 ∧ 0 ≤ (s (4 + k)).toInt ∧ (s (4 + k)).toInt ≤ (s k).toInt ∧ 1 ≤ (s (8 + k)).toInt ∧ (s (8 + k)).toInt ≤ 99 := by
  obtain ⟨a, b, c, -⟩ := h k hk
  exact ⟨a.1, a.2, b.1, b.2, c.1, c.2⟩
theorem sLeft_I {s : Nat → Int32} {A m : Int32} (h : ∀ k, k < 4 → okk s k) (hA : 0 ≤ A.toInt ∧ A.toInt ≤ 1800) : (sLeft (md g0 s) A m).toInt = A.toInt - gS m (fun j => s (4 + j)) ∧ 0 ≤ gS m (fun j => s (4 + j)) ∧ gS m (fun j => s (4 + j)) ≤ 2000 := by
  have a0 := okk_g h (k := 0) (by decide)
  have a1 := okk_g h (k := 1) (by decide)
  have a2 := okk_g h (k := 2) (by decide)
  have a3 := okk_g h (k := 3) (by decide)
  simp only [Nat.reduceAdd, Nat.add_zero] at a0 a1 a2 a3
  unfold sLeft gS
  have e0 := sx_I (s := s) (m := m) (k := 0) (j := 4)
  have e1 := sx_I (s := s) (m := m) (k := 1) (j := 5)
  have e2 := sx_I (s := s) (m := m) (k := 2) (j := 6)
  have e3 := sx_I (s := s) (m := m) (k := 3) (j := 7)
  have b0 := bI_b (b := hs m 0) (x := (s 4).toInt) (y := 500) (by omega)
  have b1 := bI_b (b := hs m 1) (x := (s 5).toInt) (y := 500) (by omega)
  have b2 := bI_b (b := hs m 2) (x := (s 6).toInt) (y := 500) (by omega)
  have b3 := bI_b (b := hs m 3) (x := (s 7).toInt) (y := 500) (by omega)
  generalize sx (md g0 s) m 0 4 = x0 at *
  generalize sx (md g0 s) m 1 5 = x1 at *
  generalize sx (md g0 s) m 2 6 = x2 at *
  generalize sx (md g0 s) m 3 7 = x3 at *
  have d0 : (A - x0).toInt = A.toInt - x0.toInt := i_sub (by omega) (by omega)
  have d1 : (A - x0 - x1).toInt = (A - x0).toInt - x1.toInt := i_sub (by omega) (by omega)
  have d2 : (A - x0 - x1 - x2).toInt = (A - x0 - x1).toInt - x2.toInt := i_sub (by omega) (by omega)
  have d3 : (A - x0 - x1 - x2 - x3).toInt = (A - x0 - x1 - x2).toInt - x3.toInt := i_sub (by omega) (by omega)
  dsimp only [Nat.reduceAdd]
  omega
theorem sCould_I {s : Nat → Int32} {m : Int32} (h : ∀ k, k < 4 → okk s k) : (sCould (md g0 s) m).toInt = gS m s ∧ 0 ≤ gS m s ∧ gS m s ≤ 2000 := by
  have a0 := okk_g h (k := 0) (by decide)
  have a1 := okk_g h (k := 1) (by decide)
  have a2 := okk_g h (k := 2) (by decide)
  have a3 := okk_g h (k := 3) (by decide)
  unfold sCould gS
  have e0 := sx_I (s := s) (m := m) (k := 0) (j := 0)
  have e1 := sx_I (s := s) (m := m) (k := 1) (j := 1)
  have e2 := sx_I (s := s) (m := m) (k := 2) (j := 2)
  have e3 := sx_I (s := s) (m := m) (k := 3) (j := 3)
  have b0 := bI_b (b := hs m 0) (x := (s 0).toInt) (y := 500) (by omega)
  have b1 := bI_b (b := hs m 1) (x := (s 1).toInt) (y := 500) (by omega)
  have b2 := bI_b (b := hs m 2) (x := (s 2).toInt) (y := 500) (by omega)
  have b3 := bI_b (b := hs m 3) (x := (s 3).toInt) (y := 500) (by omega)
  generalize sx (md g0 s) m 0 0 = x0 at *
  generalize sx (md g0 s) m 1 1 = x1 at *
  generalize sx (md g0 s) m 2 2 = x2 at *
  generalize sx (md g0 s) m 3 3 = x3 at *
  have d0 : (0 + x0).toInt = (0 : Int32).toInt + x0.toInt := i_add (by rw [t0]; omega) (by rw [t0]; omega)
  rw [t0] at d0
  have d1 : (0 + x0 + x1).toInt = (0 + x0).toInt + x1.toInt := i_add (by omega) (by omega)
  have d2 : (0 + x0 + x1 + x2).toInt = (0 + x0 + x1).toInt + x2.toInt := i_add (by omega) (by omega)
  have d3 : (0 + x0 + x1 + x2 + x3).toInt = (0 + x0 + x1 + x2).toInt + x3.toInt := i_add (by omega) (by omega)
  omega
theorem popc_4 {m : Int32} (hm : m ∈ m16) : popc m ≤ 4 := by
  have q := List.all_eq_true.mp m16_popc m hm
  exact of_decide_eq_true (Bool.and_eq_true_iff.mp q).1
/-- loads and what is dark -/
theorem sh_loads {s : Nat → Int32} {A m : Int32} (h : ∀ k, k < 4 → okk s k) (hm : m ∈ m16) (hA : 0 ≤ A.toInt ∧ A.toInt ≤ 1800) :
    (∀ k, k < 4 → hs m (nI k) = true → (s (4 + k)).toInt ≤ (shL s A m k).toInt ∧ (shL s A m k).toInt ≤ (s k).toInt) ∧
    (∀ k, k < 4 → hs m (nI k) = false → shL s A m k = 0) ∧
    (∀ k j, k < 4 → j < 4 → hs m (nI k) = true → hs m (nI j) = true → chp (fun i => s (8 + i)) k j → shL s A m j = s (4 + j) ∨ (shL s A m k).toInt = (s k).toInt) ∧
    (0 ≤ (shO s A m 8).toInt ∧ (shO s A m 8).toInt ≤ 1800) ∧
    (0 < (shO s A m 8).toInt → ∀ k, k < 4 → hs m (nI k) = true → (shL s A m k).toInt = (s k).toInt) ∧
    ((A.toInt ≤ gS m (fun j => s (4 + j)) ∧ (shL s A m 0).toInt + (shL s A m 1).toInt + (shL s A m 2).toInt + (shL s A m 3).toInt + (shO s A m 8).toInt = gS m (fun j => s (4 + j)) ∧ (shO s A m 9).toInt = gS m (fun j => s (4 + j)) - A.toInt ∧ shO s A m 8 = 0) ∨
     (gS m (fun j => s (4 + j)) ≤ A.toInt ∧ (shL s A m 0).toInt + (shL s A m 1).toInt + (shL s A m 2).toInt + (shL s A m 3).toInt + (shO s A m 8).toInt = A.toInt ∧ shO s A m 9 = 0)) := by
  obtain ⟨f1, f2, f3⟩ := sLeft_I (m := m) h hA
  have hleft : ∃ w : Int32, (if 0 ≤ sLeft (md g0 s) A m then sLeft (md g0 s) A m else 0) = w ∧ ((A.toInt ≤ gS m (fun j => s (4 + j)) ∧ w.toInt = 0) ∨ (gS m (fun j => s (4 + j)) ≤ A.toInt ∧ w.toInt = A.toInt - gS m (fun j => s (4 + j)))) ∧ 0 ≤ w.toInt ∧ w.toInt ≤ 1800 := by
    refine ⟨_, rfl, ?_⟩
    by_cases e : 0 ≤ sLeft (md g0 s) A m
    · rw [if_pos e]
      have e' : (0 : Int) ≤ _ := Int32.le_iff_toInt_le.mp e
      exact ⟨Or.inr ⟨by omega, by omega⟩, by omega, by omega⟩
    · rw [if_neg e]
      have e' : ¬ (0 : Int) ≤ (sLeft (md g0 s) A m).toInt := fun z => e (Int32.le_iff_toInt_le.mpr z)
      exact ⟨Or.inl ⟨by omega, rfl⟩, by decide, by decide⟩
  obtain ⟨w, hw, w1, w2, w3⟩ := hleft
  have hr : sGv (md g0 s) A m z0 = gv (mG (md g0 s)) (mM (md g0 s)) 4 m w (sLd0 (md g0 s) m z0) := by
    unfold sGv
    rw [hw]
  have q := gv_all (g := mG (md g0 s)) (mer := mM (md g0 s)) 4 m w (sLd0 (md g0 s) m z0) hm (popc_4 hm) w2 (by omega) (fun k hk hh => by
    have hl := k4_lt hk
    have hn : nI k.toNatClampNeg = k := k4_inj (kI4 hl) hk (nc4 hl)
    rw [ld0_at hl, hn, if_pos hh]
    have a := okk_g h hl
    exact ⟨a.2.2.1, a.2.2.2.1, a.2.1⟩)
  have hs4 := gv_sum (g := mG (md g0 s)) (mer := mM (md g0 s)) 4 m w (sLd0 (md g0 s) m z0)
  have hun : ∀ k, k < 4 → hs m (nI k) = false → (gv (mG (md g0 s)) (mM (md g0 s)) 4 m w (sLd0 (md g0 s) m z0)).1 k = 0 := by
    intro k hk hh
    have z := gv_un (g := mG (md g0 s)) (mer := mM (md g0 s)) (kI4 hk) 4 m w (sLd0 (md g0 s) m z0) hm hh
    rw [nc4 hk, ld0_at hk, hh] at z
    exact z
  have e8 : shO s A m 8 = (sGv (md g0 s) A m z0).2 := oa_8
  have e9 : shO s A m 9 = (if 0 ≤ sLeft (md g0 s) A m then 0 else -(sLeft (md g0 s) A m)) := oa_9
  have eL : shL s A m = (sGv (md g0 s) A m z0).1 := rfl
  rw [eL, e8, e9, hr]
  clear eL e8 e9 hr
  generalize gv (mG (md g0 s)) (mM (md g0 s)) 4 m w (sLd0 (md g0 s) m z0) = Y at *
  obtain ⟨q1, q2, q3, q4⟩ := q
  have r1 : ∀ k, k < 4 → hs m (nI k) = true → (s (4 + k)).toInt ≤ (Y.1 k).toInt ∧ (Y.1 k).toInt ≤ (s k).toInt := by
    intro k hk hh
    have z := q1 (nI k) (kI4 hk) hh
    rw [nc4 hk, ld0_at hk, if_pos hh] at z
    exact z
  have r3 : 0 < Y.2.toInt → ∀ k, k < 4 → hs m (nI k) = true → (Y.1 k).toInt = (s k).toInt := by
    intro hp k hk hh
    have z := q3 hp (nI k) (kI4 hk) hh
    rw [nc4 hk] at z
    exact z
  refine ⟨r1, hun, ?_, ⟨q2.1, by omega⟩, r3, ?_⟩
  · intro k j hk hj hhk hhj hc
    have z := q4 (nI k) (nI j) (kI4 hk) (kI4 hj) hhk hhj (by rw [nc4 hk, nc4 hj]; exact hc)
    rw [nc4 hk, nc4 hj, ld0_at hj, if_pos hhj] at z
    exact z
  · have bd : ∀ k, k < 4 → 0 ≤ (Y.1 k).toInt ∧ (Y.1 k).toInt ≤ 500 := by
      intro k hk
      cases hh : hs m (nI k)
      · rw [hun k hk hh]; decide
      · have a := okk_g h hk
        have z := r1 k hk hh
        omega
    have c0 := bd 0 (by decide)
    have c1 := bd 1 (by decide)
    have c2 := bd 2 (by decide)
    have c3 := bd 3 (by decide)
    have lI : ∀ k, k < 4 → (sLd0 (md g0 s) m z0 k).toInt = bI (hs m (nI k)) (s (4 + k)).toInt ∧ 0 ≤ bI (hs m (nI k)) (s (4 + k)).toInt ∧ bI (hs m (nI k)) (s (4 + k)).toInt ≤ 500 := by
      intro k hk
      have a := okk_g h hk
      rw [ld0_at hk]
      refine ⟨?_, bI_b (by omega)⟩
      cases hs m (nI k) <;> rfl
    have l0 := lI 0 (by decide)
    have l1 := lI 1 (by decide)
    have l2 := lI 2 (by decide)
    have l3 := lI 3 (by decide)
    have g1 : gS m (fun j => s (4 + j)) = bI (hs m (nI 0)) (s (4 + 0)).toInt + bI (hs m (nI 1)) (s (4 + 1)).toInt + bI (hs m (nI 2)) (s (4 + 2)).toInt + bI (hs m (nI 3)) (s (4 + 3)).toInt := rfl
    generalize sLd0 (md g0 s) m z0 0 = y0 at *
    generalize sLd0 (md g0 s) m z0 1 = y1 at *
    generalize sLd0 (md g0 s) m z0 2 = y2 at *
    generalize sLd0 (md g0 s) m z0 3 = y3 at *
    have hS := congrArg Int32.toInt hs4
    have s1 : (Y.1 0 + Y.1 1).toInt = (Y.1 0).toInt + (Y.1 1).toInt := i_add (by omega) (by omega)
    have s2 : (Y.1 0 + Y.1 1 + Y.1 2).toInt = (Y.1 0 + Y.1 1).toInt + (Y.1 2).toInt := i_add (by omega) (by omega)
    have s3 : (Y.1 0 + Y.1 1 + Y.1 2 + Y.1 3).toInt = (Y.1 0 + Y.1 1 + Y.1 2).toInt + (Y.1 3).toInt := i_add (by omega) (by omega)
    have s5 : (Y.1 0 + Y.1 1 + Y.1 2 + Y.1 3 + Y.2).toInt = (Y.1 0 + Y.1 1 + Y.1 2 + Y.1 3).toInt + Y.2.toInt := i_add (by omega) (by omega)
    have u1 : (y0 + y1).toInt = y0.toInt + y1.toInt := i_add (by omega) (by omega)
    have u2 : (y0 + y1 + y2).toInt = (y0 + y1).toInt + y2.toInt := i_add (by omega) (by omega)
    have u3 : (y0 + y1 + y2 + y3).toInt = (y0 + y1 + y2).toInt + y3.toInt := i_add (by omega) (by omega)
    have u5 : (y0 + y1 + y2 + y3 + w).toInt = (y0 + y1 + y2 + y3).toInt + w.toInt := i_add (by omega) (by omega)
    by_cases e : 0 ≤ sLeft (md g0 s) A m
    · right
      have e' : (0 : Int) ≤ _ := Int32.le_iff_toInt_le.mp e
      rw [if_pos e]
      exact ⟨by omega, by omega, rfl⟩
    · left
      have e' : ¬ (0 : Int) ≤ (sLeft (md g0 s) A m).toInt := fun z => e (Int32.le_iff_toInt_le.mpr z)
      rw [if_neg e]
      have en : (-(sLeft (md g0 s) A m)).toInt = -(sLeft (md g0 s) A m).toInt := by
        rw [Int32.toInt_neg]
        exact Int.bmod_eq_of_le (by omega) (by omega)
      refine ⟨by omega, by omega, by omega, ?_⟩
      rw [← Int32.toInt_inj]
      show Y.2.toInt = 0
      omega
