/-! PURE: dark, reserve, enough, fuel -/
theorem sh_dark {s : Nat → Int32} {A m : Int32} (h : ∀ k, k < 4 → okk s k) (hm : m ∈ m16) (hA : 0 ≤ A.toInt ∧ A.toInt ≤ 1800) : (gS m s ≤ A.toInt ∧ (shO s A m 8).toInt = A.toInt - gS m s) ∨ (A.toInt ≤ gS m s ∧ (shO s A m 8).toInt = 0) := by
  obtain ⟨q1, q2, -, q4, q5, q6⟩ := sh_loads h hm hA
  have x : ∀ k, k < 4 → bI (hs m (nI k)) (s (4 + k)).toInt ≤ (shL s A m k).toInt ∧ (shL s A m k).toInt ≤ bI (hs m (nI k)) (s k).toInt ∧ (0 < (shO s A m 8).toInt → (shL s A m k).toInt = bI (hs m (nI k)) (s k).toInt) := by
    intro k hk
    cases hh : hs m (nI k)
    · rw [q2 k hk hh]
      exact ⟨Int.le_refl _, Int.le_refl _, fun _ => rfl⟩
    · exact ⟨(q1 k hk hh).1, (q1 k hk hh).2, fun hp => q5 hp k hk hh⟩
  have g1 : gS m (fun j => s (4 + j)) = bI (hs m (nI 0)) (s (4 + 0)).toInt + bI (hs m (nI 1)) (s (4 + 1)).toInt + bI (hs m (nI 2)) (s (4 + 2)).toInt + bI (hs m (nI 3)) (s (4 + 3)).toInt := rfl
  have g2 : gS m s = bI (hs m (nI 0)) (s 0).toInt + bI (hs m (nI 1)) (s 1).toInt + bI (hs m (nI 2)) (s 2).toInt + bI (hs m (nI 3)) (s 3).toInt := rfl
  have x0 := x 0 (by decide)
  have x1 := x 1 (by decide)
  have x2 := x 2 (by decide)
  have x3 := x 3 (by decide)
  rcases q6 with ⟨a, b, c, d⟩ | ⟨a, b, c⟩
  · right
    rw [d] at b ⊢
    rw [t0] at b ⊢
    exact ⟨by omega, rfl⟩
  · by_cases hp : 0 < (shO s A m 8).toInt
    · left
      have y0 := x0.2.2 hp
      have y1 := x1.2.2 hp
      have y2 := x2.2.2 hp
      have y3 := x3.2.2 hp
      exact ⟨by omega, by omega⟩
    · right
      exact ⟨by omega, by omega⟩
/-- what is dark, in the law's words -/
theorem sh_darkL {s : Nat → Int32} {A m C : Int32} (h : ∀ k, k < 4 → okk s k) (hm : m ∈ m16) (hA : 0 ≤ A.toInt ∧ A.toInt ≤ 1800) (hC : C.toInt = gS m s) : shO s A m 8 = if A ≤ C then 0 else A - C := by
  rw [← Int32.toInt_inj]
  have hb := (sCould_I (m := m) h).2
  have d : (A - C).toInt = A.toInt - C.toInt := i_sub (by omega) (by omega)
  by_cases e : A ≤ C
  · have e' := Int32.le_iff_toInt_le.mp e
    rw [if_pos e, t0]
    rcases sh_dark h hm hA with ⟨a, b⟩ | ⟨a, b⟩ <;> omega
  · have e' := mt Int32.le_iff_toInt_le.mpr e
    rw [if_neg e]
    rcases sh_dark h hm hA with ⟨a, b⟩ | ⟨a, b⟩ <;> omega
theorem sh_bd {s : Nat → Int32} {A m : Int32} (h : ∀ k, k < 4 → okk s k) (hm : m ∈ m16) (hA : 0 ≤ A.toInt ∧ A.toInt ≤ 1800) {k : Nat} (hk : k < 4) : 0 ≤ (shL s A m k).toInt ∧ (shL s A m k).toInt ≤ 500 := by
  obtain ⟨q1, q2, -, -, -, -⟩ := sh_loads h hm hA
  have a := okk_g h hk
  cases hh : hs m (nI k)
  · rw [q2 k hk hh]; decide
  · have z := q1 k hk hh
    omega
theorem sh_res {s : Nat → Int32} {A m : Int32} (h : ∀ k, k < 4 → okk s k) (hm : m ∈ m16) (hA : 0 ≤ A.toInt ∧ A.toInt ≤ 1800) : (shO s A m 10).toInt = gS m s - (shL s A m 0).toInt - (shL s A m 1).toInt - (shL s A m 2).toInt - (shL s A m 3).toInt := by
  have e10 : shO s A m 10 = sRes (sCould (md g0 s) m) (shL s A m) := oa_10
  rw [e10]
  unfold sRes
  obtain ⟨c1, c2, c3⟩ := sCould_I (m := m) h
  have b0 := sh_bd h hm hA (k := 0) (by decide)
  have b1 := sh_bd h hm hA (k := 1) (by decide)
  have b2 := sh_bd h hm hA (k := 2) (by decide)
  have b3 := sh_bd h hm hA (k := 3) (by decide)
  generalize shL s A m 0 = x0 at *
  generalize shL s A m 1 = x1 at *
  generalize shL s A m 2 = x2 at *
  generalize shL s A m 3 = x3 at *
  generalize sCould (md g0 s) m = c at *
  have d0 : (c - x0).toInt = c.toInt - x0.toInt := i_sub (by omega) (by omega)
  have d1 : (c - x0 - x1).toInt = (c - x0).toInt - x1.toInt := i_sub (by omega) (by omega)
  have d2 : (c - x0 - x1 - x2).toInt = (c - x0 - x1).toInt - x2.toInt := i_sub (by omega) (by omega)
  have d3 : (c - x0 - x1 - x2 - x3).toInt = (c - x0 - x1 - x2).toInt - x3.toInt := i_sub (by omega) (by omega)
  omega
theorem sh_enN {s : Nat → Int32} {A m : Int32} : ¬ shO s A m 11 = 0 ↔ (shO s A m 8 = 0 ∧ ∀ k, k < 4 → hs m (nI k) = true → ¬ sCould (md g0 s) m - s k < A) := by
  have e11 : shO s A m 11 = sEn (md g0 s) A m (sCould (md g0 s) m) (sGv (md g0 s) A m z0).2 := oa_11
  have e8 : shO s A m 8 = (sGv (md g0 s) A m z0).2 := oa_8
  rw [e11, e8, sEn_iff]
  constructor
  · intro z
    obtain ⟨a, b0, b1, b2, b3⟩ := f_bQ z
    refine ⟨a, fun k hk => ?_⟩
    rcases (show k = 0 ∨ k = 1 ∨ k = 2 ∨ k = 3 by omega) with e | e | e | e <;> subst e
    · exact b0
    · exact b1
    · exact b2
    · exact b3
  · rintro ⟨a, b⟩
    exact f_bP ⟨a, b 0 (by decide), b 1 (by decide), b 2 (by decide), b 3 (by decide)⟩
theorem fuel_1 {a b : Int32} (ha : 1 ≤ a.toInt ∧ a.toInt ≤ 99) (hb : 0 ≤ b.toInt ∧ b.toInt ≤ 500) : 0 ≤ (a * b / 10).toInt ∧ (a * b / 10).toInt ≤ 4950 := by
  have h1 : 0 ≤ a.toInt * b.toInt := Int.mul_nonneg (by omega) (by omega)
  have h2 : a.toInt * b.toInt ≤ 99 * 500 := Int.mul_le_mul ha.2 hb.2 hb.1 (by decide)
  have hm : (a * b).toInt = a.toInt * b.toInt := by
    rw [Int32.toInt_mul]
    exact Int.bmod_eq_of_le (by omega) (by omega)
  have t10 : (10 : Int32).toInt = 10 := rfl
  have hd : (a * b / 10).toInt = a.toInt * b.toInt / 10 := by
    rw [Int32.toInt_div, hm, t10, Int.tdiv_eq_ediv_of_nonneg h1]
    exact Int.bmod_eq_of_le (by omega) (by omega)
  rw [hd]
  omega
theorem sh_fuel {s : Nat → Int32} {A m : Int32} (h : ∀ k, k < 4 → okk s k) (hm : m ∈ m16) (hA : 0 ≤ A.toInt ∧ A.toInt ≤ 1800) : 0 ≤ (shO s A m 12).toInt := by
  have e12 : shO s A m 12 = sFu (md g0 s) (shL s A m) := oa_12
  rw [e12]
  have f0 := fuel_1 (a := s 8) (b := shL s A m 0) ((okk_g h (k := 0) (by decide)).2.2.2.2) (sh_bd h hm hA (by decide))
  have f1 := fuel_1 (a := s 9) (b := shL s A m 1) ((okk_g h (k := 1) (by decide)).2.2.2.2) (sh_bd h hm hA (by decide))
  have f2 := fuel_1 (a := s 10) (b := shL s A m 2) ((okk_g h (k := 2) (by decide)).2.2.2.2) (sh_bd h hm hA (by decide))
  have f3 := fuel_1 (a := s 11) (b := shL s A m 3) ((okk_g h (k := 3) (by decide)).2.2.2.2) (sh_bd h hm hA (by decide))
  show 0 ≤ (0 + s 8 * shL s A m 0 / 10 + s 9 * shL s A m 1 / 10 + s 10 * shL s A m 2 / 10 + s 11 * shL s A m 3 / 10).toInt
  generalize s 8 * shL s A m 0 / 10 = y0 at *
  generalize s 9 * shL s A m 1 / 10 = y1 at *
  generalize s 10 * shL s A m 2 / 10 = y2 at *
  generalize s 11 * shL s A m 3 / 10 = y3 at *
  have d0 : (0 + y0).toInt = (0 : Int32).toInt + y0.toInt := i_add (by rw [t0]; omega) (by rw [t0]; omega)
  rw [t0] at d0
  have d1 : (0 + y0 + y1).toInt = (0 + y0).toInt + y1.toInt := i_add (by omega) (by omega)
  have d2 : (0 + y0 + y1 + y2).toInt = (0 + y0 + y1).toInt + y2.toInt := i_add (by omega) (by omega)
  have d3 : (0 + y0 + y1 + y2 + y3).toInt = (0 + y0 + y1 + y2).toInt + y3.toInt := i_add (by omega) (by omega)
  omega
/-- what no set can bear is dark: then nothing is burned, in reserve, or enough -/
theorem sh_row {s : Nat → Int32} {A m : Int32} (h : ∀ k, k < 4 → okk s k) (hm : m ∈ m16) (hA : 0 ≤ A.toInt ∧ A.toInt ≤ 1800) : shO s A m 8 = 0 ∨ (shO s A m 11 = 0 ∧ shO s A m 9 = 0 ∧ shO s A m 10 = 0) := by
  by_cases e : shO s A m 8 = 0
  · exact Or.inl e
  · right
    obtain ⟨q1, q2, -, q4, q5, q6⟩ := sh_loads h hm hA
    have hp : 0 < (shO s A m 8).toInt := by
      have : (shO s A m 8).toInt ≠ 0 := fun z => e (Int32.toInt_inj.mp z)
      omega
    refine ⟨?_, ?_, ?_⟩
    · by_cases z : shO s A m 11 = 0
      · exact z
      · exact absurd (sh_enN.mp z).1 e
    · rcases q6 with ⟨-, -, -, d⟩ | ⟨-, -, c⟩
      · exact absurd d e
      · exact c
    · have x : ∀ k, k < 4 → (shL s A m k).toInt = bI (hs m (nI k)) (s k).toInt := by
        intro k hk
        cases hh : hs m (nI k)
        · rw [q2 k hk hh]; rfl
        · exact q5 hp k hk hh
      have g2 : gS m s = bI (hs m (nI 0)) (s 0).toInt + bI (hs m (nI 1)) (s 1).toInt + bI (hs m (nI 2)) (s 2).toInt + bI (hs m (nI 3)) (s 3).toInt := rfl
      rw [← Int32.toInt_inj, sh_res h hm hA, t0, x 0 (by decide), x 1 (by decide), x 2 (by decide), x 3 (by decide), g2]
      omega
