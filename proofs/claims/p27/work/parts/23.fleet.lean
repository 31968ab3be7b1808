/-! THE CLASS: Fleet -/
theorem i_sub {a b : Int32} (h1 : -2147483648 ≤ a.toInt - b.toInt) (h2 : a.toInt - b.toInt < 2147483648) : (a - b).toInt = a.toInt - b.toInt := by
  rw [Int32.toInt_sub]
  exact Int.bmod_eq_of_le (by omega) (by omega)
theorem i_add {a b : Int32} (h1 : -2147483648 ≤ a.toInt + b.toInt) (h2 : a.toInt + b.toInt < 2147483648) : (a + b).toInt = a.toInt + b.toInt := by
  rw [Int32.toInt_add]
  exact Int.bmod_eq_of_le (by omega) (by omega)
theorem i_lo (a : Int32) : -2147483648 ≤ a.toInt := Int32.le_toInt a
theorem i_hi (a : Int32) : a.toInt < 2147483648 := Int32.toInt_lt a
theorem t0 : (0 : Int32).toInt = 0 := rfl
theorem t1 : (1 : Int32).toInt = 1 := rfl
theorem wu_A {s : Nat → Int32} {i j : Nat} (h1 : s i = 1) (hv : 0 < s j) (h2 : ¬ 0 < s j - 1) : upd (upd (upd s j (s j - 1)) j 0) i 2 = wuS s i j := by
  have e : s j - 1 = 0 := by
    have a1 := Int32.lt_iff_toInt_lt.mp hv
    have a2 : ¬ (0 : Int32).toInt < (s j - 1).toInt := fun q => h2 (Int32.lt_iff_toInt_lt.mpr q)
    have b1 := i_hi (s j)
    have e3 := i_sub (a := s j) (b := 1) (by rw [t1]; rw [t0] at a1; omega) (by rw [t1]; omega)
    exact Int32.toInt_inj.mp (by rw [t0, t1] at *; omega)
  rw [upd_same]
  unfold wuS
  rw [if_pos h1, e, if_pos rfl]
theorem wu_B {s : Nat → Int32} {i j : Nat} (hij : i ≠ j) (h1 : s i = 1) (h2 : 0 < s j - 1) : upd s j (s j - 1) = wuS s i j := by
  unfold wuS
  rw [if_pos h1, if_neg (fun q => by rw [q] at h2; exact absurd h2 (by decide))]
  funext k
  unfold upd
  by_cases h : k = i
  · subst h; rw [if_neg hij, if_pos rfl, h1]
  · rw [if_neg h]
theorem wu_C {s : Nat → Int32} {i j : Nat} (h1 : ¬ s i = 1) : s = wuS s i j := by
  unfold wuS
  rw [if_neg h1]

theorem c_begin_0_0 {xs : Nat → Int32} {L : Nat}  (n t : Nat → Int32) (v : Nat → Nat → Int32) (ld sh o cd pl ka kb kc : Nat → Int32) (D : Nat → Nat → Int32) (E : Nat → Int64)  : z_Mt xs L m_X0_begin [aR 0 1, aI (0 : Int32)] (cm n t v ld sh o cd pl ka kb kc, D, E) (.inl (none)) (cm (upd (upd n 20 (n 12)) 16 (if n 12 = 0 then 2 else 1)) t v ld sh o cd pl ka kb kc, D, E) 0 := by
  refine z_Ev_blk 8 (c' := (12, [some (aR 0 1), some (aI (0 : Int32))], [], (up3 (cm n t v ld sh o cd pl ka kb kc) 0 7 0 (n 12), D, E))) rfl ⟨rfl, rfl, trivial⟩ ?_
  rw [cmn_7_0]
  refine z_Ev_blk 8 (c' := ((if (n 12) = 0 then 26 else 30), [some (aR 0 1), some (aI (0 : Int32))], [aI (0 : Int32), aR 0 6], (cm (upd n 20 (n 12)) t v ld sh o cd pl ka kb kc, D, E))) rfl ⟨rfl, trivial⟩ ?_
  refine z_Ev_ite (fun h1 => ?_) (fun h1 => ?_)
  · skip
    refine z_Ev_blk 3 (c' := (32, [some (aR 0 1), some (aI (0 : Int32))], [], (up3 (cm (upd n 20 (n 12)) t v ld sh o cd pl ka kb kc) 0 6 0 (2 : Int32), D, E))) rfl ⟨rfl, trivial⟩ ?_
    rw [cmn_6_0]
    exact z_Ev_vretE rfl rfl (by first | rfl | simp [*])
  · skip
    refine z_Ev_blk 2 (c' := (32, [some (aR 0 1), some (aI (0 : Int32))], [], (up3 (cm (upd n 20 (n 12)) t v ld sh o cd pl ka kb kc) 0 6 0 (1 : Int32), D, E))) rfl ⟨rfl, trivial⟩ ?_
    rw [cmn_6_0]
    exact z_Ev_vretE rfl rfl (by first | rfl | simp [*])
theorem c_become_0_0 {xs : Nat → Int32} {L : Nat} (w : Int32) (n t : Nat → Int32) (v : Nat → Nat → Int32) (ld sh o cd pl ka kb kc : Nat → Int32) (D : Nat → Nat → Int32) (E : Nat → Int64)  : z_Mt xs L m_X0_become [aR 0 1, aI (0 : Int32), aI w] (cm n t v ld sh o cd pl ka kb kc, D, E) (.inl (none)) (cm (upd (upd n 20 0) 16 w) t v ld sh o cd pl ka kb kc, D, E) 0 := by
  refine z_Ev_blk 5 (c' := (7, [some (aR 0 1), some (aI (0 : Int32)), some (aI w)], [], (up3 (cm n t v ld sh o cd pl ka kb kc) 0 7 0 (0 : Int32), D, E))) rfl ⟨rfl, trivial⟩ ?_
  rw [cmn_7_0]
  refine z_Ev_blk 5 (c' := (14, [some (aR 0 1), some (aI (0 : Int32)), some (aI w)], [], (up3 (cm (upd n 20 (0 : Int32)) t v ld sh o cd pl ka kb kc) 0 6 0 w, D, E))) rfl ⟨rfl, trivial⟩ ?_
  rw [cmn_6_0]
  exact z_Ev_vretE rfl rfl (by first | rfl | simp [*])
theorem c_isInUse_0 {xs : Nat → Int32} {L : Nat}  (n t : Nat → Int32) (v : Nat → Nat → Int32) (ld sh o cd pl ka kb kc : Nat → Int32) (D : Nat → Nat → Int32) (E : Nat → Int64)  : z_Mt xs L m_X0_isInUse [aR 0 1, aI (0 : Int32)] (cm n t v ld sh o cd pl ka kb kc, D, E) (.inl (some (aI (f_b (n 16 = 1 ∨ n 16 = 2))))) (cm n t v ld sh o cd pl ka kb kc, D, E) 0 := by
  refine z_Ev_blk 6 (c' := ((if (n 16) = (1 : Int32) then 20 else 10), [some (aR 0 1), some (aI (0 : Int32))], [], (cm n t v ld sh o cd pl ka kb kc, D, E))) rfl ⟨rfl, trivial⟩ ?_
  refine z_Ev_ite (fun h1 => ?_) (fun h1 => ?_)
  · skip
    refine z_Ev_blk 2 (c' := (25, [some (aR 0 1), some (aI (0 : Int32))], [aI (1 : Int32)], (cm n t v ld sh o cd pl ka kb kc, D, E))) rfl trivial ?_
    exact z_Ev_zretE rfl rfl (rfl) (by first | (refine f_b1 ?_; simp [*]; done) | (refine f_b0 ?_; simp [*]; done)) (by first | rfl | simp [*])
  · skip
    refine z_Ev_blk 6 (c' := ((if (n 16) = (2 : Int32) then 20 else 24), [some (aR 0 1), some (aI (0 : Int32))], [], (cm n t v ld sh o cd pl ka kb kc, D, E))) rfl ⟨rfl, trivial⟩ ?_
    refine z_Ev_ite (fun h2 => ?_) (fun h2 => ?_)
    · skip
      refine z_Ev_blk 2 (c' := (25, [some (aR 0 1), some (aI (0 : Int32))], [aI (1 : Int32)], (cm n t v ld sh o cd pl ka kb kc, D, E))) rfl trivial ?_
      exact z_Ev_zretE rfl rfl (rfl) (by first | (refine f_b1 ?_; simp [*]; done) | (refine f_b0 ?_; simp [*]; done)) (by first | rfl | simp [*])
    · skip
      refine z_Ev_blk 1 (c' := (25, [some (aR 0 1), some (aI (0 : Int32))], [aI (0 : Int32)], (cm n t v ld sh o cd pl ka kb kc, D, E))) rfl trivial ?_
      exact z_Ev_zretE rfl rfl (rfl) (by first | (refine f_b1 ?_; simp [*]; done) | (refine f_b0 ?_; simp [*]; done)) (by first | rfl | simp [*])
theorem c_begin_0_1 {xs : Nat → Int32} {L : Nat}  (n t : Nat → Int32) (v : Nat → Nat → Int32) (ld sh o cd pl ka kb kc : Nat → Int32) (D : Nat → Nat → Int32) (E : Nat → Int64)  : z_Mt xs L m_X0_begin [aR 0 1, aI (1 : Int32)] (cm n t v ld sh o cd pl ka kb kc, D, E) (.inl (none)) (cm (upd (upd n 21 (n 13)) 17 (if n 13 = 0 then 2 else 1)) t v ld sh o cd pl ka kb kc, D, E) 0 := by
  refine z_Ev_blk 8 (c' := (12, [some (aR 0 1), some (aI (1 : Int32))], [], (up3 (cm n t v ld sh o cd pl ka kb kc) 0 7 1 (n 13), D, E))) rfl ⟨rfl, rfl, trivial⟩ ?_
  rw [cmn_7_1]
  refine z_Ev_blk 8 (c' := ((if (n 13) = 0 then 26 else 30), [some (aR 0 1), some (aI (1 : Int32))], [aI (1 : Int32), aR 0 6], (cm (upd n 21 (n 13)) t v ld sh o cd pl ka kb kc, D, E))) rfl ⟨rfl, trivial⟩ ?_
  refine z_Ev_ite (fun h1 => ?_) (fun h1 => ?_)
  · skip
    refine z_Ev_blk 3 (c' := (32, [some (aR 0 1), some (aI (1 : Int32))], [], (up3 (cm (upd n 21 (n 13)) t v ld sh o cd pl ka kb kc) 0 6 1 (2 : Int32), D, E))) rfl ⟨rfl, trivial⟩ ?_
    rw [cmn_6_1]
    exact z_Ev_vretE rfl rfl (by first | rfl | simp [*])
  · skip
    refine z_Ev_blk 2 (c' := (32, [some (aR 0 1), some (aI (1 : Int32))], [], (up3 (cm (upd n 21 (n 13)) t v ld sh o cd pl ka kb kc) 0 6 1 (1 : Int32), D, E))) rfl ⟨rfl, trivial⟩ ?_
    rw [cmn_6_1]
    exact z_Ev_vretE rfl rfl (by first | rfl | simp [*])
theorem c_become_0_1 {xs : Nat → Int32} {L : Nat} (w : Int32) (n t : Nat → Int32) (v : Nat → Nat → Int32) (ld sh o cd pl ka kb kc : Nat → Int32) (D : Nat → Nat → Int32) (E : Nat → Int64)  : z_Mt xs L m_X0_become [aR 0 1, aI (1 : Int32), aI w] (cm n t v ld sh o cd pl ka kb kc, D, E) (.inl (none)) (cm (upd (upd n 21 0) 17 w) t v ld sh o cd pl ka kb kc, D, E) 0 := by
  refine z_Ev_blk 5 (c' := (7, [some (aR 0 1), some (aI (1 : Int32)), some (aI w)], [], (up3 (cm n t v ld sh o cd pl ka kb kc) 0 7 1 (0 : Int32), D, E))) rfl ⟨rfl, trivial⟩ ?_
  rw [cmn_7_1]
  refine z_Ev_blk 5 (c' := (14, [some (aR 0 1), some (aI (1 : Int32)), some (aI w)], [], (up3 (cm (upd n 21 (0 : Int32)) t v ld sh o cd pl ka kb kc) 0 6 1 w, D, E))) rfl ⟨rfl, trivial⟩ ?_
  rw [cmn_6_1]
  exact z_Ev_vretE rfl rfl (by first | rfl | simp [*])
theorem c_isInUse_1 {xs : Nat → Int32} {L : Nat}  (n t : Nat → Int32) (v : Nat → Nat → Int32) (ld sh o cd pl ka kb kc : Nat → Int32) (D : Nat → Nat → Int32) (E : Nat → Int64)  : z_Mt xs L m_X0_isInUse [aR 0 1, aI (1 : Int32)] (cm n t v ld sh o cd pl ka kb kc, D, E) (.inl (some (aI (f_b (n 17 = 1 ∨ n 17 = 2))))) (cm n t v ld sh o cd pl ka kb kc, D, E) 0 := by
  refine z_Ev_blk 6 (c' := ((if (n 17) = (1 : Int32) then 20 else 10), [some (aR 0 1), some (aI (1 : Int32))], [], (cm n t v ld sh o cd pl ka kb kc, D, E))) rfl ⟨rfl, trivial⟩ ?_
  refine z_Ev_ite (fun h1 => ?_) (fun h1 => ?_)
  · skip
    refine z_Ev_blk 2 (c' := (25, [some (aR 0 1), some (aI (1 : Int32))], [aI (1 : Int32)], (cm n t v ld sh o cd pl ka kb kc, D, E))) rfl trivial ?_
    exact z_Ev_zretE rfl rfl (rfl) (by first | (refine f_b1 ?_; simp [*]; done) | (refine f_b0 ?_; simp [*]; done)) (by first | rfl | simp [*])
  · skip
    refine z_Ev_blk 6 (c' := ((if (n 17) = (2 : Int32) then 20 else 24), [some (aR 0 1), some (aI (1 : Int32))], [], (cm n t v ld sh o cd pl ka kb kc, D, E))) rfl ⟨rfl, trivial⟩ ?_
    refine z_Ev_ite (fun h2 => ?_) (fun h2 => ?_)
    · skip
      refine z_Ev_blk 2 (c' := (25, [some (aR 0 1), some (aI (1 : Int32))], [aI (1 : Int32)], (cm n t v ld sh o cd pl ka kb kc, D, E))) rfl trivial ?_
      exact z_Ev_zretE rfl rfl (rfl) (by first | (refine f_b1 ?_; simp [*]; done) | (refine f_b0 ?_; simp [*]; done)) (by first | rfl | simp [*])
    · skip
      refine z_Ev_blk 1 (c' := (25, [some (aR 0 1), some (aI (1 : Int32))], [aI (0 : Int32)], (cm n t v ld sh o cd pl ka kb kc, D, E))) rfl trivial ?_
      exact z_Ev_zretE rfl rfl (rfl) (by first | (refine f_b1 ?_; simp [*]; done) | (refine f_b0 ?_; simp [*]; done)) (by first | rfl | simp [*])
theorem c_begin_0_2 {xs : Nat → Int32} {L : Nat}  (n t : Nat → Int32) (v : Nat → Nat → Int32) (ld sh o cd pl ka kb kc : Nat → Int32) (D : Nat → Nat → Int32) (E : Nat → Int64)  : z_Mt xs L m_X0_begin [aR 0 1, aI (2 : Int32)] (cm n t v ld sh o cd pl ka kb kc, D, E) (.inl (none)) (cm (upd (upd n 22 (n 14)) 18 (if n 14 = 0 then 2 else 1)) t v ld sh o cd pl ka kb kc, D, E) 0 := by
  refine z_Ev_blk 8 (c' := (12, [some (aR 0 1), some (aI (2 : Int32))], [], (up3 (cm n t v ld sh o cd pl ka kb kc) 0 7 2 (n 14), D, E))) rfl ⟨rfl, rfl, trivial⟩ ?_
  rw [cmn_7_2]
  refine z_Ev_blk 8 (c' := ((if (n 14) = 0 then 26 else 30), [some (aR 0 1), some (aI (2 : Int32))], [aI (2 : Int32), aR 0 6], (cm (upd n 22 (n 14)) t v ld sh o cd pl ka kb kc, D, E))) rfl ⟨rfl, trivial⟩ ?_
  refine z_Ev_ite (fun h1 => ?_) (fun h1 => ?_)
  · skip
    refine z_Ev_blk 3 (c' := (32, [some (aR 0 1), some (aI (2 : Int32))], [], (up3 (cm (upd n 22 (n 14)) t v ld sh o cd pl ka kb kc) 0 6 2 (2 : Int32), D, E))) rfl ⟨rfl, trivial⟩ ?_
    rw [cmn_6_2]
    exact z_Ev_vretE rfl rfl (by first | rfl | simp [*])
  · skip
    refine z_Ev_blk 2 (c' := (32, [some (aR 0 1), some (aI (2 : Int32))], [], (up3 (cm (upd n 22 (n 14)) t v ld sh o cd pl ka kb kc) 0 6 2 (1 : Int32), D, E))) rfl ⟨rfl, trivial⟩ ?_
    rw [cmn_6_2]
    exact z_Ev_vretE rfl rfl (by first | rfl | simp [*])
theorem c_become_0_2 {xs : Nat → Int32} {L : Nat} (w : Int32) (n t : Nat → Int32) (v : Nat → Nat → Int32) (ld sh o cd pl ka kb kc : Nat → Int32) (D : Nat → Nat → Int32) (E : Nat → Int64)  : z_Mt xs L m_X0_become [aR 0 1, aI (2 : Int32), aI w] (cm n t v ld sh o cd pl ka kb kc, D, E) (.inl (none)) (cm (upd (upd n 22 0) 18 w) t v ld sh o cd pl ka kb kc, D, E) 0 := by
  refine z_Ev_blk 5 (c' := (7, [some (aR 0 1), some (aI (2 : Int32)), some (aI w)], [], (up3 (cm n t v ld sh o cd pl ka kb kc) 0 7 2 (0 : Int32), D, E))) rfl ⟨rfl, trivial⟩ ?_
  rw [cmn_7_2]
  refine z_Ev_blk 5 (c' := (14, [some (aR 0 1), some (aI (2 : Int32)), some (aI w)], [], (up3 (cm (upd n 22 (0 : Int32)) t v ld sh o cd pl ka kb kc) 0 6 2 w, D, E))) rfl ⟨rfl, trivial⟩ ?_
  rw [cmn_6_2]
  exact z_Ev_vretE rfl rfl (by first | rfl | simp [*])
theorem c_isInUse_2 {xs : Nat → Int32} {L : Nat}  (n t : Nat → Int32) (v : Nat → Nat → Int32) (ld sh o cd pl ka kb kc : Nat → Int32) (D : Nat → Nat → Int32) (E : Nat → Int64)  : z_Mt xs L m_X0_isInUse [aR 0 1, aI (2 : Int32)] (cm n t v ld sh o cd pl ka kb kc, D, E) (.inl (some (aI (f_b (n 18 = 1 ∨ n 18 = 2))))) (cm n t v ld sh o cd pl ka kb kc, D, E) 0 := by
  refine z_Ev_blk 6 (c' := ((if (n 18) = (1 : Int32) then 20 else 10), [some (aR 0 1), some (aI (2 : Int32))], [], (cm n t v ld sh o cd pl ka kb kc, D, E))) rfl ⟨rfl, trivial⟩ ?_
  refine z_Ev_ite (fun h1 => ?_) (fun h1 => ?_)
  · skip
    refine z_Ev_blk 2 (c' := (25, [some (aR 0 1), some (aI (2 : Int32))], [aI (1 : Int32)], (cm n t v ld sh o cd pl ka kb kc, D, E))) rfl trivial ?_
    exact z_Ev_zretE rfl rfl (rfl) (by first | (refine f_b1 ?_; simp [*]; done) | (refine f_b0 ?_; simp [*]; done)) (by first | rfl | simp [*])
  · skip
    refine z_Ev_blk 6 (c' := ((if (n 18) = (2 : Int32) then 20 else 24), [some (aR 0 1), some (aI (2 : Int32))], [], (cm n t v ld sh o cd pl ka kb kc, D, E))) rfl ⟨rfl, trivial⟩ ?_
    refine z_Ev_ite (fun h2 => ?_) (fun h2 => ?_)
    · skip
      refine z_Ev_blk 2 (c' := (25, [some (aR 0 1), some (aI (2 : Int32))], [aI (1 : Int32)], (cm n t v ld sh o cd pl ka kb kc, D, E))) rfl trivial ?_
      exact z_Ev_zretE rfl rfl (rfl) (by first | (refine f_b1 ?_; simp [*]; done) | (refine f_b0 ?_; simp [*]; done)) (by first | rfl | simp [*])
    · skip
      refine z_Ev_blk 1 (c' := (25, [some (aR 0 1), some (aI (2 : Int32))], [aI (0 : Int32)], (cm n t v ld sh o cd pl ka kb kc, D, E))) rfl trivial ?_
      exact z_Ev_zretE rfl rfl (rfl) (by first | (refine f_b1 ?_; simp [*]; done) | (refine f_b0 ?_; simp [*]; done)) (by first | rfl | simp [*])
theorem c_begin_0_3 {xs : Nat → Int32} {L : Nat}  (n t : Nat → Int32) (v : Nat → Nat → Int32) (ld sh o cd pl ka kb kc : Nat → Int32) (D : Nat → Nat → Int32) (E : Nat → Int64)  : z_Mt xs L m_X0_begin [aR 0 1, aI (3 : Int32)] (cm n t v ld sh o cd pl ka kb kc, D, E) (.inl (none)) (cm (upd (upd n 23 (n 15)) 19 (if n 15 = 0 then 2 else 1)) t v ld sh o cd pl ka kb kc, D, E) 0 := by
  refine z_Ev_blk 8 (c' := (12, [some (aR 0 1), some (aI (3 : Int32))], [], (up3 (cm n t v ld sh o cd pl ka kb kc) 0 7 3 (n 15), D, E))) rfl ⟨rfl, rfl, trivial⟩ ?_
  rw [cmn_7_3]
  refine z_Ev_blk 8 (c' := ((if (n 15) = 0 then 26 else 30), [some (aR 0 1), some (aI (3 : Int32))], [aI (3 : Int32), aR 0 6], (cm (upd n 23 (n 15)) t v ld sh o cd pl ka kb kc, D, E))) rfl ⟨rfl, trivial⟩ ?_
  refine z_Ev_ite (fun h1 => ?_) (fun h1 => ?_)
  · skip
    refine z_Ev_blk 3 (c' := (32, [some (aR 0 1), some (aI (3 : Int32))], [], (up3 (cm (upd n 23 (n 15)) t v ld sh o cd pl ka kb kc) 0 6 3 (2 : Int32), D, E))) rfl ⟨rfl, trivial⟩ ?_
    rw [cmn_6_3]
    exact z_Ev_vretE rfl rfl (by first | rfl | simp [*])
  · skip
    refine z_Ev_blk 2 (c' := (32, [some (aR 0 1), some (aI (3 : Int32))], [], (up3 (cm (upd n 23 (n 15)) t v ld sh o cd pl ka kb kc) 0 6 3 (1 : Int32), D, E))) rfl ⟨rfl, trivial⟩ ?_
    rw [cmn_6_3]
    exact z_Ev_vretE rfl rfl (by first | rfl | simp [*])
theorem c_become_0_3 {xs : Nat → Int32} {L : Nat} (w : Int32) (n t : Nat → Int32) (v : Nat → Nat → Int32) (ld sh o cd pl ka kb kc : Nat → Int32) (D : Nat → Nat → Int32) (E : Nat → Int64)  : z_Mt xs L m_X0_become [aR 0 1, aI (3 : Int32), aI w] (cm n t v ld sh o cd pl ka kb kc, D, E) (.inl (none)) (cm (upd (upd n 23 0) 19 w) t v ld sh o cd pl ka kb kc, D, E) 0 := by
  refine z_Ev_blk 5 (c' := (7, [some (aR 0 1), some (aI (3 : Int32)), some (aI w)], [], (up3 (cm n t v ld sh o cd pl ka kb kc) 0 7 3 (0 : Int32), D, E))) rfl ⟨rfl, trivial⟩ ?_
  rw [cmn_7_3]
  refine z_Ev_blk 5 (c' := (14, [some (aR 0 1), some (aI (3 : Int32)), some (aI w)], [], (up3 (cm (upd n 23 (0 : Int32)) t v ld sh o cd pl ka kb kc) 0 6 3 w, D, E))) rfl ⟨rfl, trivial⟩ ?_
  rw [cmn_6_3]
  exact z_Ev_vretE rfl rfl (by first | rfl | simp [*])
theorem c_isInUse_3 {xs : Nat → Int32} {L : Nat}  (n t : Nat → Int32) (v : Nat → Nat → Int32) (ld sh o cd pl ka kb kc : Nat → Int32) (D : Nat → Nat → Int32) (E : Nat → Int64)  : z_Mt xs L m_X0_isInUse [aR 0 1, aI (3 : Int32)] (cm n t v ld sh o cd pl ka kb kc, D, E) (.inl (some (aI (f_b (n 19 = 1 ∨ n 19 = 2))))) (cm n t v ld sh o cd pl ka kb kc, D, E) 0 := by
  refine z_Ev_blk 6 (c' := ((if (n 19) = (1 : Int32) then 20 else 10), [some (aR 0 1), some (aI (3 : Int32))], [], (cm n t v ld sh o cd pl ka kb kc, D, E))) rfl ⟨rfl, trivial⟩ ?_
  refine z_Ev_ite (fun h1 => ?_) (fun h1 => ?_)
  · skip
    refine z_Ev_blk 2 (c' := (25, [some (aR 0 1), some (aI (3 : Int32))], [aI (1 : Int32)], (cm n t v ld sh o cd pl ka kb kc, D, E))) rfl trivial ?_
    exact z_Ev_zretE rfl rfl (rfl) (by first | (refine f_b1 ?_; simp [*]; done) | (refine f_b0 ?_; simp [*]; done)) (by first | rfl | simp [*])
  · skip
    refine z_Ev_blk 6 (c' := ((if (n 19) = (2 : Int32) then 20 else 24), [some (aR 0 1), some (aI (3 : Int32))], [], (cm n t v ld sh o cd pl ka kb kc, D, E))) rfl ⟨rfl, trivial⟩ ?_
    refine z_Ev_ite (fun h2 => ?_) (fun h2 => ?_)
    · skip
      refine z_Ev_blk 2 (c' := (25, [some (aR 0 1), some (aI (3 : Int32))], [aI (1 : Int32)], (cm n t v ld sh o cd pl ka kb kc, D, E))) rfl trivial ?_
      exact z_Ev_zretE rfl rfl (rfl) (by first | (refine f_b1 ?_; simp [*]; done) | (refine f_b0 ?_; simp [*]; done)) (by first | rfl | simp [*])
    · skip
      refine z_Ev_blk 1 (c' := (25, [some (aR 0 1), some (aI (3 : Int32))], [aI (0 : Int32)], (cm n t v ld sh o cd pl ka kb kc, D, E))) rfl trivial ?_
      exact z_Ev_zretE rfl rfl (rfl) (by first | (refine f_b1 ?_; simp [*]; done) | (refine f_b0 ?_; simp [*]; done)) (by first | rfl | simp [*])
theorem c_maskOf_0 {xs : Nat → Int32} {L : Nat} (w : Int32) (n t : Nat → Int32) (v : Nat → Nat → Int32) (ld sh o cd pl ka kb kc : Nat → Int32) (D : Nat → Nat → Int32) (E : Nat → Int64) : z_Mt xs L m_X0_maskOf [aR 0 1, aI w] (cm n t v ld sh o cd pl ka kb kc, D, E) (.inl (some (aI (mkF (fun j => n (16 + j)) w)))) (cm n t v ld sh o cd pl ka kb kc, D, E) 0 := e_maskOf 0 w (cm n t v ld sh o cd pl ka kb kc) D E
theorem c_begin_1_0 {xs : Nat → Int32} {L : Nat}  (n t : Nat → Int32) (v : Nat → Nat → Int32) (ld sh o cd pl ka kb kc : Nat → Int32) (D : Nat → Nat → Int32) (E : Nat → Int64)  : z_Mt xs L m_X0_begin [aR 1 1, aI (0 : Int32)] (cm n t v ld sh o cd pl ka kb kc, D, E) (.inl (none)) (cm n (upd (upd t 20 (t 12)) 16 (if t 12 = 0 then 2 else 1)) v ld sh o cd pl ka kb kc, D, E) 0 := by
  refine z_Ev_blk 8 (c' := (12, [some (aR 1 1), some (aI (0 : Int32))], [], (up3 (cm n t v ld sh o cd pl ka kb kc) 1 7 0 (t 12), D, E))) rfl ⟨rfl, rfl, trivial⟩ ?_
  rw [cmt_7_0]
  refine z_Ev_blk 8 (c' := ((if (t 12) = 0 then 26 else 30), [some (aR 1 1), some (aI (0 : Int32))], [aI (0 : Int32), aR 1 6], (cm n (upd t 20 (t 12)) v ld sh o cd pl ka kb kc, D, E))) rfl ⟨rfl, trivial⟩ ?_
  refine z_Ev_ite (fun h1 => ?_) (fun h1 => ?_)
  · skip
    refine z_Ev_blk 3 (c' := (32, [some (aR 1 1), some (aI (0 : Int32))], [], (up3 (cm n (upd t 20 (t 12)) v ld sh o cd pl ka kb kc) 1 6 0 (2 : Int32), D, E))) rfl ⟨rfl, trivial⟩ ?_
    rw [cmt_6_0]
    exact z_Ev_vretE rfl rfl (by first | rfl | simp [*])
  · skip
    refine z_Ev_blk 2 (c' := (32, [some (aR 1 1), some (aI (0 : Int32))], [], (up3 (cm n (upd t 20 (t 12)) v ld sh o cd pl ka kb kc) 1 6 0 (1 : Int32), D, E))) rfl ⟨rfl, trivial⟩ ?_
    rw [cmt_6_0]
    exact z_Ev_vretE rfl rfl (by first | rfl | simp [*])
theorem c_become_1_0 {xs : Nat → Int32} {L : Nat} (w : Int32) (n t : Nat → Int32) (v : Nat → Nat → Int32) (ld sh o cd pl ka kb kc : Nat → Int32) (D : Nat → Nat → Int32) (E : Nat → Int64)  : z_Mt xs L m_X0_become [aR 1 1, aI (0 : Int32), aI w] (cm n t v ld sh o cd pl ka kb kc, D, E) (.inl (none)) (cm n (upd (upd t 20 0) 16 w) v ld sh o cd pl ka kb kc, D, E) 0 := by
  refine z_Ev_blk 5 (c' := (7, [some (aR 1 1), some (aI (0 : Int32)), some (aI w)], [], (up3 (cm n t v ld sh o cd pl ka kb kc) 1 7 0 (0 : Int32), D, E))) rfl ⟨rfl, trivial⟩ ?_
  rw [cmt_7_0]
  refine z_Ev_blk 5 (c' := (14, [some (aR 1 1), some (aI (0 : Int32)), some (aI w)], [], (up3 (cm n (upd t 20 (0 : Int32)) v ld sh o cd pl ka kb kc) 1 6 0 w, D, E))) rfl ⟨rfl, trivial⟩ ?_
  rw [cmt_6_0]
  exact z_Ev_vretE rfl rfl (by first | rfl | simp [*])
theorem c_begin_1_1 {xs : Nat → Int32} {L : Nat}  (n t : Nat → Int32) (v : Nat → Nat → Int32) (ld sh o cd pl ka kb kc : Nat → Int32) (D : Nat → Nat → Int32) (E : Nat → Int64)  : z_Mt xs L m_X0_begin [aR 1 1, aI (1 : Int32)] (cm n t v ld sh o cd pl ka kb kc, D, E) (.inl (none)) (cm n (upd (upd t 21 (t 13)) 17 (if t 13 = 0 then 2 else 1)) v ld sh o cd pl ka kb kc, D, E) 0 := by
  refine z_Ev_blk 8 (c' := (12, [some (aR 1 1), some (aI (1 : Int32))], [], (up3 (cm n t v ld sh o cd pl ka kb kc) 1 7 1 (t 13), D, E))) rfl ⟨rfl, rfl, trivial⟩ ?_
  rw [cmt_7_1]
  refine z_Ev_blk 8 (c' := ((if (t 13) = 0 then 26 else 30), [some (aR 1 1), some (aI (1 : Int32))], [aI (1 : Int32), aR 1 6], (cm n (upd t 21 (t 13)) v ld sh o cd pl ka kb kc, D, E))) rfl ⟨rfl, trivial⟩ ?_
  refine z_Ev_ite (fun h1 => ?_) (fun h1 => ?_)
  · skip
    refine z_Ev_blk 3 (c' := (32, [some (aR 1 1), some (aI (1 : Int32))], [], (up3 (cm n (upd t 21 (t 13)) v ld sh o cd pl ka kb kc) 1 6 1 (2 : Int32), D, E))) rfl ⟨rfl, trivial⟩ ?_
    rw [cmt_6_1]
    exact z_Ev_vretE rfl rfl (by first | rfl | simp [*])
  · skip
    refine z_Ev_blk 2 (c' := (32, [some (aR 1 1), some (aI (1 : Int32))], [], (up3 (cm n (upd t 21 (t 13)) v ld sh o cd pl ka kb kc) 1 6 1 (1 : Int32), D, E))) rfl ⟨rfl, trivial⟩ ?_
    rw [cmt_6_1]
    exact z_Ev_vretE rfl rfl (by first | rfl | simp [*])
theorem c_become_1_1 {xs : Nat → Int32} {L : Nat} (w : Int32) (n t : Nat → Int32) (v : Nat → Nat → Int32) (ld sh o cd pl ka kb kc : Nat → Int32) (D : Nat → Nat → Int32) (E : Nat → Int64)  : z_Mt xs L m_X0_become [aR 1 1, aI (1 : Int32), aI w] (cm n t v ld sh o cd pl ka kb kc, D, E) (.inl (none)) (cm n (upd (upd t 21 0) 17 w) v ld sh o cd pl ka kb kc, D, E) 0 := by
  refine z_Ev_blk 5 (c' := (7, [some (aR 1 1), some (aI (1 : Int32)), some (aI w)], [], (up3 (cm n t v ld sh o cd pl ka kb kc) 1 7 1 (0 : Int32), D, E))) rfl ⟨rfl, trivial⟩ ?_
  rw [cmt_7_1]
  refine z_Ev_blk 5 (c' := (14, [some (aR 1 1), some (aI (1 : Int32)), some (aI w)], [], (up3 (cm n (upd t 21 (0 : Int32)) v ld sh o cd pl ka kb kc) 1 6 1 w, D, E))) rfl ⟨rfl, trivial⟩ ?_
  rw [cmt_6_1]
  exact z_Ev_vretE rfl rfl (by first | rfl | simp [*])
theorem c_begin_1_2 {xs : Nat → Int32} {L : Nat}  (n t : Nat → Int32) (v : Nat → Nat → Int32) (ld sh o cd pl ka kb kc : Nat → Int32) (D : Nat → Nat → Int32) (E : Nat → Int64)  : z_Mt xs L m_X0_begin [aR 1 1, aI (2 : Int32)] (cm n t v ld sh o cd pl ka kb kc, D, E) (.inl (none)) (cm n (upd (upd t 22 (t 14)) 18 (if t 14 = 0 then 2 else 1)) v ld sh o cd pl ka kb kc, D, E) 0 := by
  refine z_Ev_blk 8 (c' := (12, [some (aR 1 1), some (aI (2 : Int32))], [], (up3 (cm n t v ld sh o cd pl ka kb kc) 1 7 2 (t 14), D, E))) rfl ⟨rfl, rfl, trivial⟩ ?_
  rw [cmt_7_2]
  refine z_Ev_blk 8 (c' := ((if (t 14) = 0 then 26 else 30), [some (aR 1 1), some (aI (2 : Int32))], [aI (2 : Int32), aR 1 6], (cm n (upd t 22 (t 14)) v ld sh o cd pl ka kb kc, D, E))) rfl ⟨rfl, trivial⟩ ?_
  refine z_Ev_ite (fun h1 => ?_) (fun h1 => ?_)
  · skip
    refine z_Ev_blk 3 (c' := (32, [some (aR 1 1), some (aI (2 : Int32))], [], (up3 (cm n (upd t 22 (t 14)) v ld sh o cd pl ka kb kc) 1 6 2 (2 : Int32), D, E))) rfl ⟨rfl, trivial⟩ ?_
    rw [cmt_6_2]
    exact z_Ev_vretE rfl rfl (by first | rfl | simp [*])
  · skip
    refine z_Ev_blk 2 (c' := (32, [some (aR 1 1), some (aI (2 : Int32))], [], (up3 (cm n (upd t 22 (t 14)) v ld sh o cd pl ka kb kc) 1 6 2 (1 : Int32), D, E))) rfl ⟨rfl, trivial⟩ ?_
    rw [cmt_6_2]
    exact z_Ev_vretE rfl rfl (by first | rfl | simp [*])
theorem c_become_1_2 {xs : Nat → Int32} {L : Nat} (w : Int32) (n t : Nat → Int32) (v : Nat → Nat → Int32) (ld sh o cd pl ka kb kc : Nat → Int32) (D : Nat → Nat → Int32) (E : Nat → Int64)  : z_Mt xs L m_X0_become [aR 1 1, aI (2 : Int32), aI w] (cm n t v ld sh o cd pl ka kb kc, D, E) (.inl (none)) (cm n (upd (upd t 22 0) 18 w) v ld sh o cd pl ka kb kc, D, E) 0 := by
  refine z_Ev_blk 5 (c' := (7, [some (aR 1 1), some (aI (2 : Int32)), some (aI w)], [], (up3 (cm n t v ld sh o cd pl ka kb kc) 1 7 2 (0 : Int32), D, E))) rfl ⟨rfl, trivial⟩ ?_
  rw [cmt_7_2]
  refine z_Ev_blk 5 (c' := (14, [some (aR 1 1), some (aI (2 : Int32)), some (aI w)], [], (up3 (cm n (upd t 22 (0 : Int32)) v ld sh o cd pl ka kb kc) 1 6 2 w, D, E))) rfl ⟨rfl, trivial⟩ ?_
  rw [cmt_6_2]
  exact z_Ev_vretE rfl rfl (by first | rfl | simp [*])
theorem c_begin_1_3 {xs : Nat → Int32} {L : Nat}  (n t : Nat → Int32) (v : Nat → Nat → Int32) (ld sh o cd pl ka kb kc : Nat → Int32) (D : Nat → Nat → Int32) (E : Nat → Int64)  : z_Mt xs L m_X0_begin [aR 1 1, aI (3 : Int32)] (cm n t v ld sh o cd pl ka kb kc, D, E) (.inl (none)) (cm n (upd (upd t 23 (t 15)) 19 (if t 15 = 0 then 2 else 1)) v ld sh o cd pl ka kb kc, D, E) 0 := by
  refine z_Ev_blk 8 (c' := (12, [some (aR 1 1), some (aI (3 : Int32))], [], (up3 (cm n t v ld sh o cd pl ka kb kc) 1 7 3 (t 15), D, E))) rfl ⟨rfl, rfl, trivial⟩ ?_
  rw [cmt_7_3]
  refine z_Ev_blk 8 (c' := ((if (t 15) = 0 then 26 else 30), [some (aR 1 1), some (aI (3 : Int32))], [aI (3 : Int32), aR 1 6], (cm n (upd t 23 (t 15)) v ld sh o cd pl ka kb kc, D, E))) rfl ⟨rfl, trivial⟩ ?_
  refine z_Ev_ite (fun h1 => ?_) (fun h1 => ?_)
  · skip
    refine z_Ev_blk 3 (c' := (32, [some (aR 1 1), some (aI (3 : Int32))], [], (up3 (cm n (upd t 23 (t 15)) v ld sh o cd pl ka kb kc) 1 6 3 (2 : Int32), D, E))) rfl ⟨rfl, trivial⟩ ?_
    rw [cmt_6_3]
    exact z_Ev_vretE rfl rfl (by first | rfl | simp [*])
  · skip
    refine z_Ev_blk 2 (c' := (32, [some (aR 1 1), some (aI (3 : Int32))], [], (up3 (cm n (upd t 23 (t 15)) v ld sh o cd pl ka kb kc) 1 6 3 (1 : Int32), D, E))) rfl ⟨rfl, trivial⟩ ?_
    rw [cmt_6_3]
    exact z_Ev_vretE rfl rfl (by first | rfl | simp [*])
theorem c_become_1_3 {xs : Nat → Int32} {L : Nat} (w : Int32) (n t : Nat → Int32) (v : Nat → Nat → Int32) (ld sh o cd pl ka kb kc : Nat → Int32) (D : Nat → Nat → Int32) (E : Nat → Int64)  : z_Mt xs L m_X0_become [aR 1 1, aI (3 : Int32), aI w] (cm n t v ld sh o cd pl ka kb kc, D, E) (.inl (none)) (cm n (upd (upd t 23 0) 19 w) v ld sh o cd pl ka kb kc, D, E) 0 := by
  refine z_Ev_blk 5 (c' := (7, [some (aR 1 1), some (aI (3 : Int32)), some (aI w)], [], (up3 (cm n t v ld sh o cd pl ka kb kc) 1 7 3 (0 : Int32), D, E))) rfl ⟨rfl, trivial⟩ ?_
  rw [cmt_7_3]
  refine z_Ev_blk 5 (c' := (14, [some (aR 1 1), some (aI (3 : Int32)), some (aI w)], [], (up3 (cm n (upd t 23 (0 : Int32)) v ld sh o cd pl ka kb kc) 1 6 3 w, D, E))) rfl ⟨rfl, trivial⟩ ?_
  rw [cmt_6_3]
  exact z_Ev_vretE rfl rfl (by first | rfl | simp [*])
theorem c_maskOf_1 {xs : Nat → Int32} {L : Nat} (w : Int32) (n t : Nat → Int32) (v : Nat → Nat → Int32) (ld sh o cd pl ka kb kc : Nat → Int32) (D : Nat → Nat → Int32) (E : Nat → Int64) : z_Mt xs L m_X0_maskOf [aR 1 1, aI w] (cm n t v ld sh o cd pl ka kb kc, D, E) (.inl (some (aI (mkF (fun j => t (16 + j)) w)))) (cm n t v ld sh o cd pl ka kb kc, D, E) 0 := e_maskOf 1 w (cm n t v ld sh o cd pl ka kb kc) D E
def bcF (i : Int32) : Int32 := (((((((i - (((i.toUInt32 >>> ((1 : Int32).toUInt32 &&& Int32.toUInt32 31)).toInt32) &&& (1431655765 : Int32))) &&& (858993459 : Int32)) + ((((i - (((i.toUInt32 >>> ((1 : Int32).toUInt32 &&& Int32.toUInt32 31)).toInt32) &&& (1431655765 : Int32))).toUInt32 >>> ((2 : Int32).toUInt32 &&& Int32.toUInt32 31)).toInt32) &&& (858993459 : Int32))) + (((((i - (((i.toUInt32 >>> ((1 : Int32).toUInt32 &&& Int32.toUInt32 31)).toInt32) &&& (1431655765 : Int32))) &&& (858993459 : Int32)) + ((((i - (((i.toUInt32 >>> ((1 : Int32).toUInt32 &&& Int32.toUInt32 31)).toInt32) &&& (1431655765 : Int32))).toUInt32 >>> ((2 : Int32).toUInt32 &&& Int32.toUInt32 31)).toInt32) &&& (858993459 : Int32))).toUInt32 >>> ((4 : Int32).toUInt32 &&& Int32.toUInt32 31)).toInt32)) &&& (252645135 : Int32)) + (((((((i - (((i.toUInt32 >>> ((1 : Int32).toUInt32 &&& Int32.toUInt32 31)).toInt32) &&& (1431655765 : Int32))) &&& (858993459 : Int32)) + ((((i - (((i.toUInt32 >>> ((1 : Int32).toUInt32 &&& Int32.toUInt32 31)).toInt32) &&& (1431655765 : Int32))).toUInt32 >>> ((2 : Int32).toUInt32 &&& Int32.toUInt32 31)).toInt32) &&& (858993459 : Int32))) + (((((i - (((i.toUInt32 >>> ((1 : Int32).toUInt32 &&& Int32.toUInt32 31)).toInt32) &&& (1431655765 : Int32))) &&& (858993459 : Int32)) + ((((i - (((i.toUInt32 >>> ((1 : Int32).toUInt32 &&& Int32.toUInt32 31)).toInt32) &&& (1431655765 : Int32))).toUInt32 >>> ((2 : Int32).toUInt32 &&& Int32.toUInt32 31)).toInt32) &&& (858993459 : Int32))).toUInt32 >>> ((4 : Int32).toUInt32 &&& Int32.toUInt32 31)).toInt32)) &&& (252645135 : Int32)).toUInt32 >>> ((8 : Int32).toUInt32 &&& Int32.toUInt32 31)).toInt32)) + ((((((((i - (((i.toUInt32 >>> ((1 : Int32).toUInt32 &&& Int32.toUInt32 31)).toInt32) &&& (1431655765 : Int32))) &&& (858993459 : Int32)) + ((((i - (((i.toUInt32 >>> ((1 : Int32).toUInt32 &&& Int32.toUInt32 31)).toInt32) &&& (1431655765 : Int32))).toUInt32 >>> ((2 : Int32).toUInt32 &&& Int32.toUInt32 31)).toInt32) &&& (858993459 : Int32))) + (((((i - (((i.toUInt32 >>> ((1 : Int32).toUInt32 &&& Int32.toUInt32 31)).toInt32) &&& (1431655765 : Int32))) &&& (858993459 : Int32)) + ((((i - (((i.toUInt32 >>> ((1 : Int32).toUInt32 &&& Int32.toUInt32 31)).toInt32) &&& (1431655765 : Int32))).toUInt32 >>> ((2 : Int32).toUInt32 &&& Int32.toUInt32 31)).toInt32) &&& (858993459 : Int32))).toUInt32 >>> ((4 : Int32).toUInt32 &&& Int32.toUInt32 31)).toInt32)) &&& (252645135 : Int32)) + (((((((i - (((i.toUInt32 >>> ((1 : Int32).toUInt32 &&& Int32.toUInt32 31)).toInt32) &&& (1431655765 : Int32))) &&& (858993459 : Int32)) + ((((i - (((i.toUInt32 >>> ((1 : Int32).toUInt32 &&& Int32.toUInt32 31)).toInt32) &&& (1431655765 : Int32))).toUInt32 >>> ((2 : Int32).toUInt32 &&& Int32.toUInt32 31)).toInt32) &&& (858993459 : Int32))) + (((((i - (((i.toUInt32 >>> ((1 : Int32).toUInt32 &&& Int32.toUInt32 31)).toInt32) &&& (1431655765 : Int32))) &&& (858993459 : Int32)) + ((((i - (((i.toUInt32 >>> ((1 : Int32).toUInt32 &&& Int32.toUInt32 31)).toInt32) &&& (1431655765 : Int32))).toUInt32 >>> ((2 : Int32).toUInt32 &&& Int32.toUInt32 31)).toInt32) &&& (858993459 : Int32))).toUInt32 >>> ((4 : Int32).toUInt32 &&& Int32.toUInt32 31)).toInt32)) &&& (252645135 : Int32)).toUInt32 >>> ((8 : Int32).toUInt32 &&& Int32.toUInt32 31)).toInt32)).toUInt32 >>> ((16 : Int32).toUInt32 &&& Int32.toUInt32 31)).toInt32)) &&& (63 : Int32)
theorem e_bitCount {xs : Nat → Int32} {L : Nat} (i : Int32) (C : Nat → Nat → Nat → Int32) (D : Nat → Nat → Int32) (E : Nat → Int64) : z_Mt xs L m_J6_bitCount [aI i] (C, D, E) (.inl (some (aI (bcF i)))) (C, D, E) 0 := by
  refine z_Ev_blk 25 (c' := (33, [some (aI (((i - (((i.toUInt32 >>> ((1 : Int32).toUInt32 &&& Int32.toUInt32 31)).toInt32) &&& (1431655765 : Int32))) &&& (858993459 : Int32)) + ((((i - (((i.toUInt32 >>> ((1 : Int32).toUInt32 &&& Int32.toUInt32 31)).toInt32) &&& (1431655765 : Int32))).toUInt32 >>> ((2 : Int32).toUInt32 &&& Int32.toUInt32 31)).toInt32) &&& (858993459 : Int32))))], [aI (((((i - (((i.toUInt32 >>> ((1 : Int32).toUInt32 &&& Int32.toUInt32 31)).toInt32) &&& (1431655765 : Int32))) &&& (858993459 : Int32)) + ((((i - (((i.toUInt32 >>> ((1 : Int32).toUInt32 &&& Int32.toUInt32 31)).toInt32) &&& (1431655765 : Int32))).toUInt32 >>> ((2 : Int32).toUInt32 &&& Int32.toUInt32 31)).toInt32) &&& (858993459 : Int32))) + (((((i - (((i.toUInt32 >>> ((1 : Int32).toUInt32 &&& Int32.toUInt32 31)).toInt32) &&& (1431655765 : Int32))) &&& (858993459 : Int32)) + ((((i - (((i.toUInt32 >>> ((1 : Int32).toUInt32 &&& Int32.toUInt32 31)).toInt32) &&& (1431655765 : Int32))).toUInt32 >>> ((2 : Int32).toUInt32 &&& Int32.toUInt32 31)).toInt32) &&& (858993459 : Int32))).toUInt32 >>> ((4 : Int32).toUInt32 &&& Int32.toUInt32 31)).toInt32)) &&& (252645135 : Int32))], (C, D, E))) rfl trivial ?_
  refine z_Ev_blk 16 (c' := (52, [some (aI (((((((i - (((i.toUInt32 >>> ((1 : Int32).toUInt32 &&& Int32.toUInt32 31)).toInt32) &&& (1431655765 : Int32))) &&& (858993459 : Int32)) + ((((i - (((i.toUInt32 >>> ((1 : Int32).toUInt32 &&& Int32.toUInt32 31)).toInt32) &&& (1431655765 : Int32))).toUInt32 >>> ((2 : Int32).toUInt32 &&& Int32.toUInt32 31)).toInt32) &&& (858993459 : Int32))) + (((((i - (((i.toUInt32 >>> ((1 : Int32).toUInt32 &&& Int32.toUInt32 31)).toInt32) &&& (1431655765 : Int32))) &&& (858993459 : Int32)) + ((((i - (((i.toUInt32 >>> ((1 : Int32).toUInt32 &&& Int32.toUInt32 31)).toInt32) &&& (1431655765 : Int32))).toUInt32 >>> ((2 : Int32).toUInt32 &&& Int32.toUInt32 31)).toInt32) &&& (858993459 : Int32))).toUInt32 >>> ((4 : Int32).toUInt32 &&& Int32.toUInt32 31)).toInt32)) &&& (252645135 : Int32)) + (((((((i - (((i.toUInt32 >>> ((1 : Int32).toUInt32 &&& Int32.toUInt32 31)).toInt32) &&& (1431655765 : Int32))) &&& (858993459 : Int32)) + ((((i - (((i.toUInt32 >>> ((1 : Int32).toUInt32 &&& Int32.toUInt32 31)).toInt32) &&& (1431655765 : Int32))).toUInt32 >>> ((2 : Int32).toUInt32 &&& Int32.toUInt32 31)).toInt32) &&& (858993459 : Int32))) + (((((i - (((i.toUInt32 >>> ((1 : Int32).toUInt32 &&& Int32.toUInt32 31)).toInt32) &&& (1431655765 : Int32))) &&& (858993459 : Int32)) + ((((i - (((i.toUInt32 >>> ((1 : Int32).toUInt32 &&& Int32.toUInt32 31)).toInt32) &&& (1431655765 : Int32))).toUInt32 >>> ((2 : Int32).toUInt32 &&& Int32.toUInt32 31)).toInt32) &&& (858993459 : Int32))).toUInt32 >>> ((4 : Int32).toUInt32 &&& Int32.toUInt32 31)).toInt32)) &&& (252645135 : Int32)).toUInt32 >>> ((8 : Int32).toUInt32 &&& Int32.toUInt32 31)).toInt32)) + ((((((((i - (((i.toUInt32 >>> ((1 : Int32).toUInt32 &&& Int32.toUInt32 31)).toInt32) &&& (1431655765 : Int32))) &&& (858993459 : Int32)) + ((((i - (((i.toUInt32 >>> ((1 : Int32).toUInt32 &&& Int32.toUInt32 31)).toInt32) &&& (1431655765 : Int32))).toUInt32 >>> ((2 : Int32).toUInt32 &&& Int32.toUInt32 31)).toInt32) &&& (858993459 : Int32))) + (((((i - (((i.toUInt32 >>> ((1 : Int32).toUInt32 &&& Int32.toUInt32 31)).toInt32) &&& (1431655765 : Int32))) &&& (858993459 : Int32)) + ((((i - (((i.toUInt32 >>> ((1 : Int32).toUInt32 &&& Int32.toUInt32 31)).toInt32) &&& (1431655765 : Int32))).toUInt32 >>> ((2 : Int32).toUInt32 &&& Int32.toUInt32 31)).toInt32) &&& (858993459 : Int32))).toUInt32 >>> ((4 : Int32).toUInt32 &&& Int32.toUInt32 31)).toInt32)) &&& (252645135 : Int32)) + (((((((i - (((i.toUInt32 >>> ((1 : Int32).toUInt32 &&& Int32.toUInt32 31)).toInt32) &&& (1431655765 : Int32))) &&& (858993459 : Int32)) + ((((i - (((i.toUInt32 >>> ((1 : Int32).toUInt32 &&& Int32.toUInt32 31)).toInt32) &&& (1431655765 : Int32))).toUInt32 >>> ((2 : Int32).toUInt32 &&& Int32.toUInt32 31)).toInt32) &&& (858993459 : Int32))) + (((((i - (((i.toUInt32 >>> ((1 : Int32).toUInt32 &&& Int32.toUInt32 31)).toInt32) &&& (1431655765 : Int32))) &&& (858993459 : Int32)) + ((((i - (((i.toUInt32 >>> ((1 : Int32).toUInt32 &&& Int32.toUInt32 31)).toInt32) &&& (1431655765 : Int32))).toUInt32 >>> ((2 : Int32).toUInt32 &&& Int32.toUInt32 31)).toInt32) &&& (858993459 : Int32))).toUInt32 >>> ((4 : Int32).toUInt32 &&& Int32.toUInt32 31)).toInt32)) &&& (252645135 : Int32)).toUInt32 >>> ((8 : Int32).toUInt32 &&& Int32.toUInt32 31)).toInt32)).toUInt32 >>> ((16 : Int32).toUInt32 &&& Int32.toUInt32 31)).toInt32)))], [aI ((((((((i - (((i.toUInt32 >>> ((1 : Int32).toUInt32 &&& Int32.toUInt32 31)).toInt32) &&& (1431655765 : Int32))) &&& (858993459 : Int32)) + ((((i - (((i.toUInt32 >>> ((1 : Int32).toUInt32 &&& Int32.toUInt32 31)).toInt32) &&& (1431655765 : Int32))).toUInt32 >>> ((2 : Int32).toUInt32 &&& Int32.toUInt32 31)).toInt32) &&& (858993459 : Int32))) + (((((i - (((i.toUInt32 >>> ((1 : Int32).toUInt32 &&& Int32.toUInt32 31)).toInt32) &&& (1431655765 : Int32))) &&& (858993459 : Int32)) + ((((i - (((i.toUInt32 >>> ((1 : Int32).toUInt32 &&& Int32.toUInt32 31)).toInt32) &&& (1431655765 : Int32))).toUInt32 >>> ((2 : Int32).toUInt32 &&& Int32.toUInt32 31)).toInt32) &&& (858993459 : Int32))).toUInt32 >>> ((4 : Int32).toUInt32 &&& Int32.toUInt32 31)).toInt32)) &&& (252645135 : Int32)) + (((((((i - (((i.toUInt32 >>> ((1 : Int32).toUInt32 &&& Int32.toUInt32 31)).toInt32) &&& (1431655765 : Int32))) &&& (858993459 : Int32)) + ((((i - (((i.toUInt32 >>> ((1 : Int32).toUInt32 &&& Int32.toUInt32 31)).toInt32) &&& (1431655765 : Int32))).toUInt32 >>> ((2 : Int32).toUInt32 &&& Int32.toUInt32 31)).toInt32) &&& (858993459 : Int32))) + (((((i - (((i.toUInt32 >>> ((1 : Int32).toUInt32 &&& Int32.toUInt32 31)).toInt32) &&& (1431655765 : Int32))) &&& (858993459 : Int32)) + ((((i - (((i.toUInt32 >>> ((1 : Int32).toUInt32 &&& Int32.toUInt32 31)).toInt32) &&& (1431655765 : Int32))).toUInt32 >>> ((2 : Int32).toUInt32 &&& Int32.toUInt32 31)).toInt32) &&& (858993459 : Int32))).toUInt32 >>> ((4 : Int32).toUInt32 &&& Int32.toUInt32 31)).toInt32)) &&& (252645135 : Int32)).toUInt32 >>> ((8 : Int32).toUInt32 &&& Int32.toUInt32 31)).toInt32)) + ((((((((i - (((i.toUInt32 >>> ((1 : Int32).toUInt32 &&& Int32.toUInt32 31)).toInt32) &&& (1431655765 : Int32))) &&& (858993459 : Int32)) + ((((i - (((i.toUInt32 >>> ((1 : Int32).toUInt32 &&& Int32.toUInt32 31)).toInt32) &&& (1431655765 : Int32))).toUInt32 >>> ((2 : Int32).toUInt32 &&& Int32.toUInt32 31)).toInt32) &&& (858993459 : Int32))) + (((((i - (((i.toUInt32 >>> ((1 : Int32).toUInt32 &&& Int32.toUInt32 31)).toInt32) &&& (1431655765 : Int32))) &&& (858993459 : Int32)) + ((((i - (((i.toUInt32 >>> ((1 : Int32).toUInt32 &&& Int32.toUInt32 31)).toInt32) &&& (1431655765 : Int32))).toUInt32 >>> ((2 : Int32).toUInt32 &&& Int32.toUInt32 31)).toInt32) &&& (858993459 : Int32))).toUInt32 >>> ((4 : Int32).toUInt32 &&& Int32.toUInt32 31)).toInt32)) &&& (252645135 : Int32)) + (((((((i - (((i.toUInt32 >>> ((1 : Int32).toUInt32 &&& Int32.toUInt32 31)).toInt32) &&& (1431655765 : Int32))) &&& (858993459 : Int32)) + ((((i - (((i.toUInt32 >>> ((1 : Int32).toUInt32 &&& Int32.toUInt32 31)).toInt32) &&& (1431655765 : Int32))).toUInt32 >>> ((2 : Int32).toUInt32 &&& Int32.toUInt32 31)).toInt32) &&& (858993459 : Int32))) + (((((i - (((i.toUInt32 >>> ((1 : Int32).toUInt32 &&& Int32.toUInt32 31)).toInt32) &&& (1431655765 : Int32))) &&& (858993459 : Int32)) + ((((i - (((i.toUInt32 >>> ((1 : Int32).toUInt32 &&& Int32.toUInt32 31)).toInt32) &&& (1431655765 : Int32))).toUInt32 >>> ((2 : Int32).toUInt32 &&& Int32.toUInt32 31)).toInt32) &&& (858993459 : Int32))).toUInt32 >>> ((4 : Int32).toUInt32 &&& Int32.toUInt32 31)).toInt32)) &&& (252645135 : Int32)).toUInt32 >>> ((8 : Int32).toUInt32 &&& Int32.toUInt32 31)).toInt32)).toUInt32 >>> ((16 : Int32).toUInt32 &&& Int32.toUInt32 31)).toInt32)) &&& (63 : Int32))], (C, D, E))) rfl trivial ?_
  exact z_Ev_iretE rfl rfl (by rfl) (by rfl)
theorem bcF_m {m : Int32} (h : m ∈ m16) : bcF m = manF m := by
  have h2 : m16.all (fun m => decide (bcF m = manF m)) = true := by decide +kernel
  exact of_decide_eq_true (List.all_eq_true.mp h2 m h)
theorem c_sizeOf {xs : Nat → Int32} {L : Nat} (w : Int32) (n t : Nat → Int32) (v : Nat → Nat → Int32) (ld sh o cd pl ka kb kc : Nat → Int32) (D : Nat → Nat → Int32) (E : Nat → Int64)  : z_Mt xs L m_X0_sizeOf [aR 0 1, aI w] (cm n t v ld sh o cd pl ka kb kc, D, E) (.inl (some (aI (bcF (mkF (fun j => n (16 + j)) w))))) (cm n t v ld sh o cd pl ka kb kc, D, E) 0 := by
  refine z_Ev_blk 2 (c' := (2, [some (aR 0 1), some (aI w)], [aI w, aR 0 1], (cm n t v ld sh o cd pl ka kb kc, D, E))) rfl trivial ?_
  refine z_Ev_call0 (m' := m_X0_maskOf) (as := [aR 0 1, aI w]) (r := []) (c_maskOf_0 w n t v ld sh o cd pl ka kb kc D E) rfl rfl ?_
  refine z_Ev_call0 (m' := m_J6_bitCount) (as := [aI (mkF (fun j => n (16 + j)) w)]) (r := []) (e_bitCount (mkF (fun j => n (16 + j)) w) (cm n t v ld sh o cd pl ka kb kc) D E) rfl rfl ?_
  exact z_Ev_iretE rfl rfl (by first | rfl | simp [*]) (by first | rfl | simp [*])
theorem wu_0_0 {xs : Nat → Int32} {L : Nat} {o_ : z_Rs} {M' : Mem} {kk : Nat}  (n t : Nat → Int32) (v : Nat → Nat → Int32) (ld sh o cd pl ka kb kc : Nat → Int32) (D : Nat → Nat → Int32) (E : Nat → Int64) (hv : n 16 = 1 → 0 < n 20) (K : z_Ev xs L m_X0_warmUpAnHour (2, [some (aR 0 1), some (aI (1 : Int32))], [], (cm (wuS n 16 20) t v ld sh o cd pl ka kb kc, D, E)) o_ M' kk) : z_Ev xs L m_X0_warmUpAnHour (2, [some (aR 0 1), some (aI (0 : Int32))], [], (cm n t v ld sh o cd pl ka kb kc, D, E)) o_ M' kk := by
  refine z_Ev_blk 3 (c' := ((if (4 : Int32) ≤ (0 : Int32) then 48 else 7), [some (aR 0 1), some (aI (0 : Int32))], [], (cm n t v ld sh o cd pl ka kb kc, D, E))) rfl trivial ?_
  refine z_Ev_else (by decide) ?_
  refine z_Ev_blk 6 (c' := ((if (n 16) = (1 : Int32) then 17 else 42), [some (aR 0 1), some (aI (0 : Int32))], [], (cm n t v ld sh o cd pl ka kb kc, D, E))) rfl ⟨rfl, trivial⟩ ?_
  refine z_Ev_ite (fun h1 => ?_) (fun h1 => ?_)
  · skip
    refine z_Ev_blk 8 (c' := (27, [some (aR 0 1), some (aI (0 : Int32))], [], (up3 (cm n t v ld sh o cd pl ka kb kc) 0 7 0 ((n 20) - (1 : Int32)), D, E))) rfl ⟨rfl, rfl, trivial⟩ ?_
    rw [cmn_7_0]
    refine z_Ev_blk 5 (c' := ((if 0 < ((n 20) - (1 : Int32)) then 42 else 36), [some (aR 0 1), some (aI (0 : Int32))], [], (cm (upd n 20 ((n 20) - (1 : Int32))) t v ld sh o cd pl ka kb kc, D, E))) rfl ⟨rfl, trivial⟩ ?_
    refine z_Ev_ite (fun h2 => ?_) (fun h2 => ?_)
    · skip
      refine z_Ev_blk 2 (c' := (2, [some (aR 0 1), some (aI (1 : Int32))], [], (cm (upd n 20 ((n 20) - (1 : Int32))) t v ld sh o cd pl ka kb kc, D, E))) rfl trivial ?_
      refine z_Ev_fgt [true, true] ?_
      exact z_Ev_eq (c := (2, [some (aR 0 1), some (aI (1 : Int32))], [], (cm (upd n 20 ((n 20) - (1 : Int32))) t v ld sh o cd pl ka kb kc, D, E))) (c' := (2, [some (aR 0 1), some (aI (1 : Int32))], [], (cm (wuS n 16 20) t v ld sh o cd pl ka kb kc, D, E))) (by rw [wu_B (by decide) h1 h2]) K
    · skip
      refine z_Ev_blk 3 (c' := (39, [some (aR 0 1), some (aI (0 : Int32))], [aI (2 : Int32), aI (0 : Int32), aR 0 1], (cm (upd n 20 ((n 20) - (1 : Int32))) t v ld sh o cd pl ka kb kc, D, E))) rfl trivial ?_
      refine z_Ev_call0 (m' := m_X0_become) (as := [aR 0 1, aI (0 : Int32), aI (2 : Int32)]) (r := []) (c_become_0_0 (2 : Int32) (upd n 20 ((n 20) - (1 : Int32))) t v ld sh o cd pl ka kb kc D E) rfl rfl ?_
      refine z_Ev_blk 2 (c' := (2, [some (aR 0 1), some (aI (1 : Int32))], [], (cm (upd (upd (upd n 20 ((n 20) - (1 : Int32))) 20 0) 16 (2 : Int32)) t v ld sh o cd pl ka kb kc, D, E))) rfl trivial ?_
      refine z_Ev_fgt [true, true] ?_
      exact z_Ev_eq (c := (2, [some (aR 0 1), some (aI (1 : Int32))], [], (cm (upd (upd (upd n 20 ((n 20) - (1 : Int32))) 20 0) 16 (2 : Int32)) t v ld sh o cd pl ka kb kc, D, E))) (c' := (2, [some (aR 0 1), some (aI (1 : Int32))], [], (cm (wuS n 16 20) t v ld sh o cd pl ka kb kc, D, E))) (by rw [wu_A h1 (hv h1) h2]) K
  · skip
    refine z_Ev_blk 2 (c' := (2, [some (aR 0 1), some (aI (1 : Int32))], [], (cm n t v ld sh o cd pl ka kb kc, D, E))) rfl trivial ?_
    refine z_Ev_fgt [true, true] ?_
    exact z_Ev_eq (c := (2, [some (aR 0 1), some (aI (1 : Int32))], [], (cm n t v ld sh o cd pl ka kb kc, D, E))) (c' := (2, [some (aR 0 1), some (aI (1 : Int32))], [], (cm (wuS n 16 20) t v ld sh o cd pl ka kb kc, D, E))) (by rw [← wu_C (i := 16) (j := 20) h1]) K
theorem wu_0_1 {xs : Nat → Int32} {L : Nat} {o_ : z_Rs} {M' : Mem} {kk : Nat}  (n t : Nat → Int32) (v : Nat → Nat → Int32) (ld sh o cd pl ka kb kc : Nat → Int32) (D : Nat → Nat → Int32) (E : Nat → Int64) (hv : n 17 = 1 → 0 < n 21) (K : z_Ev xs L m_X0_warmUpAnHour (2, [some (aR 0 1), some (aI (2 : Int32))], [], (cm (wuS n 17 21) t v ld sh o cd pl ka kb kc, D, E)) o_ M' kk) : z_Ev xs L m_X0_warmUpAnHour (2, [some (aR 0 1), some (aI (1 : Int32))], [], (cm n t v ld sh o cd pl ka kb kc, D, E)) o_ M' kk := by
  refine z_Ev_blk 3 (c' := ((if (4 : Int32) ≤ (1 : Int32) then 48 else 7), [some (aR 0 1), some (aI (1 : Int32))], [], (cm n t v ld sh o cd pl ka kb kc, D, E))) rfl trivial ?_
  refine z_Ev_else (by decide) ?_
  refine z_Ev_blk 6 (c' := ((if (n 17) = (1 : Int32) then 17 else 42), [some (aR 0 1), some (aI (1 : Int32))], [], (cm n t v ld sh o cd pl ka kb kc, D, E))) rfl ⟨rfl, trivial⟩ ?_
  refine z_Ev_ite (fun h1 => ?_) (fun h1 => ?_)
  · skip
    refine z_Ev_blk 8 (c' := (27, [some (aR 0 1), some (aI (1 : Int32))], [], (up3 (cm n t v ld sh o cd pl ka kb kc) 0 7 1 ((n 21) - (1 : Int32)), D, E))) rfl ⟨rfl, rfl, trivial⟩ ?_
    rw [cmn_7_1]
    refine z_Ev_blk 5 (c' := ((if 0 < ((n 21) - (1 : Int32)) then 42 else 36), [some (aR 0 1), some (aI (1 : Int32))], [], (cm (upd n 21 ((n 21) - (1 : Int32))) t v ld sh o cd pl ka kb kc, D, E))) rfl ⟨rfl, trivial⟩ ?_
    refine z_Ev_ite (fun h2 => ?_) (fun h2 => ?_)
    · skip
      refine z_Ev_blk 2 (c' := (2, [some (aR 0 1), some (aI (2 : Int32))], [], (cm (upd n 21 ((n 21) - (1 : Int32))) t v ld sh o cd pl ka kb kc, D, E))) rfl trivial ?_
      refine z_Ev_fgt [true, true] ?_
      exact z_Ev_eq (c := (2, [some (aR 0 1), some (aI (2 : Int32))], [], (cm (upd n 21 ((n 21) - (1 : Int32))) t v ld sh o cd pl ka kb kc, D, E))) (c' := (2, [some (aR 0 1), some (aI (2 : Int32))], [], (cm (wuS n 17 21) t v ld sh o cd pl ka kb kc, D, E))) (by rw [wu_B (by decide) h1 h2]) K
    · skip
      refine z_Ev_blk 3 (c' := (39, [some (aR 0 1), some (aI (1 : Int32))], [aI (2 : Int32), aI (1 : Int32), aR 0 1], (cm (upd n 21 ((n 21) - (1 : Int32))) t v ld sh o cd pl ka kb kc, D, E))) rfl trivial ?_
      refine z_Ev_call0 (m' := m_X0_become) (as := [aR 0 1, aI (1 : Int32), aI (2 : Int32)]) (r := []) (c_become_0_1 (2 : Int32) (upd n 21 ((n 21) - (1 : Int32))) t v ld sh o cd pl ka kb kc D E) rfl rfl ?_
      refine z_Ev_blk 2 (c' := (2, [some (aR 0 1), some (aI (2 : Int32))], [], (cm (upd (upd (upd n 21 ((n 21) - (1 : Int32))) 21 0) 17 (2 : Int32)) t v ld sh o cd pl ka kb kc, D, E))) rfl trivial ?_
      refine z_Ev_fgt [true, true] ?_
      exact z_Ev_eq (c := (2, [some (aR 0 1), some (aI (2 : Int32))], [], (cm (upd (upd (upd n 21 ((n 21) - (1 : Int32))) 21 0) 17 (2 : Int32)) t v ld sh o cd pl ka kb kc, D, E))) (c' := (2, [some (aR 0 1), some (aI (2 : Int32))], [], (cm (wuS n 17 21) t v ld sh o cd pl ka kb kc, D, E))) (by rw [wu_A h1 (hv h1) h2]) K
  · skip
    refine z_Ev_blk 2 (c' := (2, [some (aR 0 1), some (aI (2 : Int32))], [], (cm n t v ld sh o cd pl ka kb kc, D, E))) rfl trivial ?_
    refine z_Ev_fgt [true, true] ?_
    exact z_Ev_eq (c := (2, [some (aR 0 1), some (aI (2 : Int32))], [], (cm n t v ld sh o cd pl ka kb kc, D, E))) (c' := (2, [some (aR 0 1), some (aI (2 : Int32))], [], (cm (wuS n 17 21) t v ld sh o cd pl ka kb kc, D, E))) (by rw [← wu_C (i := 17) (j := 21) h1]) K
theorem wu_0_2 {xs : Nat → Int32} {L : Nat} {o_ : z_Rs} {M' : Mem} {kk : Nat}  (n t : Nat → Int32) (v : Nat → Nat → Int32) (ld sh o cd pl ka kb kc : Nat → Int32) (D : Nat → Nat → Int32) (E : Nat → Int64) (hv : n 18 = 1 → 0 < n 22) (K : z_Ev xs L m_X0_warmUpAnHour (2, [some (aR 0 1), some (aI (3 : Int32))], [], (cm (wuS n 18 22) t v ld sh o cd pl ka kb kc, D, E)) o_ M' kk) : z_Ev xs L m_X0_warmUpAnHour (2, [some (aR 0 1), some (aI (2 : Int32))], [], (cm n t v ld sh o cd pl ka kb kc, D, E)) o_ M' kk := by
  refine z_Ev_blk 3 (c' := ((if (4 : Int32) ≤ (2 : Int32) then 48 else 7), [some (aR 0 1), some (aI (2 : Int32))], [], (cm n t v ld sh o cd pl ka kb kc, D, E))) rfl trivial ?_
  refine z_Ev_else (by decide) ?_
  refine z_Ev_blk 6 (c' := ((if (n 18) = (1 : Int32) then 17 else 42), [some (aR 0 1), some (aI (2 : Int32))], [], (cm n t v ld sh o cd pl ka kb kc, D, E))) rfl ⟨rfl, trivial⟩ ?_
  refine z_Ev_ite (fun h1 => ?_) (fun h1 => ?_)
  · skip
    refine z_Ev_blk 8 (c' := (27, [some (aR 0 1), some (aI (2 : Int32))], [], (up3 (cm n t v ld sh o cd pl ka kb kc) 0 7 2 ((n 22) - (1 : Int32)), D, E))) rfl ⟨rfl, rfl, trivial⟩ ?_
    rw [cmn_7_2]
    refine z_Ev_blk 5 (c' := ((if 0 < ((n 22) - (1 : Int32)) then 42 else 36), [some (aR 0 1), some (aI (2 : Int32))], [], (cm (upd n 22 ((n 22) - (1 : Int32))) t v ld sh o cd pl ka kb kc, D, E))) rfl ⟨rfl, trivial⟩ ?_
    refine z_Ev_ite (fun h2 => ?_) (fun h2 => ?_)
    · skip
      refine z_Ev_blk 2 (c' := (2, [some (aR 0 1), some (aI (3 : Int32))], [], (cm (upd n 22 ((n 22) - (1 : Int32))) t v ld sh o cd pl ka kb kc, D, E))) rfl trivial ?_
      refine z_Ev_fgt [true, true] ?_
      exact z_Ev_eq (c := (2, [some (aR 0 1), some (aI (3 : Int32))], [], (cm (upd n 22 ((n 22) - (1 : Int32))) t v ld sh o cd pl ka kb kc, D, E))) (c' := (2, [some (aR 0 1), some (aI (3 : Int32))], [], (cm (wuS n 18 22) t v ld sh o cd pl ka kb kc, D, E))) (by rw [wu_B (by decide) h1 h2]) K
    · skip
      refine z_Ev_blk 3 (c' := (39, [some (aR 0 1), some (aI (2 : Int32))], [aI (2 : Int32), aI (2 : Int32), aR 0 1], (cm (upd n 22 ((n 22) - (1 : Int32))) t v ld sh o cd pl ka kb kc, D, E))) rfl trivial ?_
      refine z_Ev_call0 (m' := m_X0_become) (as := [aR 0 1, aI (2 : Int32), aI (2 : Int32)]) (r := []) (c_become_0_2 (2 : Int32) (upd n 22 ((n 22) - (1 : Int32))) t v ld sh o cd pl ka kb kc D E) rfl rfl ?_
      refine z_Ev_blk 2 (c' := (2, [some (aR 0 1), some (aI (3 : Int32))], [], (cm (upd (upd (upd n 22 ((n 22) - (1 : Int32))) 22 0) 18 (2 : Int32)) t v ld sh o cd pl ka kb kc, D, E))) rfl trivial ?_
      refine z_Ev_fgt [true, true] ?_
      exact z_Ev_eq (c := (2, [some (aR 0 1), some (aI (3 : Int32))], [], (cm (upd (upd (upd n 22 ((n 22) - (1 : Int32))) 22 0) 18 (2 : Int32)) t v ld sh o cd pl ka kb kc, D, E))) (c' := (2, [some (aR 0 1), some (aI (3 : Int32))], [], (cm (wuS n 18 22) t v ld sh o cd pl ka kb kc, D, E))) (by rw [wu_A h1 (hv h1) h2]) K
  · skip
    refine z_Ev_blk 2 (c' := (2, [some (aR 0 1), some (aI (3 : Int32))], [], (cm n t v ld sh o cd pl ka kb kc, D, E))) rfl trivial ?_
    refine z_Ev_fgt [true, true] ?_
    exact z_Ev_eq (c := (2, [some (aR 0 1), some (aI (3 : Int32))], [], (cm n t v ld sh o cd pl ka kb kc, D, E))) (c' := (2, [some (aR 0 1), some (aI (3 : Int32))], [], (cm (wuS n 18 22) t v ld sh o cd pl ka kb kc, D, E))) (by rw [← wu_C (i := 18) (j := 22) h1]) K
theorem wu_0_3 {xs : Nat → Int32} {L : Nat} {o_ : z_Rs} {M' : Mem} {kk : Nat}  (n t : Nat → Int32) (v : Nat → Nat → Int32) (ld sh o cd pl ka kb kc : Nat → Int32) (D : Nat → Nat → Int32) (E : Nat → Int64) (hv : n 19 = 1 → 0 < n 23) (K : z_Ev xs L m_X0_warmUpAnHour (2, [some (aR 0 1), some (aI (4 : Int32))], [], (cm (wuS n 19 23) t v ld sh o cd pl ka kb kc, D, E)) o_ M' kk) : z_Ev xs L m_X0_warmUpAnHour (2, [some (aR 0 1), some (aI (3 : Int32))], [], (cm n t v ld sh o cd pl ka kb kc, D, E)) o_ M' kk := by
  refine z_Ev_blk 3 (c' := ((if (4 : Int32) ≤ (3 : Int32) then 48 else 7), [some (aR 0 1), some (aI (3 : Int32))], [], (cm n t v ld sh o cd pl ka kb kc, D, E))) rfl trivial ?_
  refine z_Ev_else (by decide) ?_
  refine z_Ev_blk 6 (c' := ((if (n 19) = (1 : Int32) then 17 else 42), [some (aR 0 1), some (aI (3 : Int32))], [], (cm n t v ld sh o cd pl ka kb kc, D, E))) rfl ⟨rfl, trivial⟩ ?_
  refine z_Ev_ite (fun h1 => ?_) (fun h1 => ?_)
  · skip
    refine z_Ev_blk 8 (c' := (27, [some (aR 0 1), some (aI (3 : Int32))], [], (up3 (cm n t v ld sh o cd pl ka kb kc) 0 7 3 ((n 23) - (1 : Int32)), D, E))) rfl ⟨rfl, rfl, trivial⟩ ?_
    rw [cmn_7_3]
    refine z_Ev_blk 5 (c' := ((if 0 < ((n 23) - (1 : Int32)) then 42 else 36), [some (aR 0 1), some (aI (3 : Int32))], [], (cm (upd n 23 ((n 23) - (1 : Int32))) t v ld sh o cd pl ka kb kc, D, E))) rfl ⟨rfl, trivial⟩ ?_
    refine z_Ev_ite (fun h2 => ?_) (fun h2 => ?_)
    · skip
      refine z_Ev_blk 2 (c' := (2, [some (aR 0 1), some (aI (4 : Int32))], [], (cm (upd n 23 ((n 23) - (1 : Int32))) t v ld sh o cd pl ka kb kc, D, E))) rfl trivial ?_
      refine z_Ev_fgt [true, true] ?_
      exact z_Ev_eq (c := (2, [some (aR 0 1), some (aI (4 : Int32))], [], (cm (upd n 23 ((n 23) - (1 : Int32))) t v ld sh o cd pl ka kb kc, D, E))) (c' := (2, [some (aR 0 1), some (aI (4 : Int32))], [], (cm (wuS n 19 23) t v ld sh o cd pl ka kb kc, D, E))) (by rw [wu_B (by decide) h1 h2]) K
    · skip
      refine z_Ev_blk 3 (c' := (39, [some (aR 0 1), some (aI (3 : Int32))], [aI (2 : Int32), aI (3 : Int32), aR 0 1], (cm (upd n 23 ((n 23) - (1 : Int32))) t v ld sh o cd pl ka kb kc, D, E))) rfl trivial ?_
      refine z_Ev_call0 (m' := m_X0_become) (as := [aR 0 1, aI (3 : Int32), aI (2 : Int32)]) (r := []) (c_become_0_3 (2 : Int32) (upd n 23 ((n 23) - (1 : Int32))) t v ld sh o cd pl ka kb kc D E) rfl rfl ?_
      refine z_Ev_blk 2 (c' := (2, [some (aR 0 1), some (aI (4 : Int32))], [], (cm (upd (upd (upd n 23 ((n 23) - (1 : Int32))) 23 0) 19 (2 : Int32)) t v ld sh o cd pl ka kb kc, D, E))) rfl trivial ?_
      refine z_Ev_fgt [true, true] ?_
      exact z_Ev_eq (c := (2, [some (aR 0 1), some (aI (4 : Int32))], [], (cm (upd (upd (upd n 23 ((n 23) - (1 : Int32))) 23 0) 19 (2 : Int32)) t v ld sh o cd pl ka kb kc, D, E))) (c' := (2, [some (aR 0 1), some (aI (4 : Int32))], [], (cm (wuS n 19 23) t v ld sh o cd pl ka kb kc, D, E))) (by rw [wu_A h1 (hv h1) h2]) K
  · skip
    refine z_Ev_blk 2 (c' := (2, [some (aR 0 1), some (aI (4 : Int32))], [], (cm n t v ld sh o cd pl ka kb kc, D, E))) rfl trivial ?_
    refine z_Ev_fgt [true, true] ?_
    exact z_Ev_eq (c := (2, [some (aR 0 1), some (aI (4 : Int32))], [], (cm n t v ld sh o cd pl ka kb kc, D, E))) (c' := (2, [some (aR 0 1), some (aI (4 : Int32))], [], (cm (wuS n 19 23) t v ld sh o cd pl ka kb kc, D, E))) (by rw [← wu_C (i := 19) (j := 23) h1]) K
theorem c_warm_0 {xs : Nat → Int32} {L : Nat} (n t : Nat → Int32) (v : Nat → Nat → Int32) (ld sh o cd pl ka kb kc : Nat → Int32) (D : Nat → Nat → Int32) (E : Nat → Int64) (hv0 : n 16 = 1 → 0 < n 20) (hv1 : n 17 = 1 → 0 < n 21) (hv2 : n 18 = 1 → 0 < n 22) (hv3 : n 19 = 1 → 0 < n 23) : z_Mt xs L m_X0_warmUpAnHour [aR 0 1] (cm n t v ld sh o cd pl ka kb kc, D, E) (.inl none) (cm (wuF n) t v ld sh o cd pl ka kb kc, D, E) 0 := by
  refine z_Ev_blk 2 (c' := (2, [some (aR 0 1), some (aI (0 : Int32))], [], (cm n t v ld sh o cd pl ka kb kc, D, E))) rfl trivial ?_
  refine wu_0_0 (n) t v ld sh o cd pl ka kb kc D E (by simpa [wuS_o] using hv0) ?_
  refine wu_0_1 (wuS n 16 20) t v ld sh o cd pl ka kb kc D E (by simpa [wuS_o] using hv1) ?_
  refine wu_0_2 (wuS (wuS n 16 20) 17 21) t v ld sh o cd pl ka kb kc D E (by simpa [wuS_o] using hv2) ?_
  refine wu_0_3 (wuS (wuS (wuS n 16 20) 17 21) 18 22) t v ld sh o cd pl ka kb kc D E (by simpa [wuS_o] using hv3) ?_
  refine z_Ev_blk 3 (c' := ((if (4 : Int32) ≤ (4 : Int32) then 48 else 7), [some (aR 0 1), some (aI (4 : Int32))], [], (cm (wuF n) t v ld sh o cd pl ka kb kc, D, E))) rfl trivial ?_
  refine z_Ev_if (by decide) ?_
  exact z_Ev_vretE rfl rfl (by rfl)
theorem wu_1_0 {xs : Nat → Int32} {L : Nat} {o_ : z_Rs} {M' : Mem} {kk : Nat}  (n t : Nat → Int32) (v : Nat → Nat → Int32) (ld sh o cd pl ka kb kc : Nat → Int32) (D : Nat → Nat → Int32) (E : Nat → Int64) (hv : t 16 = 1 → 0 < t 20) (K : z_Ev xs L m_X0_warmUpAnHour (2, [some (aR 1 1), some (aI (1 : Int32))], [], (cm n (wuS t 16 20) v ld sh o cd pl ka kb kc, D, E)) o_ M' kk) : z_Ev xs L m_X0_warmUpAnHour (2, [some (aR 1 1), some (aI (0 : Int32))], [], (cm n t v ld sh o cd pl ka kb kc, D, E)) o_ M' kk := by
  refine z_Ev_blk 3 (c' := ((if (4 : Int32) ≤ (0 : Int32) then 48 else 7), [some (aR 1 1), some (aI (0 : Int32))], [], (cm n t v ld sh o cd pl ka kb kc, D, E))) rfl trivial ?_
  refine z_Ev_else (by decide) ?_
  refine z_Ev_blk 6 (c' := ((if (t 16) = (1 : Int32) then 17 else 42), [some (aR 1 1), some (aI (0 : Int32))], [], (cm n t v ld sh o cd pl ka kb kc, D, E))) rfl ⟨rfl, trivial⟩ ?_
  refine z_Ev_ite (fun h1 => ?_) (fun h1 => ?_)
  · skip
    refine z_Ev_blk 8 (c' := (27, [some (aR 1 1), some (aI (0 : Int32))], [], (up3 (cm n t v ld sh o cd pl ka kb kc) 1 7 0 ((t 20) - (1 : Int32)), D, E))) rfl ⟨rfl, rfl, trivial⟩ ?_
    rw [cmt_7_0]
    refine z_Ev_blk 5 (c' := ((if 0 < ((t 20) - (1 : Int32)) then 42 else 36), [some (aR 1 1), some (aI (0 : Int32))], [], (cm n (upd t 20 ((t 20) - (1 : Int32))) v ld sh o cd pl ka kb kc, D, E))) rfl ⟨rfl, trivial⟩ ?_
    refine z_Ev_ite (fun h2 => ?_) (fun h2 => ?_)
    · skip
      refine z_Ev_blk 2 (c' := (2, [some (aR 1 1), some (aI (1 : Int32))], [], (cm n (upd t 20 ((t 20) - (1 : Int32))) v ld sh o cd pl ka kb kc, D, E))) rfl trivial ?_
      refine z_Ev_fgt [true, true] ?_
      exact z_Ev_eq (c := (2, [some (aR 1 1), some (aI (1 : Int32))], [], (cm n (upd t 20 ((t 20) - (1 : Int32))) v ld sh o cd pl ka kb kc, D, E))) (c' := (2, [some (aR 1 1), some (aI (1 : Int32))], [], (cm n (wuS t 16 20) v ld sh o cd pl ka kb kc, D, E))) (by rw [wu_B (by decide) h1 h2]) K
    · skip
      refine z_Ev_blk 3 (c' := (39, [some (aR 1 1), some (aI (0 : Int32))], [aI (2 : Int32), aI (0 : Int32), aR 1 1], (cm n (upd t 20 ((t 20) - (1 : Int32))) v ld sh o cd pl ka kb kc, D, E))) rfl trivial ?_
      refine z_Ev_call0 (m' := m_X0_become) (as := [aR 1 1, aI (0 : Int32), aI (2 : Int32)]) (r := []) (c_become_1_0 (2 : Int32) n (upd t 20 ((t 20) - (1 : Int32))) v ld sh o cd pl ka kb kc D E) rfl rfl ?_
      refine z_Ev_blk 2 (c' := (2, [some (aR 1 1), some (aI (1 : Int32))], [], (cm n (upd (upd (upd t 20 ((t 20) - (1 : Int32))) 20 0) 16 (2 : Int32)) v ld sh o cd pl ka kb kc, D, E))) rfl trivial ?_
      refine z_Ev_fgt [true, true] ?_
      exact z_Ev_eq (c := (2, [some (aR 1 1), some (aI (1 : Int32))], [], (cm n (upd (upd (upd t 20 ((t 20) - (1 : Int32))) 20 0) 16 (2 : Int32)) v ld sh o cd pl ka kb kc, D, E))) (c' := (2, [some (aR 1 1), some (aI (1 : Int32))], [], (cm n (wuS t 16 20) v ld sh o cd pl ka kb kc, D, E))) (by rw [wu_A h1 (hv h1) h2]) K
  · skip
    refine z_Ev_blk 2 (c' := (2, [some (aR 1 1), some (aI (1 : Int32))], [], (cm n t v ld sh o cd pl ka kb kc, D, E))) rfl trivial ?_
    refine z_Ev_fgt [true, true] ?_
    exact z_Ev_eq (c := (2, [some (aR 1 1), some (aI (1 : Int32))], [], (cm n t v ld sh o cd pl ka kb kc, D, E))) (c' := (2, [some (aR 1 1), some (aI (1 : Int32))], [], (cm n (wuS t 16 20) v ld sh o cd pl ka kb kc, D, E))) (by rw [← wu_C (i := 16) (j := 20) h1]) K
theorem wu_1_1 {xs : Nat → Int32} {L : Nat} {o_ : z_Rs} {M' : Mem} {kk : Nat}  (n t : Nat → Int32) (v : Nat → Nat → Int32) (ld sh o cd pl ka kb kc : Nat → Int32) (D : Nat → Nat → Int32) (E : Nat → Int64) (hv : t 17 = 1 → 0 < t 21) (K : z_Ev xs L m_X0_warmUpAnHour (2, [some (aR 1 1), some (aI (2 : Int32))], [], (cm n (wuS t 17 21) v ld sh o cd pl ka kb kc, D, E)) o_ M' kk) : z_Ev xs L m_X0_warmUpAnHour (2, [some (aR 1 1), some (aI (1 : Int32))], [], (cm n t v ld sh o cd pl ka kb kc, D, E)) o_ M' kk := by
  refine z_Ev_blk 3 (c' := ((if (4 : Int32) ≤ (1 : Int32) then 48 else 7), [some (aR 1 1), some (aI (1 : Int32))], [], (cm n t v ld sh o cd pl ka kb kc, D, E))) rfl trivial ?_
  refine z_Ev_else (by decide) ?_
  refine z_Ev_blk 6 (c' := ((if (t 17) = (1 : Int32) then 17 else 42), [some (aR 1 1), some (aI (1 : Int32))], [], (cm n t v ld sh o cd pl ka kb kc, D, E))) rfl ⟨rfl, trivial⟩ ?_
  refine z_Ev_ite (fun h1 => ?_) (fun h1 => ?_)
  · skip
    refine z_Ev_blk 8 (c' := (27, [some (aR 1 1), some (aI (1 : Int32))], [], (up3 (cm n t v ld sh o cd pl ka kb kc) 1 7 1 ((t 21) - (1 : Int32)), D, E))) rfl ⟨rfl, rfl, trivial⟩ ?_
    rw [cmt_7_1]
    refine z_Ev_blk 5 (c' := ((if 0 < ((t 21) - (1 : Int32)) then 42 else 36), [some (aR 1 1), some (aI (1 : Int32))], [], (cm n (upd t 21 ((t 21) - (1 : Int32))) v ld sh o cd pl ka kb kc, D, E))) rfl ⟨rfl, trivial⟩ ?_
    refine z_Ev_ite (fun h2 => ?_) (fun h2 => ?_)
    · skip
      refine z_Ev_blk 2 (c' := (2, [some (aR 1 1), some (aI (2 : Int32))], [], (cm n (upd t 21 ((t 21) - (1 : Int32))) v ld sh o cd pl ka kb kc, D, E))) rfl trivial ?_
      refine z_Ev_fgt [true, true] ?_
      exact z_Ev_eq (c := (2, [some (aR 1 1), some (aI (2 : Int32))], [], (cm n (upd t 21 ((t 21) - (1 : Int32))) v ld sh o cd pl ka kb kc, D, E))) (c' := (2, [some (aR 1 1), some (aI (2 : Int32))], [], (cm n (wuS t 17 21) v ld sh o cd pl ka kb kc, D, E))) (by rw [wu_B (by decide) h1 h2]) K
    · skip
      refine z_Ev_blk 3 (c' := (39, [some (aR 1 1), some (aI (1 : Int32))], [aI (2 : Int32), aI (1 : Int32), aR 1 1], (cm n (upd t 21 ((t 21) - (1 : Int32))) v ld sh o cd pl ka kb kc, D, E))) rfl trivial ?_
      refine z_Ev_call0 (m' := m_X0_become) (as := [aR 1 1, aI (1 : Int32), aI (2 : Int32)]) (r := []) (c_become_1_1 (2 : Int32) n (upd t 21 ((t 21) - (1 : Int32))) v ld sh o cd pl ka kb kc D E) rfl rfl ?_
      refine z_Ev_blk 2 (c' := (2, [some (aR 1 1), some (aI (2 : Int32))], [], (cm n (upd (upd (upd t 21 ((t 21) - (1 : Int32))) 21 0) 17 (2 : Int32)) v ld sh o cd pl ka kb kc, D, E))) rfl trivial ?_
      refine z_Ev_fgt [true, true] ?_
      exact z_Ev_eq (c := (2, [some (aR 1 1), some (aI (2 : Int32))], [], (cm n (upd (upd (upd t 21 ((t 21) - (1 : Int32))) 21 0) 17 (2 : Int32)) v ld sh o cd pl ka kb kc, D, E))) (c' := (2, [some (aR 1 1), some (aI (2 : Int32))], [], (cm n (wuS t 17 21) v ld sh o cd pl ka kb kc, D, E))) (by rw [wu_A h1 (hv h1) h2]) K
  · skip
    refine z_Ev_blk 2 (c' := (2, [some (aR 1 1), some (aI (2 : Int32))], [], (cm n t v ld sh o cd pl ka kb kc, D, E))) rfl trivial ?_
    refine z_Ev_fgt [true, true] ?_
    exact z_Ev_eq (c := (2, [some (aR 1 1), some (aI (2 : Int32))], [], (cm n t v ld sh o cd pl ka kb kc, D, E))) (c' := (2, [some (aR 1 1), some (aI (2 : Int32))], [], (cm n (wuS t 17 21) v ld sh o cd pl ka kb kc, D, E))) (by rw [← wu_C (i := 17) (j := 21) h1]) K
theorem wu_1_2 {xs : Nat → Int32} {L : Nat} {o_ : z_Rs} {M' : Mem} {kk : Nat}  (n t : Nat → Int32) (v : Nat → Nat → Int32) (ld sh o cd pl ka kb kc : Nat → Int32) (D : Nat → Nat → Int32) (E : Nat → Int64) (hv : t 18 = 1 → 0 < t 22) (K : z_Ev xs L m_X0_warmUpAnHour (2, [some (aR 1 1), some (aI (3 : Int32))], [], (cm n (wuS t 18 22) v ld sh o cd pl ka kb kc, D, E)) o_ M' kk) : z_Ev xs L m_X0_warmUpAnHour (2, [some (aR 1 1), some (aI (2 : Int32))], [], (cm n t v ld sh o cd pl ka kb kc, D, E)) o_ M' kk := by
  refine z_Ev_blk 3 (c' := ((if (4 : Int32) ≤ (2 : Int32) then 48 else 7), [some (aR 1 1), some (aI (2 : Int32))], [], (cm n t v ld sh o cd pl ka kb kc, D, E))) rfl trivial ?_
  refine z_Ev_else (by decide) ?_
  refine z_Ev_blk 6 (c' := ((if (t 18) = (1 : Int32) then 17 else 42), [some (aR 1 1), some (aI (2 : Int32))], [], (cm n t v ld sh o cd pl ka kb kc, D, E))) rfl ⟨rfl, trivial⟩ ?_
  refine z_Ev_ite (fun h1 => ?_) (fun h1 => ?_)
  · skip
    refine z_Ev_blk 8 (c' := (27, [some (aR 1 1), some (aI (2 : Int32))], [], (up3 (cm n t v ld sh o cd pl ka kb kc) 1 7 2 ((t 22) - (1 : Int32)), D, E))) rfl ⟨rfl, rfl, trivial⟩ ?_
    rw [cmt_7_2]
    refine z_Ev_blk 5 (c' := ((if 0 < ((t 22) - (1 : Int32)) then 42 else 36), [some (aR 1 1), some (aI (2 : Int32))], [], (cm n (upd t 22 ((t 22) - (1 : Int32))) v ld sh o cd pl ka kb kc, D, E))) rfl ⟨rfl, trivial⟩ ?_
    refine z_Ev_ite (fun h2 => ?_) (fun h2 => ?_)
    · skip
      refine z_Ev_blk 2 (c' := (2, [some (aR 1 1), some (aI (3 : Int32))], [], (cm n (upd t 22 ((t 22) - (1 : Int32))) v ld sh o cd pl ka kb kc, D, E))) rfl trivial ?_
      refine z_Ev_fgt [true, true] ?_
      exact z_Ev_eq (c := (2, [some (aR 1 1), some (aI (3 : Int32))], [], (cm n (upd t 22 ((t 22) - (1 : Int32))) v ld sh o cd pl ka kb kc, D, E))) (c' := (2, [some (aR 1 1), some (aI (3 : Int32))], [], (cm n (wuS t 18 22) v ld sh o cd pl ka kb kc, D, E))) (by rw [wu_B (by decide) h1 h2]) K
    · skip
      refine z_Ev_blk 3 (c' := (39, [some (aR 1 1), some (aI (2 : Int32))], [aI (2 : Int32), aI (2 : Int32), aR 1 1], (cm n (upd t 22 ((t 22) - (1 : Int32))) v ld sh o cd pl ka kb kc, D, E))) rfl trivial ?_
      refine z_Ev_call0 (m' := m_X0_become) (as := [aR 1 1, aI (2 : Int32), aI (2 : Int32)]) (r := []) (c_become_1_2 (2 : Int32) n (upd t 22 ((t 22) - (1 : Int32))) v ld sh o cd pl ka kb kc D E) rfl rfl ?_
      refine z_Ev_blk 2 (c' := (2, [some (aR 1 1), some (aI (3 : Int32))], [], (cm n (upd (upd (upd t 22 ((t 22) - (1 : Int32))) 22 0) 18 (2 : Int32)) v ld sh o cd pl ka kb kc, D, E))) rfl trivial ?_
      refine z_Ev_fgt [true, true] ?_
      exact z_Ev_eq (c := (2, [some (aR 1 1), some (aI (3 : Int32))], [], (cm n (upd (upd (upd t 22 ((t 22) - (1 : Int32))) 22 0) 18 (2 : Int32)) v ld sh o cd pl ka kb kc, D, E))) (c' := (2, [some (aR 1 1), some (aI (3 : Int32))], [], (cm n (wuS t 18 22) v ld sh o cd pl ka kb kc, D, E))) (by rw [wu_A h1 (hv h1) h2]) K
  · skip
    refine z_Ev_blk 2 (c' := (2, [some (aR 1 1), some (aI (3 : Int32))], [], (cm n t v ld sh o cd pl ka kb kc, D, E))) rfl trivial ?_
    refine z_Ev_fgt [true, true] ?_
    exact z_Ev_eq (c := (2, [some (aR 1 1), some (aI (3 : Int32))], [], (cm n t v ld sh o cd pl ka kb kc, D, E))) (c' := (2, [some (aR 1 1), some (aI (3 : Int32))], [], (cm n (wuS t 18 22) v ld sh o cd pl ka kb kc, D, E))) (by rw [← wu_C (i := 18) (j := 22) h1]) K
theorem wu_1_3 {xs : Nat → Int32} {L : Nat} {o_ : z_Rs} {M' : Mem} {kk : Nat}  (n t : Nat → Int32) (v : Nat → Nat → Int32) (ld sh o cd pl ka kb kc : Nat → Int32) (D : Nat → Nat → Int32) (E : Nat → Int64) (hv : t 19 = 1 → 0 < t 23) (K : z_Ev xs L m_X0_warmUpAnHour (2, [some (aR 1 1), some (aI (4 : Int32))], [], (cm n (wuS t 19 23) v ld sh o cd pl ka kb kc, D, E)) o_ M' kk) : z_Ev xs L m_X0_warmUpAnHour (2, [some (aR 1 1), some (aI (3 : Int32))], [], (cm n t v ld sh o cd pl ka kb kc, D, E)) o_ M' kk := by
  refine z_Ev_blk 3 (c' := ((if (4 : Int32) ≤ (3 : Int32) then 48 else 7), [some (aR 1 1), some (aI (3 : Int32))], [], (cm n t v ld sh o cd pl ka kb kc, D, E))) rfl trivial ?_
  refine z_Ev_else (by decide) ?_
  refine z_Ev_blk 6 (c' := ((if (t 19) = (1 : Int32) then 17 else 42), [some (aR 1 1), some (aI (3 : Int32))], [], (cm n t v ld sh o cd pl ka kb kc, D, E))) rfl ⟨rfl, trivial⟩ ?_
  refine z_Ev_ite (fun h1 => ?_) (fun h1 => ?_)
  · skip
    refine z_Ev_blk 8 (c' := (27, [some (aR 1 1), some (aI (3 : Int32))], [], (up3 (cm n t v ld sh o cd pl ka kb kc) 1 7 3 ((t 23) - (1 : Int32)), D, E))) rfl ⟨rfl, rfl, trivial⟩ ?_
    rw [cmt_7_3]
    refine z_Ev_blk 5 (c' := ((if 0 < ((t 23) - (1 : Int32)) then 42 else 36), [some (aR 1 1), some (aI (3 : Int32))], [], (cm n (upd t 23 ((t 23) - (1 : Int32))) v ld sh o cd pl ka kb kc, D, E))) rfl ⟨rfl, trivial⟩ ?_
    refine z_Ev_ite (fun h2 => ?_) (fun h2 => ?_)
    · skip
      refine z_Ev_blk 2 (c' := (2, [some (aR 1 1), some (aI (4 : Int32))], [], (cm n (upd t 23 ((t 23) - (1 : Int32))) v ld sh o cd pl ka kb kc, D, E))) rfl trivial ?_
      refine z_Ev_fgt [true, true] ?_
      exact z_Ev_eq (c := (2, [some (aR 1 1), some (aI (4 : Int32))], [], (cm n (upd t 23 ((t 23) - (1 : Int32))) v ld sh o cd pl ka kb kc, D, E))) (c' := (2, [some (aR 1 1), some (aI (4 : Int32))], [], (cm n (wuS t 19 23) v ld sh o cd pl ka kb kc, D, E))) (by rw [wu_B (by decide) h1 h2]) K
    · skip
      refine z_Ev_blk 3 (c' := (39, [some (aR 1 1), some (aI (3 : Int32))], [aI (2 : Int32), aI (3 : Int32), aR 1 1], (cm n (upd t 23 ((t 23) - (1 : Int32))) v ld sh o cd pl ka kb kc, D, E))) rfl trivial ?_
      refine z_Ev_call0 (m' := m_X0_become) (as := [aR 1 1, aI (3 : Int32), aI (2 : Int32)]) (r := []) (c_become_1_3 (2 : Int32) n (upd t 23 ((t 23) - (1 : Int32))) v ld sh o cd pl ka kb kc D E) rfl rfl ?_
      refine z_Ev_blk 2 (c' := (2, [some (aR 1 1), some (aI (4 : Int32))], [], (cm n (upd (upd (upd t 23 ((t 23) - (1 : Int32))) 23 0) 19 (2 : Int32)) v ld sh o cd pl ka kb kc, D, E))) rfl trivial ?_
      refine z_Ev_fgt [true, true] ?_
      exact z_Ev_eq (c := (2, [some (aR 1 1), some (aI (4 : Int32))], [], (cm n (upd (upd (upd t 23 ((t 23) - (1 : Int32))) 23 0) 19 (2 : Int32)) v ld sh o cd pl ka kb kc, D, E))) (c' := (2, [some (aR 1 1), some (aI (4 : Int32))], [], (cm n (wuS t 19 23) v ld sh o cd pl ka kb kc, D, E))) (by rw [wu_A h1 (hv h1) h2]) K
  · skip
    refine z_Ev_blk 2 (c' := (2, [some (aR 1 1), some (aI (4 : Int32))], [], (cm n t v ld sh o cd pl ka kb kc, D, E))) rfl trivial ?_
    refine z_Ev_fgt [true, true] ?_
    exact z_Ev_eq (c := (2, [some (aR 1 1), some (aI (4 : Int32))], [], (cm n t v ld sh o cd pl ka kb kc, D, E))) (c' := (2, [some (aR 1 1), some (aI (4 : Int32))], [], (cm n (wuS t 19 23) v ld sh o cd pl ka kb kc, D, E))) (by rw [← wu_C (i := 19) (j := 23) h1]) K
theorem c_warm_1 {xs : Nat → Int32} {L : Nat} (n t : Nat → Int32) (v : Nat → Nat → Int32) (ld sh o cd pl ka kb kc : Nat → Int32) (D : Nat → Nat → Int32) (E : Nat → Int64) (hv0 : t 16 = 1 → 0 < t 20) (hv1 : t 17 = 1 → 0 < t 21) (hv2 : t 18 = 1 → 0 < t 22) (hv3 : t 19 = 1 → 0 < t 23) : z_Mt xs L m_X0_warmUpAnHour [aR 1 1] (cm n t v ld sh o cd pl ka kb kc, D, E) (.inl none) (cm n (wuF t) v ld sh o cd pl ka kb kc, D, E) 0 := by
  refine z_Ev_blk 2 (c' := (2, [some (aR 1 1), some (aI (0 : Int32))], [], (cm n t v ld sh o cd pl ka kb kc, D, E))) rfl trivial ?_
  refine wu_1_0 n (t) v ld sh o cd pl ka kb kc D E (by simpa [wuS_o] using hv0) ?_
  refine wu_1_1 n (wuS t 16 20) v ld sh o cd pl ka kb kc D E (by simpa [wuS_o] using hv1) ?_
  refine wu_1_2 n (wuS (wuS t 16 20) 17 21) v ld sh o cd pl ka kb kc D E (by simpa [wuS_o] using hv2) ?_
  refine wu_1_3 n (wuS (wuS (wuS t 16 20) 17 21) 18 22) v ld sh o cd pl ka kb kc D E (by simpa [wuS_o] using hv3) ?_
  refine z_Ev_blk 3 (c' := ((if (4 : Int32) ≤ (4 : Int32) then 48 else 7), [some (aR 1 1), some (aI (4 : Int32))], [], (cm n (wuF t) v ld sh o cd pl ka kb kc, D, E))) rfl trivial ?_
  refine z_Ev_if (by decide) ?_
  exact z_Ev_vretE rfl rfl (by rfl)
def bfS (s ld : Nat → Int32) (k : Nat) : Nat → Int32 := if s (16 + k) = 2 then upd (upd s (24 + k) (s (24 + k) + s (8 + k) * ld k / 10)) (28 + k) (s (28 + k) + 1) else s
theorem bf_0_0 {xs : Nat → Int32} {L : Nat} {o_ : z_Rs} {M' : Mem} {kk : Nat}  (n t : Nat → Int32) (v : Nat → Nat → Int32) (ld sh o cd pl ka kb kc : Nat → Int32) (D : Nat → Nat → Int32) (E : Nat → Int64)  (K : z_Ev xs L m_X0_burnFuel (2, [some (aR 0 1), some (aR 0 24), some (aI (1 : Int32))], [], (cm (bfS n ld 0) t v ld sh o cd pl ka kb kc, D, E)) o_ M' kk) : z_Ev xs L m_X0_burnFuel (2, [some (aR 0 1), some (aR 0 24), some (aI (0 : Int32))], [], (cm n t v ld sh o cd pl ka kb kc, D, E)) o_ M' kk := by
  refine z_Ev_blk 3 (c' := ((if (4 : Int32) ≤ (0 : Int32) then 61 else 7), [some (aR 0 1), some (aR 0 24), some (aI (0 : Int32))], [], (cm n t v ld sh o cd pl ka kb kc, D, E))) rfl trivial ?_
  refine z_Ev_else (by decide) ?_
  refine z_Ev_blk 4 (c' := ((if (4 : Int32) ≤ (0 : Int32) then 61 else 13), [some (aR 0 1), some (aR 0 24), some (aI (0 : Int32))], [], (cm n t v ld sh o cd pl ka kb kc, D, E))) rfl trivial ?_
  refine z_Ev_else (by decide) ?_
  refine z_Ev_blk 6 (c' := ((if (n 16) = (2 : Int32) then 23 else 55), [some (aR 0 1), some (aR 0 24), some (aI (0 : Int32))], [], (cm n t v ld sh o cd pl ka kb kc, D, E))) rfl ⟨rfl, trivial⟩ ?_
  refine z_Ev_ite (fun h1 => ?_) (fun h1 => ?_)
  · skip
    refine z_Ev_blk 17 (c' := (45, [some (aR 0 1), some (aR 0 24), some (aI (0 : Int32))], [], (up3 (cm n t v ld sh o cd pl ka kb kc) 0 8 0 ((n 24) + (((n 8) * (ld 0)) / (10 : Int32))), D, E))) rfl ⟨rfl, rfl, rfl, by decide, rfl, trivial⟩ ?_
    rw [cmn_8_0]
    refine z_Ev_blk 8 (c' := (55, [some (aR 0 1), some (aR 0 24), some (aI (0 : Int32))], [], (up3 (cm (upd n 24 ((n 24) + (((n 8) * (ld 0)) / (10 : Int32)))) t v ld sh o cd pl ka kb kc) 0 9 0 ((n 28) + (1 : Int32)), D, E))) rfl ⟨rfl, rfl, trivial⟩ ?_
    rw [cmn_9_0]
    refine z_Ev_blk 2 (c' := (2, [some (aR 0 1), some (aR 0 24), some (aI (1 : Int32))], [], (cm (upd (upd n 24 ((n 24) + (((n 8) * (ld 0)) / (10 : Int32)))) 28 ((n 28) + (1 : Int32))) t v ld sh o cd pl ka kb kc, D, E))) rfl trivial ?_
    refine z_Ev_fgt [true, true, true] ?_
    exact z_Ev_eq (c := (2, [some (aR 0 1), some (aR 0 24), some (aI (1 : Int32))], [], (cm (upd (upd n 24 ((n 24) + (((n 8) * (ld 0)) / (10 : Int32)))) 28 ((n 28) + (1 : Int32))) t v ld sh o cd pl ka kb kc, D, E))) (c' := (2, [some (aR 0 1), some (aR 0 24), some (aI (1 : Int32))], [], (cm (bfS n ld 0) t v ld sh o cd pl ka kb kc, D, E))) (by simp [bfS, h1]) K
  · skip
    refine z_Ev_blk 2 (c' := (2, [some (aR 0 1), some (aR 0 24), some (aI (1 : Int32))], [], (cm n t v ld sh o cd pl ka kb kc, D, E))) rfl trivial ?_
    refine z_Ev_fgt [true, true, true] ?_
    exact z_Ev_eq (c := (2, [some (aR 0 1), some (aR 0 24), some (aI (1 : Int32))], [], (cm n t v ld sh o cd pl ka kb kc, D, E))) (c' := (2, [some (aR 0 1), some (aR 0 24), some (aI (1 : Int32))], [], (cm (bfS n ld 0) t v ld sh o cd pl ka kb kc, D, E))) (by simp [bfS, h1]) K
theorem bf_0_1 {xs : Nat → Int32} {L : Nat} {o_ : z_Rs} {M' : Mem} {kk : Nat}  (n t : Nat → Int32) (v : Nat → Nat → Int32) (ld sh o cd pl ka kb kc : Nat → Int32) (D : Nat → Nat → Int32) (E : Nat → Int64)  (K : z_Ev xs L m_X0_burnFuel (2, [some (aR 0 1), some (aR 0 24), some (aI (2 : Int32))], [], (cm (bfS n ld 1) t v ld sh o cd pl ka kb kc, D, E)) o_ M' kk) : z_Ev xs L m_X0_burnFuel (2, [some (aR 0 1), some (aR 0 24), some (aI (1 : Int32))], [], (cm n t v ld sh o cd pl ka kb kc, D, E)) o_ M' kk := by
  refine z_Ev_blk 3 (c' := ((if (4 : Int32) ≤ (1 : Int32) then 61 else 7), [some (aR 0 1), some (aR 0 24), some (aI (1 : Int32))], [], (cm n t v ld sh o cd pl ka kb kc, D, E))) rfl trivial ?_
  refine z_Ev_else (by decide) ?_
  refine z_Ev_blk 4 (c' := ((if (4 : Int32) ≤ (1 : Int32) then 61 else 13), [some (aR 0 1), some (aR 0 24), some (aI (1 : Int32))], [], (cm n t v ld sh o cd pl ka kb kc, D, E))) rfl trivial ?_
  refine z_Ev_else (by decide) ?_
  refine z_Ev_blk 6 (c' := ((if (n 17) = (2 : Int32) then 23 else 55), [some (aR 0 1), some (aR 0 24), some (aI (1 : Int32))], [], (cm n t v ld sh o cd pl ka kb kc, D, E))) rfl ⟨rfl, trivial⟩ ?_
  refine z_Ev_ite (fun h1 => ?_) (fun h1 => ?_)
  · skip
    refine z_Ev_blk 17 (c' := (45, [some (aR 0 1), some (aR 0 24), some (aI (1 : Int32))], [], (up3 (cm n t v ld sh o cd pl ka kb kc) 0 8 1 ((n 25) + (((n 9) * (ld 1)) / (10 : Int32))), D, E))) rfl ⟨rfl, rfl, rfl, by decide, rfl, trivial⟩ ?_
    rw [cmn_8_1]
    refine z_Ev_blk 8 (c' := (55, [some (aR 0 1), some (aR 0 24), some (aI (1 : Int32))], [], (up3 (cm (upd n 25 ((n 25) + (((n 9) * (ld 1)) / (10 : Int32)))) t v ld sh o cd pl ka kb kc) 0 9 1 ((n 29) + (1 : Int32)), D, E))) rfl ⟨rfl, rfl, trivial⟩ ?_
    rw [cmn_9_1]
    refine z_Ev_blk 2 (c' := (2, [some (aR 0 1), some (aR 0 24), some (aI (2 : Int32))], [], (cm (upd (upd n 25 ((n 25) + (((n 9) * (ld 1)) / (10 : Int32)))) 29 ((n 29) + (1 : Int32))) t v ld sh o cd pl ka kb kc, D, E))) rfl trivial ?_
    refine z_Ev_fgt [true, true, true] ?_
    exact z_Ev_eq (c := (2, [some (aR 0 1), some (aR 0 24), some (aI (2 : Int32))], [], (cm (upd (upd n 25 ((n 25) + (((n 9) * (ld 1)) / (10 : Int32)))) 29 ((n 29) + (1 : Int32))) t v ld sh o cd pl ka kb kc, D, E))) (c' := (2, [some (aR 0 1), some (aR 0 24), some (aI (2 : Int32))], [], (cm (bfS n ld 1) t v ld sh o cd pl ka kb kc, D, E))) (by simp [bfS, h1]) K
  · skip
    refine z_Ev_blk 2 (c' := (2, [some (aR 0 1), some (aR 0 24), some (aI (2 : Int32))], [], (cm n t v ld sh o cd pl ka kb kc, D, E))) rfl trivial ?_
    refine z_Ev_fgt [true, true, true] ?_
    exact z_Ev_eq (c := (2, [some (aR 0 1), some (aR 0 24), some (aI (2 : Int32))], [], (cm n t v ld sh o cd pl ka kb kc, D, E))) (c' := (2, [some (aR 0 1), some (aR 0 24), some (aI (2 : Int32))], [], (cm (bfS n ld 1) t v ld sh o cd pl ka kb kc, D, E))) (by simp [bfS, h1]) K
theorem bf_0_2 {xs : Nat → Int32} {L : Nat} {o_ : z_Rs} {M' : Mem} {kk : Nat}  (n t : Nat → Int32) (v : Nat → Nat → Int32) (ld sh o cd pl ka kb kc : Nat → Int32) (D : Nat → Nat → Int32) (E : Nat → Int64)  (K : z_Ev xs L m_X0_burnFuel (2, [some (aR 0 1), some (aR 0 24), some (aI (3 : Int32))], [], (cm (bfS n ld 2) t v ld sh o cd pl ka kb kc, D, E)) o_ M' kk) : z_Ev xs L m_X0_burnFuel (2, [some (aR 0 1), some (aR 0 24), some (aI (2 : Int32))], [], (cm n t v ld sh o cd pl ka kb kc, D, E)) o_ M' kk := by
  refine z_Ev_blk 3 (c' := ((if (4 : Int32) ≤ (2 : Int32) then 61 else 7), [some (aR 0 1), some (aR 0 24), some (aI (2 : Int32))], [], (cm n t v ld sh o cd pl ka kb kc, D, E))) rfl trivial ?_
  refine z_Ev_else (by decide) ?_
  refine z_Ev_blk 4 (c' := ((if (4 : Int32) ≤ (2 : Int32) then 61 else 13), [some (aR 0 1), some (aR 0 24), some (aI (2 : Int32))], [], (cm n t v ld sh o cd pl ka kb kc, D, E))) rfl trivial ?_
  refine z_Ev_else (by decide) ?_
  refine z_Ev_blk 6 (c' := ((if (n 18) = (2 : Int32) then 23 else 55), [some (aR 0 1), some (aR 0 24), some (aI (2 : Int32))], [], (cm n t v ld sh o cd pl ka kb kc, D, E))) rfl ⟨rfl, trivial⟩ ?_
  refine z_Ev_ite (fun h1 => ?_) (fun h1 => ?_)
  · skip
    refine z_Ev_blk 17 (c' := (45, [some (aR 0 1), some (aR 0 24), some (aI (2 : Int32))], [], (up3 (cm n t v ld sh o cd pl ka kb kc) 0 8 2 ((n 26) + (((n 10) * (ld 2)) / (10 : Int32))), D, E))) rfl ⟨rfl, rfl, rfl, by decide, rfl, trivial⟩ ?_
    rw [cmn_8_2]
    refine z_Ev_blk 8 (c' := (55, [some (aR 0 1), some (aR 0 24), some (aI (2 : Int32))], [], (up3 (cm (upd n 26 ((n 26) + (((n 10) * (ld 2)) / (10 : Int32)))) t v ld sh o cd pl ka kb kc) 0 9 2 ((n 30) + (1 : Int32)), D, E))) rfl ⟨rfl, rfl, trivial⟩ ?_
    rw [cmn_9_2]
    refine z_Ev_blk 2 (c' := (2, [some (aR 0 1), some (aR 0 24), some (aI (3 : Int32))], [], (cm (upd (upd n 26 ((n 26) + (((n 10) * (ld 2)) / (10 : Int32)))) 30 ((n 30) + (1 : Int32))) t v ld sh o cd pl ka kb kc, D, E))) rfl trivial ?_
    refine z_Ev_fgt [true, true, true] ?_
    exact z_Ev_eq (c := (2, [some (aR 0 1), some (aR 0 24), some (aI (3 : Int32))], [], (cm (upd (upd n 26 ((n 26) + (((n 10) * (ld 2)) / (10 : Int32)))) 30 ((n 30) + (1 : Int32))) t v ld sh o cd pl ka kb kc, D, E))) (c' := (2, [some (aR 0 1), some (aR 0 24), some (aI (3 : Int32))], [], (cm (bfS n ld 2) t v ld sh o cd pl ka kb kc, D, E))) (by simp [bfS, h1]) K
  · skip
    refine z_Ev_blk 2 (c' := (2, [some (aR 0 1), some (aR 0 24), some (aI (3 : Int32))], [], (cm n t v ld sh o cd pl ka kb kc, D, E))) rfl trivial ?_
    refine z_Ev_fgt [true, true, true] ?_
    exact z_Ev_eq (c := (2, [some (aR 0 1), some (aR 0 24), some (aI (3 : Int32))], [], (cm n t v ld sh o cd pl ka kb kc, D, E))) (c' := (2, [some (aR 0 1), some (aR 0 24), some (aI (3 : Int32))], [], (cm (bfS n ld 2) t v ld sh o cd pl ka kb kc, D, E))) (by simp [bfS, h1]) K
theorem bf_0_3 {xs : Nat → Int32} {L : Nat} {o_ : z_Rs} {M' : Mem} {kk : Nat}  (n t : Nat → Int32) (v : Nat → Nat → Int32) (ld sh o cd pl ka kb kc : Nat → Int32) (D : Nat → Nat → Int32) (E : Nat → Int64)  (K : z_Ev xs L m_X0_burnFuel (2, [some (aR 0 1), some (aR 0 24), some (aI (4 : Int32))], [], (cm (bfS n ld 3) t v ld sh o cd pl ka kb kc, D, E)) o_ M' kk) : z_Ev xs L m_X0_burnFuel (2, [some (aR 0 1), some (aR 0 24), some (aI (3 : Int32))], [], (cm n t v ld sh o cd pl ka kb kc, D, E)) o_ M' kk := by
  refine z_Ev_blk 3 (c' := ((if (4 : Int32) ≤ (3 : Int32) then 61 else 7), [some (aR 0 1), some (aR 0 24), some (aI (3 : Int32))], [], (cm n t v ld sh o cd pl ka kb kc, D, E))) rfl trivial ?_
  refine z_Ev_else (by decide) ?_
  refine z_Ev_blk 4 (c' := ((if (4 : Int32) ≤ (3 : Int32) then 61 else 13), [some (aR 0 1), some (aR 0 24), some (aI (3 : Int32))], [], (cm n t v ld sh o cd pl ka kb kc, D, E))) rfl trivial ?_
  refine z_Ev_else (by decide) ?_
  refine z_Ev_blk 6 (c' := ((if (n 19) = (2 : Int32) then 23 else 55), [some (aR 0 1), some (aR 0 24), some (aI (3 : Int32))], [], (cm n t v ld sh o cd pl ka kb kc, D, E))) rfl ⟨rfl, trivial⟩ ?_
  refine z_Ev_ite (fun h1 => ?_) (fun h1 => ?_)
  · skip
    refine z_Ev_blk 17 (c' := (45, [some (aR 0 1), some (aR 0 24), some (aI (3 : Int32))], [], (up3 (cm n t v ld sh o cd pl ka kb kc) 0 8 3 ((n 27) + (((n 11) * (ld 3)) / (10 : Int32))), D, E))) rfl ⟨rfl, rfl, rfl, by decide, rfl, trivial⟩ ?_
    rw [cmn_8_3]
    refine z_Ev_blk 8 (c' := (55, [some (aR 0 1), some (aR 0 24), some (aI (3 : Int32))], [], (up3 (cm (upd n 27 ((n 27) + (((n 11) * (ld 3)) / (10 : Int32)))) t v ld sh o cd pl ka kb kc) 0 9 3 ((n 31) + (1 : Int32)), D, E))) rfl ⟨rfl, rfl, trivial⟩ ?_
    rw [cmn_9_3]
    refine z_Ev_blk 2 (c' := (2, [some (aR 0 1), some (aR 0 24), some (aI (4 : Int32))], [], (cm (upd (upd n 27 ((n 27) + (((n 11) * (ld 3)) / (10 : Int32)))) 31 ((n 31) + (1 : Int32))) t v ld sh o cd pl ka kb kc, D, E))) rfl trivial ?_
    refine z_Ev_fgt [true, true, true] ?_
    exact z_Ev_eq (c := (2, [some (aR 0 1), some (aR 0 24), some (aI (4 : Int32))], [], (cm (upd (upd n 27 ((n 27) + (((n 11) * (ld 3)) / (10 : Int32)))) 31 ((n 31) + (1 : Int32))) t v ld sh o cd pl ka kb kc, D, E))) (c' := (2, [some (aR 0 1), some (aR 0 24), some (aI (4 : Int32))], [], (cm (bfS n ld 3) t v ld sh o cd pl ka kb kc, D, E))) (by simp [bfS, h1]) K
  · skip
    refine z_Ev_blk 2 (c' := (2, [some (aR 0 1), some (aR 0 24), some (aI (4 : Int32))], [], (cm n t v ld sh o cd pl ka kb kc, D, E))) rfl trivial ?_
    refine z_Ev_fgt [true, true, true] ?_
    exact z_Ev_eq (c := (2, [some (aR 0 1), some (aR 0 24), some (aI (4 : Int32))], [], (cm n t v ld sh o cd pl ka kb kc, D, E))) (c' := (2, [some (aR 0 1), some (aR 0 24), some (aI (4 : Int32))], [], (cm (bfS n ld 3) t v ld sh o cd pl ka kb kc, D, E))) (by simp [bfS, h1]) K
theorem c_burn_0 {xs : Nat → Int32} {L : Nat} (n t : Nat → Int32) (v : Nat → Nat → Int32) (ld sh o cd pl ka kb kc : Nat → Int32) (D : Nat → Nat → Int32) (E : Nat → Int64) : z_Mt xs L m_X0_burnFuel [aR 0 1, aR 0 24] (cm n t v ld sh o cd pl ka kb kc, D, E) (.inl none) (cm (bfS (bfS (bfS (bfS n ld 0) ld 1) ld 2) ld 3) t v ld sh o cd pl ka kb kc, D, E) 0 := by
  refine z_Ev_blk 2 (c' := (2, [some (aR 0 1), some (aR 0 24), some (aI (0 : Int32))], [], (cm n t v ld sh o cd pl ka kb kc, D, E))) rfl trivial ?_
  refine bf_0_0 (n) t v ld sh o cd pl ka kb kc D E ?_
  refine bf_0_1 (bfS n ld 0) t v ld sh o cd pl ka kb kc D E ?_
  refine bf_0_2 (bfS (bfS n ld 0) ld 1) t v ld sh o cd pl ka kb kc D E ?_
  refine bf_0_3 (bfS (bfS (bfS n ld 0) ld 1) ld 2) t v ld sh o cd pl ka kb kc D E ?_
  refine z_Ev_blk 3 (c' := ((if (4 : Int32) ≤ (4 : Int32) then 61 else 7), [some (aR 0 1), some (aR 0 24), some (aI (4 : Int32))], [], (cm (bfS (bfS (bfS (bfS n ld 0) ld 1) ld 2) ld 3) t v ld sh o cd pl ka kb kc, D, E))) rfl trivial ?_
  refine z_Ev_if (by decide) ?_
  exact z_Ev_vretE rfl rfl (by rfl)
theorem c_fuelSoFar_0 {xs : Nat → Int32} {L : Nat}  (n t : Nat → Int32) (v : Nat → Nat → Int32) (ld sh o cd pl ka kb kc : Nat → Int32) (D : Nat → Nat → Int32) (E : Nat → Int64)  : z_Mt xs L m_X0_fuelSoFar [aR 0 1] (cm n t v ld sh o cd pl ka kb kc, D, E) (.inl (some (aI (fulF n)))) (cm n t v ld sh o cd pl ka kb kc, D, E) 0 := by
  refine z_Ev_blk 7 (c' := ((if (4 : Int32) ≤ (0 : Int32) then 24 else 9), [some (aR 0 1), some (aI (0 : Int32)), some (aI (0 : Int32))], [], (cm n t v ld sh o cd pl ka kb kc, D, E))) rfl trivial ?_
  refine z_Ev_else (by decide) ?_
  refine z_Ev_blk 12 (c' := ((if (4 : Int32) ≤ (1 : Int32) then 24 else 9), [some (aR 0 1), some (aI ((0 : Int32) + (n 24))), some (aI (1 : Int32))], [], (cm n t v ld sh o cd pl ka kb kc, D, E))) rfl ⟨rfl, trivial⟩ ?_
  refine z_Ev_else (by decide) ?_
  refine z_Ev_blk 12 (c' := ((if (4 : Int32) ≤ (2 : Int32) then 24 else 9), [some (aR 0 1), some (aI (((0 : Int32) + (n 24)) + (n 25))), some (aI (2 : Int32))], [], (cm n t v ld sh o cd pl ka kb kc, D, E))) rfl ⟨rfl, trivial⟩ ?_
  refine z_Ev_else (by decide) ?_
  refine z_Ev_blk 12 (c' := ((if (4 : Int32) ≤ (3 : Int32) then 24 else 9), [some (aR 0 1), some (aI ((((0 : Int32) + (n 24)) + (n 25)) + (n 26))), some (aI (3 : Int32))], [], (cm n t v ld sh o cd pl ka kb kc, D, E))) rfl ⟨rfl, trivial⟩ ?_
  refine z_Ev_else (by decide) ?_
  refine z_Ev_blk 12 (c' := ((if (4 : Int32) ≤ (4 : Int32) then 24 else 9), [some (aR 0 1), some (aI (((((0 : Int32) + (n 24)) + (n 25)) + (n 26)) + (n 27))), some (aI (4 : Int32))], [], (cm n t v ld sh o cd pl ka kb kc, D, E))) rfl ⟨rfl, trivial⟩ ?_
  refine z_Ev_if (by decide) ?_
  refine z_Ev_blk 1 (c' := (25, [some (aR 0 1), some (aI (((((0 : Int32) + (n 24)) + (n 25)) + (n 26)) + (n 27))), some (aI (4 : Int32))], [aI (((((0 : Int32) + (n 24)) + (n 25)) + (n 26)) + (n 27))], (cm n t v ld sh o cd pl ka kb kc, D, E))) rfl trivial ?_
  exact z_Ev_iretE rfl rfl (by (unfold fulF; simp)) (by first | rfl | simp [*])
theorem bf_1_0 {xs : Nat → Int32} {L : Nat} {o_ : z_Rs} {M' : Mem} {kk : Nat}  (n t : Nat → Int32) (v : Nat → Nat → Int32) (ld sh o cd pl ka kb kc : Nat → Int32) (D : Nat → Nat → Int32) (E : Nat → Int64)  (K : z_Ev xs L m_X0_burnFuel (2, [some (aR 1 1), some (aR 0 24), some (aI (1 : Int32))], [], (cm n (bfS t ld 0) v ld sh o cd pl ka kb kc, D, E)) o_ M' kk) : z_Ev xs L m_X0_burnFuel (2, [some (aR 1 1), some (aR 0 24), some (aI (0 : Int32))], [], (cm n t v ld sh o cd pl ka kb kc, D, E)) o_ M' kk := by
  refine z_Ev_blk 3 (c' := ((if (4 : Int32) ≤ (0 : Int32) then 61 else 7), [some (aR 1 1), some (aR 0 24), some (aI (0 : Int32))], [], (cm n t v ld sh o cd pl ka kb kc, D, E))) rfl trivial ?_
  refine z_Ev_else (by decide) ?_
  refine z_Ev_blk 4 (c' := ((if (4 : Int32) ≤ (0 : Int32) then 61 else 13), [some (aR 1 1), some (aR 0 24), some (aI (0 : Int32))], [], (cm n t v ld sh o cd pl ka kb kc, D, E))) rfl trivial ?_
  refine z_Ev_else (by decide) ?_
  refine z_Ev_blk 6 (c' := ((if (t 16) = (2 : Int32) then 23 else 55), [some (aR 1 1), some (aR 0 24), some (aI (0 : Int32))], [], (cm n t v ld sh o cd pl ka kb kc, D, E))) rfl ⟨rfl, trivial⟩ ?_
  refine z_Ev_ite (fun h1 => ?_) (fun h1 => ?_)
  · skip
    refine z_Ev_blk 17 (c' := (45, [some (aR 1 1), some (aR 0 24), some (aI (0 : Int32))], [], (up3 (cm n t v ld sh o cd pl ka kb kc) 1 8 0 ((t 24) + (((t 8) * (ld 0)) / (10 : Int32))), D, E))) rfl ⟨rfl, rfl, rfl, by decide, rfl, trivial⟩ ?_
    rw [cmt_8_0]
    refine z_Ev_blk 8 (c' := (55, [some (aR 1 1), some (aR 0 24), some (aI (0 : Int32))], [], (up3 (cm n (upd t 24 ((t 24) + (((t 8) * (ld 0)) / (10 : Int32)))) v ld sh o cd pl ka kb kc) 1 9 0 ((t 28) + (1 : Int32)), D, E))) rfl ⟨rfl, rfl, trivial⟩ ?_
    rw [cmt_9_0]
    refine z_Ev_blk 2 (c' := (2, [some (aR 1 1), some (aR 0 24), some (aI (1 : Int32))], [], (cm n (upd (upd t 24 ((t 24) + (((t 8) * (ld 0)) / (10 : Int32)))) 28 ((t 28) + (1 : Int32))) v ld sh o cd pl ka kb kc, D, E))) rfl trivial ?_
    refine z_Ev_fgt [true, true, true] ?_
    exact z_Ev_eq (c := (2, [some (aR 1 1), some (aR 0 24), some (aI (1 : Int32))], [], (cm n (upd (upd t 24 ((t 24) + (((t 8) * (ld 0)) / (10 : Int32)))) 28 ((t 28) + (1 : Int32))) v ld sh o cd pl ka kb kc, D, E))) (c' := (2, [some (aR 1 1), some (aR 0 24), some (aI (1 : Int32))], [], (cm n (bfS t ld 0) v ld sh o cd pl ka kb kc, D, E))) (by simp [bfS, h1]) K
  · skip
    refine z_Ev_blk 2 (c' := (2, [some (aR 1 1), some (aR 0 24), some (aI (1 : Int32))], [], (cm n t v ld sh o cd pl ka kb kc, D, E))) rfl trivial ?_
    refine z_Ev_fgt [true, true, true] ?_
    exact z_Ev_eq (c := (2, [some (aR 1 1), some (aR 0 24), some (aI (1 : Int32))], [], (cm n t v ld sh o cd pl ka kb kc, D, E))) (c' := (2, [some (aR 1 1), some (aR 0 24), some (aI (1 : Int32))], [], (cm n (bfS t ld 0) v ld sh o cd pl ka kb kc, D, E))) (by simp [bfS, h1]) K
theorem bf_1_1 {xs : Nat → Int32} {L : Nat} {o_ : z_Rs} {M' : Mem} {kk : Nat}  (n t : Nat → Int32) (v : Nat → Nat → Int32) (ld sh o cd pl ka kb kc : Nat → Int32) (D : Nat → Nat → Int32) (E : Nat → Int64)  (K : z_Ev xs L m_X0_burnFuel (2, [some (aR 1 1), some (aR 0 24), some (aI (2 : Int32))], [], (cm n (bfS t ld 1) v ld sh o cd pl ka kb kc, D, E)) o_ M' kk) : z_Ev xs L m_X0_burnFuel (2, [some (aR 1 1), some (aR 0 24), some (aI (1 : Int32))], [], (cm n t v ld sh o cd pl ka kb kc, D, E)) o_ M' kk := by
  refine z_Ev_blk 3 (c' := ((if (4 : Int32) ≤ (1 : Int32) then 61 else 7), [some (aR 1 1), some (aR 0 24), some (aI (1 : Int32))], [], (cm n t v ld sh o cd pl ka kb kc, D, E))) rfl trivial ?_
  refine z_Ev_else (by decide) ?_
  refine z_Ev_blk 4 (c' := ((if (4 : Int32) ≤ (1 : Int32) then 61 else 13), [some (aR 1 1), some (aR 0 24), some (aI (1 : Int32))], [], (cm n t v ld sh o cd pl ka kb kc, D, E))) rfl trivial ?_
  refine z_Ev_else (by decide) ?_
  refine z_Ev_blk 6 (c' := ((if (t 17) = (2 : Int32) then 23 else 55), [some (aR 1 1), some (aR 0 24), some (aI (1 : Int32))], [], (cm n t v ld sh o cd pl ka kb kc, D, E))) rfl ⟨rfl, trivial⟩ ?_
  refine z_Ev_ite (fun h1 => ?_) (fun h1 => ?_)
  · skip
    refine z_Ev_blk 17 (c' := (45, [some (aR 1 1), some (aR 0 24), some (aI (1 : Int32))], [], (up3 (cm n t v ld sh o cd pl ka kb kc) 1 8 1 ((t 25) + (((t 9) * (ld 1)) / (10 : Int32))), D, E))) rfl ⟨rfl, rfl, rfl, by decide, rfl, trivial⟩ ?_
    rw [cmt_8_1]
    refine z_Ev_blk 8 (c' := (55, [some (aR 1 1), some (aR 0 24), some (aI (1 : Int32))], [], (up3 (cm n (upd t 25 ((t 25) + (((t 9) * (ld 1)) / (10 : Int32)))) v ld sh o cd pl ka kb kc) 1 9 1 ((t 29) + (1 : Int32)), D, E))) rfl ⟨rfl, rfl, trivial⟩ ?_
    rw [cmt_9_1]
    refine z_Ev_blk 2 (c' := (2, [some (aR 1 1), some (aR 0 24), some (aI (2 : Int32))], [], (cm n (upd (upd t 25 ((t 25) + (((t 9) * (ld 1)) / (10 : Int32)))) 29 ((t 29) + (1 : Int32))) v ld sh o cd pl ka kb kc, D, E))) rfl trivial ?_
    refine z_Ev_fgt [true, true, true] ?_
    exact z_Ev_eq (c := (2, [some (aR 1 1), some (aR 0 24), some (aI (2 : Int32))], [], (cm n (upd (upd t 25 ((t 25) + (((t 9) * (ld 1)) / (10 : Int32)))) 29 ((t 29) + (1 : Int32))) v ld sh o cd pl ka kb kc, D, E))) (c' := (2, [some (aR 1 1), some (aR 0 24), some (aI (2 : Int32))], [], (cm n (bfS t ld 1) v ld sh o cd pl ka kb kc, D, E))) (by simp [bfS, h1]) K
  · skip
    refine z_Ev_blk 2 (c' := (2, [some (aR 1 1), some (aR 0 24), some (aI (2 : Int32))], [], (cm n t v ld sh o cd pl ka kb kc, D, E))) rfl trivial ?_
    refine z_Ev_fgt [true, true, true] ?_
    exact z_Ev_eq (c := (2, [some (aR 1 1), some (aR 0 24), some (aI (2 : Int32))], [], (cm n t v ld sh o cd pl ka kb kc, D, E))) (c' := (2, [some (aR 1 1), some (aR 0 24), some (aI (2 : Int32))], [], (cm n (bfS t ld 1) v ld sh o cd pl ka kb kc, D, E))) (by simp [bfS, h1]) K
theorem bf_1_2 {xs : Nat → Int32} {L : Nat} {o_ : z_Rs} {M' : Mem} {kk : Nat}  (n t : Nat → Int32) (v : Nat → Nat → Int32) (ld sh o cd pl ka kb kc : Nat → Int32) (D : Nat → Nat → Int32) (E : Nat → Int64)  (K : z_Ev xs L m_X0_burnFuel (2, [some (aR 1 1), some (aR 0 24), some (aI (3 : Int32))], [], (cm n (bfS t ld 2) v ld sh o cd pl ka kb kc, D, E)) o_ M' kk) : z_Ev xs L m_X0_burnFuel (2, [some (aR 1 1), some (aR 0 24), some (aI (2 : Int32))], [], (cm n t v ld sh o cd pl ka kb kc, D, E)) o_ M' kk := by
  refine z_Ev_blk 3 (c' := ((if (4 : Int32) ≤ (2 : Int32) then 61 else 7), [some (aR 1 1), some (aR 0 24), some (aI (2 : Int32))], [], (cm n t v ld sh o cd pl ka kb kc, D, E))) rfl trivial ?_
  refine z_Ev_else (by decide) ?_
  refine z_Ev_blk 4 (c' := ((if (4 : Int32) ≤ (2 : Int32) then 61 else 13), [some (aR 1 1), some (aR 0 24), some (aI (2 : Int32))], [], (cm n t v ld sh o cd pl ka kb kc, D, E))) rfl trivial ?_
  refine z_Ev_else (by decide) ?_
  refine z_Ev_blk 6 (c' := ((if (t 18) = (2 : Int32) then 23 else 55), [some (aR 1 1), some (aR 0 24), some (aI (2 : Int32))], [], (cm n t v ld sh o cd pl ka kb kc, D, E))) rfl ⟨rfl, trivial⟩ ?_
  refine z_Ev_ite (fun h1 => ?_) (fun h1 => ?_)
  · skip
    refine z_Ev_blk 17 (c' := (45, [some (aR 1 1), some (aR 0 24), some (aI (2 : Int32))], [], (up3 (cm n t v ld sh o cd pl ka kb kc) 1 8 2 ((t 26) + (((t 10) * (ld 2)) / (10 : Int32))), D, E))) rfl ⟨rfl, rfl, rfl, by decide, rfl, trivial⟩ ?_
    rw [cmt_8_2]
    refine z_Ev_blk 8 (c' := (55, [some (aR 1 1), some (aR 0 24), some (aI (2 : Int32))], [], (up3 (cm n (upd t 26 ((t 26) + (((t 10) * (ld 2)) / (10 : Int32)))) v ld sh o cd pl ka kb kc) 1 9 2 ((t 30) + (1 : Int32)), D, E))) rfl ⟨rfl, rfl, trivial⟩ ?_
    rw [cmt_9_2]
    refine z_Ev_blk 2 (c' := (2, [some (aR 1 1), some (aR 0 24), some (aI (3 : Int32))], [], (cm n (upd (upd t 26 ((t 26) + (((t 10) * (ld 2)) / (10 : Int32)))) 30 ((t 30) + (1 : Int32))) v ld sh o cd pl ka kb kc, D, E))) rfl trivial ?_
    refine z_Ev_fgt [true, true, true] ?_
    exact z_Ev_eq (c := (2, [some (aR 1 1), some (aR 0 24), some (aI (3 : Int32))], [], (cm n (upd (upd t 26 ((t 26) + (((t 10) * (ld 2)) / (10 : Int32)))) 30 ((t 30) + (1 : Int32))) v ld sh o cd pl ka kb kc, D, E))) (c' := (2, [some (aR 1 1), some (aR 0 24), some (aI (3 : Int32))], [], (cm n (bfS t ld 2) v ld sh o cd pl ka kb kc, D, E))) (by simp [bfS, h1]) K
  · skip
    refine z_Ev_blk 2 (c' := (2, [some (aR 1 1), some (aR 0 24), some (aI (3 : Int32))], [], (cm n t v ld sh o cd pl ka kb kc, D, E))) rfl trivial ?_
    refine z_Ev_fgt [true, true, true] ?_
    exact z_Ev_eq (c := (2, [some (aR 1 1), some (aR 0 24), some (aI (3 : Int32))], [], (cm n t v ld sh o cd pl ka kb kc, D, E))) (c' := (2, [some (aR 1 1), some (aR 0 24), some (aI (3 : Int32))], [], (cm n (bfS t ld 2) v ld sh o cd pl ka kb kc, D, E))) (by simp [bfS, h1]) K
theorem bf_1_3 {xs : Nat → Int32} {L : Nat} {o_ : z_Rs} {M' : Mem} {kk : Nat}  (n t : Nat → Int32) (v : Nat → Nat → Int32) (ld sh o cd pl ka kb kc : Nat → Int32) (D : Nat → Nat → Int32) (E : Nat → Int64)  (K : z_Ev xs L m_X0_burnFuel (2, [some (aR 1 1), some (aR 0 24), some (aI (4 : Int32))], [], (cm n (bfS t ld 3) v ld sh o cd pl ka kb kc, D, E)) o_ M' kk) : z_Ev xs L m_X0_burnFuel (2, [some (aR 1 1), some (aR 0 24), some (aI (3 : Int32))], [], (cm n t v ld sh o cd pl ka kb kc, D, E)) o_ M' kk := by
  refine z_Ev_blk 3 (c' := ((if (4 : Int32) ≤ (3 : Int32) then 61 else 7), [some (aR 1 1), some (aR 0 24), some (aI (3 : Int32))], [], (cm n t v ld sh o cd pl ka kb kc, D, E))) rfl trivial ?_
  refine z_Ev_else (by decide) ?_
  refine z_Ev_blk 4 (c' := ((if (4 : Int32) ≤ (3 : Int32) then 61 else 13), [some (aR 1 1), some (aR 0 24), some (aI (3 : Int32))], [], (cm n t v ld sh o cd pl ka kb kc, D, E))) rfl trivial ?_
  refine z_Ev_else (by decide) ?_
  refine z_Ev_blk 6 (c' := ((if (t 19) = (2 : Int32) then 23 else 55), [some (aR 1 1), some (aR 0 24), some (aI (3 : Int32))], [], (cm n t v ld sh o cd pl ka kb kc, D, E))) rfl ⟨rfl, trivial⟩ ?_
  refine z_Ev_ite (fun h1 => ?_) (fun h1 => ?_)
  · skip
    refine z_Ev_blk 17 (c' := (45, [some (aR 1 1), some (aR 0 24), some (aI (3 : Int32))], [], (up3 (cm n t v ld sh o cd pl ka kb kc) 1 8 3 ((t 27) + (((t 11) * (ld 3)) / (10 : Int32))), D, E))) rfl ⟨rfl, rfl, rfl, by decide, rfl, trivial⟩ ?_
    rw [cmt_8_3]
    refine z_Ev_blk 8 (c' := (55, [some (aR 1 1), some (aR 0 24), some (aI (3 : Int32))], [], (up3 (cm n (upd t 27 ((t 27) + (((t 11) * (ld 3)) / (10 : Int32)))) v ld sh o cd pl ka kb kc) 1 9 3 ((t 31) + (1 : Int32)), D, E))) rfl ⟨rfl, rfl, trivial⟩ ?_
    rw [cmt_9_3]
    refine z_Ev_blk 2 (c' := (2, [some (aR 1 1), some (aR 0 24), some (aI (4 : Int32))], [], (cm n (upd (upd t 27 ((t 27) + (((t 11) * (ld 3)) / (10 : Int32)))) 31 ((t 31) + (1 : Int32))) v ld sh o cd pl ka kb kc, D, E))) rfl trivial ?_
    refine z_Ev_fgt [true, true, true] ?_
    exact z_Ev_eq (c := (2, [some (aR 1 1), some (aR 0 24), some (aI (4 : Int32))], [], (cm n (upd (upd t 27 ((t 27) + (((t 11) * (ld 3)) / (10 : Int32)))) 31 ((t 31) + (1 : Int32))) v ld sh o cd pl ka kb kc, D, E))) (c' := (2, [some (aR 1 1), some (aR 0 24), some (aI (4 : Int32))], [], (cm n (bfS t ld 3) v ld sh o cd pl ka kb kc, D, E))) (by simp [bfS, h1]) K
  · skip
    refine z_Ev_blk 2 (c' := (2, [some (aR 1 1), some (aR 0 24), some (aI (4 : Int32))], [], (cm n t v ld sh o cd pl ka kb kc, D, E))) rfl trivial ?_
    refine z_Ev_fgt [true, true, true] ?_
    exact z_Ev_eq (c := (2, [some (aR 1 1), some (aR 0 24), some (aI (4 : Int32))], [], (cm n t v ld sh o cd pl ka kb kc, D, E))) (c' := (2, [some (aR 1 1), some (aR 0 24), some (aI (4 : Int32))], [], (cm n (bfS t ld 3) v ld sh o cd pl ka kb kc, D, E))) (by simp [bfS, h1]) K
theorem c_burn_1 {xs : Nat → Int32} {L : Nat} (n t : Nat → Int32) (v : Nat → Nat → Int32) (ld sh o cd pl ka kb kc : Nat → Int32) (D : Nat → Nat → Int32) (E : Nat → Int64) : z_Mt xs L m_X0_burnFuel [aR 1 1, aR 0 24] (cm n t v ld sh o cd pl ka kb kc, D, E) (.inl none) (cm n (bfS (bfS (bfS (bfS t ld 0) ld 1) ld 2) ld 3) v ld sh o cd pl ka kb kc, D, E) 0 := by
  refine z_Ev_blk 2 (c' := (2, [some (aR 1 1), some (aR 0 24), some (aI (0 : Int32))], [], (cm n t v ld sh o cd pl ka kb kc, D, E))) rfl trivial ?_
  refine bf_1_0 n (t) v ld sh o cd pl ka kb kc D E ?_
  refine bf_1_1 n (bfS t ld 0) v ld sh o cd pl ka kb kc D E ?_
  refine bf_1_2 n (bfS (bfS t ld 0) ld 1) v ld sh o cd pl ka kb kc D E ?_
  refine bf_1_3 n (bfS (bfS (bfS t ld 0) ld 1) ld 2) v ld sh o cd pl ka kb kc D E ?_
  refine z_Ev_blk 3 (c' := ((if (4 : Int32) ≤ (4 : Int32) then 61 else 7), [some (aR 1 1), some (aR 0 24), some (aI (4 : Int32))], [], (cm n (bfS (bfS (bfS (bfS t ld 0) ld 1) ld 2) ld 3) v ld sh o cd pl ka kb kc, D, E))) rfl trivial ?_
  refine z_Ev_if (by decide) ?_
  exact z_Ev_vretE rfl rfl (by rfl)
theorem c_fuelSoFar_1 {xs : Nat → Int32} {L : Nat}  (n t : Nat → Int32) (v : Nat → Nat → Int32) (ld sh o cd pl ka kb kc : Nat → Int32) (D : Nat → Nat → Int32) (E : Nat → Int64)  : z_Mt xs L m_X0_fuelSoFar [aR 1 1] (cm n t v ld sh o cd pl ka kb kc, D, E) (.inl (some (aI (fulF t)))) (cm n t v ld sh o cd pl ka kb kc, D, E) 0 := by
  refine z_Ev_blk 7 (c' := ((if (4 : Int32) ≤ (0 : Int32) then 24 else 9), [some (aR 1 1), some (aI (0 : Int32)), some (aI (0 : Int32))], [], (cm n t v ld sh o cd pl ka kb kc, D, E))) rfl trivial ?_
  refine z_Ev_else (by decide) ?_
  refine z_Ev_blk 12 (c' := ((if (4 : Int32) ≤ (1 : Int32) then 24 else 9), [some (aR 1 1), some (aI ((0 : Int32) + (t 24))), some (aI (1 : Int32))], [], (cm n t v ld sh o cd pl ka kb kc, D, E))) rfl ⟨rfl, trivial⟩ ?_
  refine z_Ev_else (by decide) ?_
  refine z_Ev_blk 12 (c' := ((if (4 : Int32) ≤ (2 : Int32) then 24 else 9), [some (aR 1 1), some (aI (((0 : Int32) + (t 24)) + (t 25))), some (aI (2 : Int32))], [], (cm n t v ld sh o cd pl ka kb kc, D, E))) rfl ⟨rfl, trivial⟩ ?_
  refine z_Ev_else (by decide) ?_
  refine z_Ev_blk 12 (c' := ((if (4 : Int32) ≤ (3 : Int32) then 24 else 9), [some (aR 1 1), some (aI ((((0 : Int32) + (t 24)) + (t 25)) + (t 26))), some (aI (3 : Int32))], [], (cm n t v ld sh o cd pl ka kb kc, D, E))) rfl ⟨rfl, trivial⟩ ?_
  refine z_Ev_else (by decide) ?_
  refine z_Ev_blk 12 (c' := ((if (4 : Int32) ≤ (4 : Int32) then 24 else 9), [some (aR 1 1), some (aI (((((0 : Int32) + (t 24)) + (t 25)) + (t 26)) + (t 27))), some (aI (4 : Int32))], [], (cm n t v ld sh o cd pl ka kb kc, D, E))) rfl ⟨rfl, trivial⟩ ?_
  refine z_Ev_if (by decide) ?_
  refine z_Ev_blk 1 (c' := (25, [some (aR 1 1), some (aI (((((0 : Int32) + (t 24)) + (t 25)) + (t 26)) + (t 27))), some (aI (4 : Int32))], [aI (((((0 : Int32) + (t 24)) + (t 25)) + (t 26)) + (t 27))], (cm n t v ld sh o cd pl ka kb kc, D, E))) rfl trivial ?_
  exact z_Ev_iretE rfl rfl (by (unfold fulF; simp)) (by first | rfl | simp [*])
theorem c_fuelFor {xs : Nat → Int32} {L : Nat}  (n t : Nat → Int32) (v : Nat → Nat → Int32) (ld sh o cd pl ka kb kc : Nat → Int32) (D : Nat → Nat → Int32) (E : Nat → Int64)  : z_Mt xs L m_X0_fuelFor [aR 0 1, aR 0 24] (cm n t v ld sh o cd pl ka kb kc, D, E) (.inl (some (aI (sFu (md g0 n) ld)))) (cm n t v ld sh o cd pl ka kb kc, D, E) 0 := by
  refine z_Ev_blk 7 (c' := ((if (4 : Int32) ≤ (0 : Int32) then 37 else 9), [some (aR 0 1), some (aR 0 24), some (aI (0 : Int32)), some (aI (0 : Int32))], [], (cm n t v ld sh o cd pl ka kb kc, D, E))) rfl trivial ?_
  refine z_Ev_else (by decide) ?_
  refine z_Ev_blk 4 (c' := ((if (4 : Int32) ≤ (0 : Int32) then 37 else 15), [some (aR 0 1), some (aR 0 24), some (aI (0 : Int32)), some (aI (0 : Int32))], [], (cm n t v ld sh o cd pl ka kb kc, D, E))) rfl trivial ?_
  refine z_Ev_else (by decide) ?_
  refine z_Ev_blk 18 (c' := ((if (4 : Int32) ≤ (1 : Int32) then 37 else 9), [some (aR 0 1), some (aR 0 24), some (aI ((0 : Int32) + (((n 8) * (ld 0)) / (10 : Int32)))), some (aI (1 : Int32))], [], (cm n t v ld sh o cd pl ka kb kc, D, E))) rfl ⟨rfl, rfl, by decide, trivial⟩ ?_
  refine z_Ev_else (by decide) ?_
  refine z_Ev_blk 4 (c' := ((if (4 : Int32) ≤ (1 : Int32) then 37 else 15), [some (aR 0 1), some (aR 0 24), some (aI ((0 : Int32) + (((n 8) * (ld 0)) / (10 : Int32)))), some (aI (1 : Int32))], [], (cm n t v ld sh o cd pl ka kb kc, D, E))) rfl trivial ?_
  refine z_Ev_else (by decide) ?_
  refine z_Ev_blk 18 (c' := ((if (4 : Int32) ≤ (2 : Int32) then 37 else 9), [some (aR 0 1), some (aR 0 24), some (aI (((0 : Int32) + (((n 8) * (ld 0)) / (10 : Int32))) + (((n 9) * (ld 1)) / (10 : Int32)))), some (aI (2 : Int32))], [], (cm n t v ld sh o cd pl ka kb kc, D, E))) rfl ⟨rfl, rfl, by decide, trivial⟩ ?_
  refine z_Ev_else (by decide) ?_
  refine z_Ev_blk 4 (c' := ((if (4 : Int32) ≤ (2 : Int32) then 37 else 15), [some (aR 0 1), some (aR 0 24), some (aI (((0 : Int32) + (((n 8) * (ld 0)) / (10 : Int32))) + (((n 9) * (ld 1)) / (10 : Int32)))), some (aI (2 : Int32))], [], (cm n t v ld sh o cd pl ka kb kc, D, E))) rfl trivial ?_
  refine z_Ev_else (by decide) ?_
  refine z_Ev_blk 18 (c' := ((if (4 : Int32) ≤ (3 : Int32) then 37 else 9), [some (aR 0 1), some (aR 0 24), some (aI ((((0 : Int32) + (((n 8) * (ld 0)) / (10 : Int32))) + (((n 9) * (ld 1)) / (10 : Int32))) + (((n 10) * (ld 2)) / (10 : Int32)))), some (aI (3 : Int32))], [], (cm n t v ld sh o cd pl ka kb kc, D, E))) rfl ⟨rfl, rfl, by decide, trivial⟩ ?_
  refine z_Ev_else (by decide) ?_
  refine z_Ev_blk 4 (c' := ((if (4 : Int32) ≤ (3 : Int32) then 37 else 15), [some (aR 0 1), some (aR 0 24), some (aI ((((0 : Int32) + (((n 8) * (ld 0)) / (10 : Int32))) + (((n 9) * (ld 1)) / (10 : Int32))) + (((n 10) * (ld 2)) / (10 : Int32)))), some (aI (3 : Int32))], [], (cm n t v ld sh o cd pl ka kb kc, D, E))) rfl trivial ?_
  refine z_Ev_else (by decide) ?_
  refine z_Ev_blk 18 (c' := ((if (4 : Int32) ≤ (4 : Int32) then 37 else 9), [some (aR 0 1), some (aR 0 24), some (aI (((((0 : Int32) + (((n 8) * (ld 0)) / (10 : Int32))) + (((n 9) * (ld 1)) / (10 : Int32))) + (((n 10) * (ld 2)) / (10 : Int32))) + (((n 11) * (ld 3)) / (10 : Int32)))), some (aI (4 : Int32))], [], (cm n t v ld sh o cd pl ka kb kc, D, E))) rfl ⟨rfl, rfl, by decide, trivial⟩ ?_
  refine z_Ev_if (by decide) ?_
  refine z_Ev_blk 1 (c' := (38, [some (aR 0 1), some (aR 0 24), some (aI (((((0 : Int32) + (((n 8) * (ld 0)) / (10 : Int32))) + (((n 9) * (ld 1)) / (10 : Int32))) + (((n 10) * (ld 2)) / (10 : Int32))) + (((n 11) * (ld 3)) / (10 : Int32)))), some (aI (4 : Int32))], [aI (((((0 : Int32) + (((n 8) * (ld 0)) / (10 : Int32))) + (((n 9) * (ld 1)) / (10 : Int32))) + (((n 10) * (ld 2)) / (10 : Int32))) + (((n 11) * (ld 3)) / (10 : Int32)))], (cm n t v ld sh o cd pl ka kb kc, D, E))) rfl trivial ?_
  exact z_Ev_iretE rfl rfl (by rfl) (by first | rfl | simp [*])

