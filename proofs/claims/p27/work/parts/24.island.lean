/-! THE CLASS: Island, its small methods -/
section
variable {I R : Nat → Nat → Int32} {a b p r k : Nat} {u : Nat → Int32}
theorem cpy_0 (hab : a ≠ b) (h3 : 3 ≤ k) (h6 : k ≤ 6) : up3 (cmx (setI I b u) R) b 0 k (cmx (setI I b u) R a 0 k) = cmx (setI I b (upd u (31 + k) (I a (31 + k)))) R := by
  rw [cmx_0 h3 h6]
  have e : cmx (setI I b u) R a 0 k = I a (31 + k) := by
    simp only [cmx, setI, cond_eq_ite, Bool.and_eq_true, Nat.ble_eq, Nat.blt_eq, Nat.beq_eq]
    rw [if_neg (by omega), if_neg (by omega), if_neg (by omega), if_pos trivial, if_pos ⟨h3, h6⟩, if_neg hab]
  rw [e, setI_eq, setI_setI]
theorem cpy_b (hab : a ≠ b) (h3 : 3 ≤ k) (h6 : k ≤ 6) : cmx (setI I b u) R a 0 k = I a (31 + k) := by
  simp only [cmx, setI, cond_eq_ite, Bool.and_eq_true, Nat.ble_eq, Nat.blt_eq, Nat.beq_eq]
  rw [if_neg (by omega), if_neg (by omega), if_neg (by omega), if_pos trivial, if_pos ⟨h3, h6⟩, if_neg hab]
end
def fcp (a u : Nat → Int32) : Nat → Int32 := mixI (segP 28 4) a (mixI (segP 24 4) a (mixI (segP 20 4) a (mixI (segP 16 4) a (mixI (segP 12 4) a (mixI (segP 8 4) a (mixI (segP 4 4) a (mixI (segP 0 4) a u)))))))
def rcp (a u : Nat → Int32) : Nat → Int32 := mixI (rowP 6) a (mixI (rowP 5) a (mixI (rowP 4) a (mixI (rowP 3) a (mixI (rowP 2) a (mixI (rowP 1) a (mixI (rowP 0) a u))))))
def icp (a u : Nat → Int32) : Nat → Int32 := upd (upd (upd (upd (mixI (segP 32 2) a (rcp a (fcp a u))) 34 (a 34)) 35 (a 35)) 36 (a 36)) 37 (a 37)
theorem mix_0 {a u : Nat → Int32} {j : Nat} : mixI (rowP 0) a u j = if 40 ≤ j ∧ j < 88 then a j else u j := by
  simp only [mixI, rowP, cond_eq_ite, Bool.and_eq_true, Nat.ble_eq, Nat.blt_eq, Nat.beq_eq, if_true]
theorem mix_r {r : Nat} (hr : 0 < r) {a u : Nat → Int32} {j : Nat} : mixI (rowP r) a u j = if 88 ≤ j ∧ j < 376 ∧ (j - 88) % 6 = r - 1 then a j else u j := by
  have h : r ≠ 0 := by omega
  simp only [mixI, rowP, cond_eq_ite, Bool.and_eq_true, Nat.ble_eq, Nat.blt_eq, Nat.beq_eq, if_neg h, and_assoc]
theorem mix_s {c m : Nat} {a u : Nat → Int32} {j : Nat} : mixI (segP c m) a u j = if c ≤ j ∧ j < c + m then a j else u j := by
  simp only [mixI, segP, cond_eq_ite, Bool.and_eq_true, Nat.ble_eq, Nat.blt_eq]
theorem icp_all {I R : Nat → Nat → Int32} {a b : Nat} {u : Nat → Int32} : cmx (setI I b (icp (I a) u)) R = cmx (setI I b (I a)) R := by
  refine cmx_congr fun g j hj => ?_
  obtain ⟨h1, h2, h3⟩ := hj
  unfold setI
  split
  · simp only [icp, rcp, fcp, upd, mix_0, mix_s, mix_r (show 0 < 1 by decide), mix_r (show 0 < 2 by decide), mix_r (show 0 < 3 by decide), mix_r (show 0 < 4 by decide), mix_r (show 0 < 5 by decide), mix_r (show 0 < 6 by decide)]
    by_cases e37 : j = 37
    · rw [if_pos e37, e37]
    rw [if_neg e37]
    by_cases e36 : j = 36
    · rw [if_pos e36, e36]
    rw [if_neg e36]
    by_cases e35 : j = 35
    · rw [if_pos e35, e35]
    rw [if_neg e35]
    by_cases e34 : j = 34
    · rw [if_pos e34, e34]
    rw [if_neg e34]
    by_cases q0 : 32 ≤ j ∧ j < 32 + 2
    · rw [if_pos q0]
    rw [if_neg q0]
    by_cases q1 : 88 ≤ j ∧ j < 376 ∧ (j - 88) % 6 = 6 - 1
    · rw [if_pos q1]
    rw [if_neg q1]
    by_cases q2 : 88 ≤ j ∧ j < 376 ∧ (j - 88) % 6 = 5 - 1
    · rw [if_pos q2]
    rw [if_neg q2]
    by_cases q3 : 88 ≤ j ∧ j < 376 ∧ (j - 88) % 6 = 4 - 1
    · rw [if_pos q3]
    rw [if_neg q3]
    by_cases q4 : 88 ≤ j ∧ j < 376 ∧ (j - 88) % 6 = 3 - 1
    · rw [if_pos q4]
    rw [if_neg q4]
    by_cases q5 : 88 ≤ j ∧ j < 376 ∧ (j - 88) % 6 = 2 - 1
    · rw [if_pos q5]
    rw [if_neg q5]
    by_cases q6 : 88 ≤ j ∧ j < 376 ∧ (j - 88) % 6 = 1 - 1
    · rw [if_pos q6]
    rw [if_neg q6]
    by_cases q7 : 40 ≤ j ∧ j < 88
    · rw [if_pos q7]
    rw [if_neg q7]
    by_cases q8 : 28 ≤ j ∧ j < 28 + 4
    · rw [if_pos q8]
    rw [if_neg q8]
    by_cases q9 : 24 ≤ j ∧ j < 24 + 4
    · rw [if_pos q9]
    rw [if_neg q9]
    by_cases q10 : 20 ≤ j ∧ j < 20 + 4
    · rw [if_pos q10]
    rw [if_neg q10]
    by_cases q11 : 16 ≤ j ∧ j < 16 + 4
    · rw [if_pos q11]
    rw [if_neg q11]
    by_cases q12 : 12 ≤ j ∧ j < 12 + 4
    · rw [if_pos q12]
    rw [if_neg q12]
    by_cases q13 : 8 ≤ j ∧ j < 8 + 4
    · rw [if_pos q13]
    rw [if_neg q13]
    by_cases q14 : 4 ≤ j ∧ j < 4 + 4
    · rw [if_pos q14]
    rw [if_neg q14]
    by_cases q15 : 0 ≤ j ∧ j < 0 + 4
    · rw [if_pos q15]
    rw [if_neg q15]
    exfalso; omega
  · rfl

theorem c_fcopy {xs : Nat → Int32} {L : Nat} (I R : Nat → Nat → Int32) (a b : Nat) (u : Nat → Int32) (D : Nat → Nat → Int32) (E : Nat → Int64) (hab : a ≠ b)  : z_Mt xs L m_X0_copyFrom [aR b 1, aR a 1] (cmx (setI I b u) R, D, E) (.inl none) (cmx (setI I b (fcp (I a) u)) R, D, E) 0 := by
  refine z_Ev_blk 8 (c' := (14, [some (aR b 1), some (aR a 1)], [], (z_cpy (cmx (setI I b u) R) a 2 b 2 0 0 4, D, E))) rfl ⟨rfl, trivial⟩ ?_
  rw [cpy_i (p := 2) hab (by decide) (by decide)]
  refine z_Ev_blk 8 (c' := (28, [some (aR b 1), some (aR a 1)], [], (z_cpy (cmx (setI I b (mixI (segP 0 4) (I a) u)) R) a 3 b 3 0 0 4, D, E))) rfl ⟨rfl, trivial⟩ ?_
  rw [cpy_i (p := 3) hab (by decide) (by decide)]
  refine z_Ev_blk 8 (c' := (42, [some (aR b 1), some (aR a 1)], [], (z_cpy (cmx (setI I b (mixI (segP 4 4) (I a) (mixI (segP 0 4) (I a) u))) R) a 4 b 4 0 0 4, D, E))) rfl ⟨rfl, trivial⟩ ?_
  rw [cpy_i (p := 4) hab (by decide) (by decide)]
  refine z_Ev_blk 8 (c' := (56, [some (aR b 1), some (aR a 1)], [], (z_cpy (cmx (setI I b (mixI (segP 8 4) (I a) (mixI (segP 4 4) (I a) (mixI (segP 0 4) (I a) u)))) R) a 5 b 5 0 0 4, D, E))) rfl ⟨rfl, trivial⟩ ?_
  rw [cpy_i (p := 5) hab (by decide) (by decide)]
  refine z_Ev_blk 8 (c' := (70, [some (aR b 1), some (aR a 1)], [], (z_cpy (cmx (setI I b (mixI (segP 12 4) (I a) (mixI (segP 8 4) (I a) (mixI (segP 4 4) (I a) (mixI (segP 0 4) (I a) u))))) R) a 6 b 6 0 0 4, D, E))) rfl ⟨rfl, trivial⟩ ?_
  rw [cpy_i (p := 6) hab (by decide) (by decide)]
  refine z_Ev_blk 8 (c' := (84, [some (aR b 1), some (aR a 1)], [], (z_cpy (cmx (setI I b (mixI (segP 16 4) (I a) (mixI (segP 12 4) (I a) (mixI (segP 8 4) (I a) (mixI (segP 4 4) (I a) (mixI (segP 0 4) (I a) u)))))) R) a 7 b 7 0 0 4, D, E))) rfl ⟨rfl, trivial⟩ ?_
  rw [cpy_i (p := 7) hab (by decide) (by decide)]
  refine z_Ev_blk 8 (c' := (98, [some (aR b 1), some (aR a 1)], [], (z_cpy (cmx (setI I b (mixI (segP 20 4) (I a) (mixI (segP 16 4) (I a) (mixI (segP 12 4) (I a) (mixI (segP 8 4) (I a) (mixI (segP 4 4) (I a) (mixI (segP 0 4) (I a) u))))))) R) a 8 b 8 0 0 4, D, E))) rfl ⟨rfl, trivial⟩ ?_
  rw [cpy_i (p := 8) hab (by decide) (by decide)]
  refine z_Ev_blk 8 (c' := (112, [some (aR b 1), some (aR a 1)], [], (z_cpy (cmx (setI I b (mixI (segP 24 4) (I a) (mixI (segP 20 4) (I a) (mixI (segP 16 4) (I a) (mixI (segP 12 4) (I a) (mixI (segP 8 4) (I a) (mixI (segP 4 4) (I a) (mixI (segP 0 4) (I a) u)))))))) R) a 9 b 9 0 0 4, D, E))) rfl ⟨rfl, trivial⟩ ?_
  rw [cpy_i (p := 9) hab (by decide) (by decide)]
  exact z_Ev_vretE rfl rfl (by rfl)
theorem c_icopy0 {xs : Nat → Int32} {L : Nat} (I R : Nat → Nat → Int32) (a b : Nat) (u : Nat → Int32) (D : Nat → Nat → Int32) (E : Nat → Int64) (hab : a ≠ b) (hb5 : z_isB (I a 36) = true) (hb6 : z_isB (I a 37) = true) : z_Mt xs L m_X1_copyFrom [aR b 0, aR a 0] (cmx (setI I b u) R, D, E) (.inl none) (cmx (setI I b (icp (I a) u)) R, D, E) 0 := by
  refine z_Ev_blk 4 (c' := (8, [some (aR b 0), some (aR a 0), none], [aR a 1, aR b 1], (cmx (setI I b u) R, D, E))) rfl trivial ?_
  refine z_Ev_call0 (m' := m_X0_copyFrom) (as := [aR b 1, aR a 1]) (r := []) (c_fcopy I R a b u D E hab) rfl rfl ?_
  refine z_Ev_blk 5 (c' := ((if (7 : Int32) ≤ (0 : Int32) then 44 else 19), [some (aR b 0), some (aR a 0), some (aI (0 : Int32))], [], (cmx (setI I b (fcp (I a) u)) R, D, E))) rfl trivial ?_
  refine z_Ev_else (by decide) ?_
  refine z_Ev_blk 12 (c' := (38, [some (aR b 0), some (aR a 0), some (aI (0 : Int32))], [], (z_cpy (cmx (setI I b (fcp (I a) u)) R) (7 * a + 0) 11 (7 * b + 0) 11 0 0 48, D, E))) rfl ⟨rfl, rfl, rfl, trivial⟩ ?_
  rw [cpy_11 (r := 0) hab (by decide)]
  refine z_Ev_blk 5 (c' := ((if (7 : Int32) ≤ (1 : Int32) then 44 else 19), [some (aR b 0), some (aR a 0), some (aI (1 : Int32))], [], (cmx (setI I b (mixI (rowP 0) (I a) (fcp (I a) u))) R, D, E))) rfl trivial ?_
  refine z_Ev_else (by decide) ?_
  refine z_Ev_blk 12 (c' := (38, [some (aR b 0), some (aR a 0), some (aI (1 : Int32))], [], (z_cpy (cmx (setI I b (mixI (rowP 0) (I a) (fcp (I a) u))) R) (7 * a + 1) 11 (7 * b + 1) 11 0 0 48, D, E))) rfl ⟨rfl, rfl, rfl, trivial⟩ ?_
  rw [cpy_11 (r := 1) hab (by decide)]
  refine z_Ev_blk 5 (c' := ((if (7 : Int32) ≤ (2 : Int32) then 44 else 19), [some (aR b 0), some (aR a 0), some (aI (2 : Int32))], [], (cmx (setI I b (mixI (rowP 1) (I a) (mixI (rowP 0) (I a) (fcp (I a) u)))) R, D, E))) rfl trivial ?_
  refine z_Ev_else (by decide) ?_
  refine z_Ev_blk 12 (c' := (38, [some (aR b 0), some (aR a 0), some (aI (2 : Int32))], [], (z_cpy (cmx (setI I b (mixI (rowP 1) (I a) (mixI (rowP 0) (I a) (fcp (I a) u)))) R) (7 * a + 2) 11 (7 * b + 2) 11 0 0 48, D, E))) rfl ⟨rfl, rfl, rfl, trivial⟩ ?_
  rw [cpy_11 (r := 2) hab (by decide)]
  refine z_Ev_blk 5 (c' := ((if (7 : Int32) ≤ (3 : Int32) then 44 else 19), [some (aR b 0), some (aR a 0), some (aI (3 : Int32))], [], (cmx (setI I b (mixI (rowP 2) (I a) (mixI (rowP 1) (I a) (mixI (rowP 0) (I a) (fcp (I a) u))))) R, D, E))) rfl trivial ?_
  refine z_Ev_else (by decide) ?_
  refine z_Ev_blk 12 (c' := (38, [some (aR b 0), some (aR a 0), some (aI (3 : Int32))], [], (z_cpy (cmx (setI I b (mixI (rowP 2) (I a) (mixI (rowP 1) (I a) (mixI (rowP 0) (I a) (fcp (I a) u))))) R) (7 * a + 3) 11 (7 * b + 3) 11 0 0 48, D, E))) rfl ⟨rfl, rfl, rfl, trivial⟩ ?_
  rw [cpy_11 (r := 3) hab (by decide)]
  refine z_Ev_blk 5 (c' := ((if (7 : Int32) ≤ (4 : Int32) then 44 else 19), [some (aR b 0), some (aR a 0), some (aI (4 : Int32))], [], (cmx (setI I b (mixI (rowP 3) (I a) (mixI (rowP 2) (I a) (mixI (rowP 1) (I a) (mixI (rowP 0) (I a) (fcp (I a) u)))))) R, D, E))) rfl trivial ?_
  refine z_Ev_else (by decide) ?_
  refine z_Ev_blk 12 (c' := (38, [some (aR b 0), some (aR a 0), some (aI (4 : Int32))], [], (z_cpy (cmx (setI I b (mixI (rowP 3) (I a) (mixI (rowP 2) (I a) (mixI (rowP 1) (I a) (mixI (rowP 0) (I a) (fcp (I a) u)))))) R) (7 * a + 4) 11 (7 * b + 4) 11 0 0 48, D, E))) rfl ⟨rfl, rfl, rfl, trivial⟩ ?_
  rw [cpy_11 (r := 4) hab (by decide)]
  refine z_Ev_blk 5 (c' := ((if (7 : Int32) ≤ (5 : Int32) then 44 else 19), [some (aR b 0), some (aR a 0), some (aI (5 : Int32))], [], (cmx (setI I b (mixI (rowP 4) (I a) (mixI (rowP 3) (I a) (mixI (rowP 2) (I a) (mixI (rowP 1) (I a) (mixI (rowP 0) (I a) (fcp (I a) u))))))) R, D, E))) rfl trivial ?_
  refine z_Ev_else (by decide) ?_
  refine z_Ev_blk 12 (c' := (38, [some (aR b 0), some (aR a 0), some (aI (5 : Int32))], [], (z_cpy (cmx (setI I b (mixI (rowP 4) (I a) (mixI (rowP 3) (I a) (mixI (rowP 2) (I a) (mixI (rowP 1) (I a) (mixI (rowP 0) (I a) (fcp (I a) u))))))) R) (7 * a + 5) 11 (7 * b + 5) 11 0 0 48, D, E))) rfl ⟨rfl, rfl, rfl, trivial⟩ ?_
  rw [cpy_11 (r := 5) hab (by decide)]
  refine z_Ev_blk 5 (c' := ((if (7 : Int32) ≤ (6 : Int32) then 44 else 19), [some (aR b 0), some (aR a 0), some (aI (6 : Int32))], [], (cmx (setI I b (mixI (rowP 5) (I a) (mixI (rowP 4) (I a) (mixI (rowP 3) (I a) (mixI (rowP 2) (I a) (mixI (rowP 1) (I a) (mixI (rowP 0) (I a) (fcp (I a) u)))))))) R, D, E))) rfl trivial ?_
  refine z_Ev_else (by decide) ?_
  refine z_Ev_blk 12 (c' := (38, [some (aR b 0), some (aR a 0), some (aI (6 : Int32))], [], (z_cpy (cmx (setI I b (mixI (rowP 5) (I a) (mixI (rowP 4) (I a) (mixI (rowP 3) (I a) (mixI (rowP 2) (I a) (mixI (rowP 1) (I a) (mixI (rowP 0) (I a) (fcp (I a) u)))))))) R) (7 * a + 6) 11 (7 * b + 6) 11 0 0 48, D, E))) rfl ⟨rfl, rfl, rfl, trivial⟩ ?_
  rw [cpy_11 (r := 6) hab (by decide)]
  refine z_Ev_blk 5 (c' := ((if (7 : Int32) ≤ (7 : Int32) then 44 else 19), [some (aR b 0), some (aR a 0), some (aI (7 : Int32))], [], (cmx (setI I b (mixI (rowP 6) (I a) (mixI (rowP 5) (I a) (mixI (rowP 4) (I a) (mixI (rowP 3) (I a) (mixI (rowP 2) (I a) (mixI (rowP 1) (I a) (mixI (rowP 0) (I a) (fcp (I a) u))))))))) R, D, E))) rfl trivial ?_
  refine z_Ev_if (by decide) ?_
  refine z_Ev_blk 8 (c' := (58, [some (aR b 0), some (aR a 0), some (aI (7 : Int32))], [], (z_cpy (cmx (setI I b (mixI (rowP 6) (I a) (mixI (rowP 5) (I a) (mixI (rowP 4) (I a) (mixI (rowP 3) (I a) (mixI (rowP 2) (I a) (mixI (rowP 1) (I a) (mixI (rowP 0) (I a) (fcp (I a) u))))))))) R) a 12 b 12 0 0 2, D, E))) rfl ⟨rfl, trivial⟩ ?_
  rw [cpy_12 hab]
  refine z_Ev_blk 4 (c' := (66, [some (aR b 0), some (aR a 0), some (aI (7 : Int32))], [], (up3 (cmx (setI I b (mixI (segP 32 2) (I a) (mixI (rowP 6) (I a) (mixI (rowP 5) (I a) (mixI (rowP 4) (I a) (mixI (rowP 3) (I a) (mixI (rowP 2) (I a) (mixI (rowP 1) (I a) (mixI (rowP 0) (I a) (fcp (I a) u)))))))))) R) b 0 3 ((cmx (setI I b (mixI (segP 32 2) (I a) (mixI (rowP 6) (I a) (mixI (rowP 5) (I a) (mixI (rowP 4) (I a) (mixI (rowP 3) (I a) (mixI (rowP 2) (I a) (mixI (rowP 1) (I a) (mixI (rowP 0) (I a) (fcp (I a) u)))))))))) R) a 0 3), D, E))) rfl trivial ?_
  rw [cpy_0 (k := 3) hab (by decide) (by decide)]
  refine z_Ev_blk 4 (c' := (74, [some (aR b 0), some (aR a 0), some (aI (7 : Int32))], [], (up3 (cmx (setI I b (upd (mixI (segP 32 2) (I a) (mixI (rowP 6) (I a) (mixI (rowP 5) (I a) (mixI (rowP 4) (I a) (mixI (rowP 3) (I a) (mixI (rowP 2) (I a) (mixI (rowP 1) (I a) (mixI (rowP 0) (I a) (fcp (I a) u))))))))) 34 (I a 34))) R) b 0 4 ((cmx (setI I b (upd (mixI (segP 32 2) (I a) (mixI (rowP 6) (I a) (mixI (rowP 5) (I a) (mixI (rowP 4) (I a) (mixI (rowP 3) (I a) (mixI (rowP 2) (I a) (mixI (rowP 1) (I a) (mixI (rowP 0) (I a) (fcp (I a) u))))))))) 34 (I a 34))) R) a 0 4), D, E))) rfl trivial ?_
  rw [cpy_0 (k := 4) hab (by decide) (by decide)]
  refine z_Ev_blk 4 (c' := (82, [some (aR b 0), some (aR a 0), some (aI (7 : Int32))], [], (up3 (cmx (setI I b (upd (upd (mixI (segP 32 2) (I a) (mixI (rowP 6) (I a) (mixI (rowP 5) (I a) (mixI (rowP 4) (I a) (mixI (rowP 3) (I a) (mixI (rowP 2) (I a) (mixI (rowP 1) (I a) (mixI (rowP 0) (I a) (fcp (I a) u))))))))) 34 (I a 34)) 35 (I a 35))) R) b 0 5 ((cmx (setI I b (upd (upd (mixI (segP 32 2) (I a) (mixI (rowP 6) (I a) (mixI (rowP 5) (I a) (mixI (rowP 4) (I a) (mixI (rowP 3) (I a) (mixI (rowP 2) (I a) (mixI (rowP 1) (I a) (mixI (rowP 0) (I a) (fcp (I a) u))))))))) 34 (I a 34)) 35 (I a 35))) R) a 0 5), D, E))) rfl ⟨(by show z_isB (cmx (setI I b _) R a 0 5) = true; rw [cpy_b hab (by decide) (by decide)]; exact hb5), trivial⟩ ?_
  rw [cpy_0 (k := 5) hab (by decide) (by decide)]
  refine z_Ev_blk 4 (c' := (90, [some (aR b 0), some (aR a 0), some (aI (7 : Int32))], [], (up3 (cmx (setI I b (upd (upd (upd (mixI (segP 32 2) (I a) (mixI (rowP 6) (I a) (mixI (rowP 5) (I a) (mixI (rowP 4) (I a) (mixI (rowP 3) (I a) (mixI (rowP 2) (I a) (mixI (rowP 1) (I a) (mixI (rowP 0) (I a) (fcp (I a) u))))))))) 34 (I a 34)) 35 (I a 35)) 36 (I a 36))) R) b 0 6 ((cmx (setI I b (upd (upd (upd (mixI (segP 32 2) (I a) (mixI (rowP 6) (I a) (mixI (rowP 5) (I a) (mixI (rowP 4) (I a) (mixI (rowP 3) (I a) (mixI (rowP 2) (I a) (mixI (rowP 1) (I a) (mixI (rowP 0) (I a) (fcp (I a) u))))))))) 34 (I a 34)) 35 (I a 35)) 36 (I a 36))) R) a 0 6), D, E))) rfl ⟨(by show z_isB (cmx (setI I b _) R a 0 6) = true; rw [cpy_b hab (by decide) (by decide)]; exact hb6), trivial⟩ ?_
  rw [cpy_0 (k := 6) hab (by decide) (by decide)]
  exact z_Ev_vretE rfl rfl (by rfl)
theorem c_icopy {xs : Nat → Int32} {L : Nat} (I R : Nat → Nat → Int32) (a b : Nat) (D : Nat → Nat → Int32) (E : Nat → Int64) (hab : a ≠ b) (hb5 : z_isB (I a 36) = true) (hb6 : z_isB (I a 37) = true) : z_Mt xs L m_X1_copyFrom [aR b 0, aR a 0] (cmx I R, D, E) (.inl none) (cmx (setI I b (I a)) R, D, E) 0 := by
  have q := c_icopy0 (xs := xs) (L := L) I R a b (I b) D E hab hb5 hb6
  rw [icp_all, setI_self] at q
  exact q
theorem c_copy_tn {xs : Nat → Int32} {L : Nat} (n t : Nat → Int32) (v : Nat → Nat → Int32) (ld sh o cd pl ka kb kc : Nat → Int32) (D : Nat → Nat → Int32) (E : Nat → Int64) (hb5 : z_isB (n 36) = true) (hb6 : z_isB (n 37) = true) : z_Mt xs L m_X1_copyFrom [aR 1 0, aR 0 0] (cm n t v ld sh o cd pl ka kb kc, D, E) (.inl none) (cm n n v ld sh o cd pl ka kb kc, D, E) 0 := by
  have q := c_icopy (xs := xs) (L := L) (cmI n t v) (cmR ld sh o cd pl ka kb kc) 0 1 D E (by decide) hb5 hb6
  rw [setI_t] at q
  exact q
theorem c_copy_vn {xs : Nat → Int32} {L : Nat} (i : Nat) (n t : Nat → Int32) (v : Nat → Nat → Int32) (ld sh o cd pl ka kb kc : Nat → Int32) (D : Nat → Nat → Int32) (E : Nat → Int64) (hb5 : z_isB (n 36) = true) (hb6 : z_isB (n 37) = true) : z_Mt xs L m_X1_copyFrom [aR (2 + i) 0, aR 0 0] (cm n t v ld sh o cd pl ka kb kc, D, E) (.inl none) (cm n t (setI v i n) ld sh o cd pl ka kb kc, D, E) 0 := by
  have q := c_icopy (xs := xs) (L := L) (cmI n t v) (cmR ld sh o cd pl ka kb kc) 0 (i + 2) D E (by omega) hb5 hb6
  rw [setI_v] at q
  rw [Nat.add_comm 2 i]
  exact q
theorem c_copy_nv {xs : Nat → Int32} {L : Nat} (i : Nat) (n t : Nat → Int32) (v : Nat → Nat → Int32) (ld sh o cd pl ka kb kc : Nat → Int32) (D : Nat → Nat → Int32) (E : Nat → Int64) (hb5 : z_isB (v i 36) = true) (hb6 : z_isB (v i 37) = true) : z_Mt xs L m_X1_copyFrom [aR 0 0, aR (2 + i) 0] (cm n t v ld sh o cd pl ka kb kc, D, E) (.inl none) (cm (v i) t v ld sh o cd pl ka kb kc, D, E) 0 := by
  have q := c_icopy (xs := xs) (L := L) (cmI n t v) (cmR ld sh o cd pl ka kb kc) (i + 2) 0 D E (by omega) hb5 hb6
  rw [setI_n] at q
  rw [Nat.add_comm 2 i]
  exact q
def hnF (s : Nat → Int32) : Int32 := if 47 < s 34 then 47 else s 34
def cld (s : Nat → Int32) (H : Nat) : Int32 := s (40 + H) + (if s 37 = 0 then s 32 else 0)
def cWa (s : Nat → Int32) : Int32 := if s 37 = 0 then (if s 35 - 1 < 0 then 0 else s 35 - 1) else s 35 + 1
def wcF (s : Nat → Int32) : Nat → Int32 := upd (upd s 35 (cWa s)) 36 (if s 36 = 0 then (if cWa s ≤ s 33 then 0 else 1) else 1)
theorem isB_or {x : Int32} (h : z_isB x = true) : x = 0 ∨ x = 1 := by
  unfold z_isB at h
  rcases Bool.or_eq_true_iff.mp h with h | h
  · exact Or.inl (of_decide_eq_true h)
  · exact Or.inr (of_decide_eq_true h)

theorem c_hourOfNow_0 {xs : Nat → Int32} {L : Nat}  (n t : Nat → Int32) (v : Nat → Nat → Int32) (ld sh o cd pl ka kb kc : Nat → Int32) (D : Nat → Nat → Int32) (E : Nat → Int64)  : z_Mt xs L m_X1_hourOfNow [aR 0 0] (cm n t v ld sh o cd pl ka kb kc, D, E) (.inl (some (aI (hnF n)))) (cm n t v ld sh o cd pl ka kb kc, D, E) 0 := by
  refine z_Ev_blk 4 (c' := (9, [some (aR 0 0)], [aI (if (47 : Int32) < (n 34) then (47 : Int32) else (n 34))], (cm n t v ld sh o cd pl ka kb kc, D, E))) rfl trivial ?_
  exact z_Ev_iretE rfl rfl (by rfl) (by first | rfl | simp [*])
theorem c_hasStill {xs : Nat → Int32} {L : Nat} (w : Int32) (n t : Nat → Int32) (v : Nat → Nat → Int32) (ld sh o cd pl ka kb kc : Nat → Int32) (D : Nat → Nat → Int32) (E : Nat → Int64)  : z_Mt xs L m_X1_hasStill [aR 0 0, aI w] (cm n t v ld sh o cd pl ka kb kc, D, E) (.inl (some (aI (f_b (w ≤ 48 - n 34))))) (cm n t v ld sh o cd pl ka kb kc, D, E) 0 := by
  refine z_Ev_blk 6 (c' := ((if ((48 : Int32) - (n 34)) < w then 15 else 11), [some (aR 0 0), some (aI w)], [], (cm n t v ld sh o cd pl ka kb kc, D, E))) rfl trivial ?_
  refine z_Ev_ite (fun h1 => ?_) (fun h1 => ?_)
  · skip
    refine z_Ev_blk 1 (c' := (16, [some (aR 0 0), some (aI w)], [aI (0 : Int32)], (cm n t v ld sh o cd pl ka kb kc, D, E))) rfl trivial ?_
    exact z_Ev_zretE rfl rfl (rfl) (by first | exact f_b1 h1 | exact f_b0 h1 | (refine f_b0 ?_; rw [Int32.not_le]; exact h1) | (refine f_b1 ?_; rw [← Int32.not_lt]; exact h1)) (by first | rfl | simp [*])
  · skip
    refine z_Ev_blk 2 (c' := (16, [some (aR 0 0), some (aI w)], [aI (1 : Int32)], (cm n t v ld sh o cd pl ka kb kc, D, E))) rfl trivial ?_
    exact z_Ev_zretE rfl rfl (rfl) (by first | exact f_b1 h1 | exact f_b0 h1 | (refine f_b0 ?_; rw [Int32.not_le]; exact h1) | (refine f_b1 ?_; rw [← Int32.not_lt]; exact h1)) (by first | rfl | simp [*])
theorem c_loadOf_0 {xs : Nat → Int32} {L : Nat} (H : Nat) (n t : Nat → Int32) (v : Nat → Nat → Int32) (ld sh o cd pl ka kb kc : Nat → Int32) (D : Nat → Nat → Int32) (E : Nat → Int64) (hH : H < 48) : z_Mt xs L m_X1_loadOf [aR 0 0, aI (nI H)] (cm n t v ld sh o cd pl ka kb kc, D, E) (.inl (some (aI (cld n H)))) (cm n t v ld sh o cd pl ka kb kc, D, E) 0 := by
  refine z_Ev_blk 6 (c' := (8, [some (aR 0 0), some (aI (nI H))], [aI ((cm n t v ld sh o cd pl ka kb kc) 0 11 ((nI H).toNatClampNeg))], (cm n t v ld sh o cd pl ka kb kc, D, E))) rfl ⟨rfl, (inb_nI (show H < 48 by omega) (by decide)), trivial⟩ ?_
  rw [nI_clamp (show H < 2 ^ 31 by omega), cmn_r11_0 (show H < 48 by omega)]
  refine z_Ev_blk 3 (c' := ((if (n 37) = 0 then 19 else 15), [some (aR 0 0), some (aI (nI H))], [aI (n (40 + H))], (cm n t v ld sh o cd pl ka kb kc, D, E))) rfl trivial ?_
  refine z_Ev_ite (fun h1 => ?_) (fun h1 => ?_)
  · skip
    refine z_Ev_blk 5 (c' := (26, [some (aR 0 0), some (aI (nI H))], [aI ((n (40 + H)) + (n 32))], (cm n t v ld sh o cd pl ka kb kc, D, E))) rfl ⟨rfl, trivial⟩ ?_
    exact z_Ev_iretE rfl rfl (by first | rfl | simp [cld, h1]) (by first | rfl | simp [*])
  · skip
    refine z_Ev_blk 3 (c' := (26, [some (aR 0 0), some (aI (nI H))], [aI ((n (40 + H)) + (0 : Int32))], (cm n t v ld sh o cd pl ka kb kc, D, E))) rfl trivial ?_
    exact z_Ev_iretE rfl rfl (by first | rfl | simp [cld, h1]) (by first | rfl | simp [*])
theorem c_changeWarmth_0 {xs : Nat → Int32} {L : Nat}  (n t : Nat → Int32) (v : Nat → Nat → Int32) (ld sh o cd pl ka kb kc : Nat → Int32) (D : Nat → Nat → Int32) (E : Nat → Int64)  : z_Mt xs L m_X1_changeWarmth [aR 0 0] (cm n t v ld sh o cd pl ka kb kc, D, E) (.inl (none)) (cm (wcF n) t v ld sh o cd pl ka kb kc, D, E) 0 := by
  refine z_Ev_blk 4 (c' := ((if (n 37) = 0 then 17 else 8), [some (aR 0 0)], [aR 0 0], (cm n t v ld sh o cd pl ka kb kc, D, E))) rfl trivial ?_
  refine z_Ev_ite (fun h1 => ?_) (fun h1 => ?_)
  · skip
    refine z_Ev_blk 7 (c' := (30, [some (aR 0 0)], [], (up3 (cm n t v ld sh o cd pl ka kb kc) 0 0 4 (if ((n 35) - (1 : Int32)) < (0 : Int32) then (0 : Int32) else ((n 35) - (1 : Int32))), D, E))) rfl trivial ?_
    rw [cmn_0_4]
    refine z_Ev_blk 4 (c' := ((if (n 36) = 0 then 38 else 51), [some (aR 0 0)], [aR 0 0], (cm (upd n 35 (if ((n 35) - (1 : Int32)) < (0 : Int32) then (0 : Int32) else ((n 35) - (1 : Int32)))) t v ld sh o cd pl ka kb kc, D, E))) rfl trivial ?_
    refine z_Ev_ite (fun h2 => ?_) (fun h2 => ?_)
    · skip
      refine z_Ev_blk 7 (c' := ((if (if ((n 35) - (1 : Int32)) < (0 : Int32) then (0 : Int32) else ((n 35) - (1 : Int32))) ≤ (n 33) then 55 else 51), [some (aR 0 0)], [aR 0 0], (cm (upd n 35 (if ((n 35) - (1 : Int32)) < (0 : Int32) then (0 : Int32) else ((n 35) - (1 : Int32)))) t v ld sh o cd pl ka kb kc, D, E))) rfl ⟨rfl, trivial⟩ ?_
      refine z_Ev_ite (fun h3 => ?_) (fun h3 => ?_)
      · skip
        refine z_Ev_blk 2 (c' := (59, [some (aR 0 0)], [], (up3 (cm (upd n 35 (if ((n 35) - (1 : Int32)) < (0 : Int32) then (0 : Int32) else ((n 35) - (1 : Int32)))) t v ld sh o cd pl ka kb kc) 0 0 5 (0 : Int32), D, E))) rfl ⟨rfl, trivial⟩ ?_
        rw [cmn_0_5]
        exact z_Ev_vretE rfl rfl (by simp [wcF, cWa, *])
      · skip
        refine z_Ev_blk 3 (c' := (59, [some (aR 0 0)], [], (up3 (cm (upd n 35 (if ((n 35) - (1 : Int32)) < (0 : Int32) then (0 : Int32) else ((n 35) - (1 : Int32)))) t v ld sh o cd pl ka kb kc) 0 0 5 (1 : Int32), D, E))) rfl ⟨rfl, trivial⟩ ?_
        rw [cmn_0_5]
        exact z_Ev_vretE rfl rfl (by simp [wcF, cWa, *])
    · skip
      refine z_Ev_blk 3 (c' := (59, [some (aR 0 0)], [], (up3 (cm (upd n 35 (if ((n 35) - (1 : Int32)) < (0 : Int32) then (0 : Int32) else ((n 35) - (1 : Int32)))) t v ld sh o cd pl ka kb kc) 0 0 5 (1 : Int32), D, E))) rfl ⟨rfl, trivial⟩ ?_
      rw [cmn_0_5]
      exact z_Ev_vretE rfl rfl (by simp [wcF, cWa, *])
  · skip
    refine z_Ev_blk 6 (c' := (30, [some (aR 0 0)], [], (up3 (cm n t v ld sh o cd pl ka kb kc) 0 0 4 ((n 35) + (1 : Int32)), D, E))) rfl trivial ?_
    rw [cmn_0_4]
    refine z_Ev_blk 4 (c' := ((if (n 36) = 0 then 38 else 51), [some (aR 0 0)], [aR 0 0], (cm (upd n 35 ((n 35) + (1 : Int32))) t v ld sh o cd pl ka kb kc, D, E))) rfl trivial ?_
    refine z_Ev_ite (fun h4 => ?_) (fun h4 => ?_)
    · skip
      refine z_Ev_blk 7 (c' := ((if ((n 35) + (1 : Int32)) ≤ (n 33) then 55 else 51), [some (aR 0 0)], [aR 0 0], (cm (upd n 35 ((n 35) + (1 : Int32))) t v ld sh o cd pl ka kb kc, D, E))) rfl ⟨rfl, trivial⟩ ?_
      refine z_Ev_ite (fun h5 => ?_) (fun h5 => ?_)
      · skip
        refine z_Ev_blk 2 (c' := (59, [some (aR 0 0)], [], (up3 (cm (upd n 35 ((n 35) + (1 : Int32))) t v ld sh o cd pl ka kb kc) 0 0 5 (0 : Int32), D, E))) rfl ⟨rfl, trivial⟩ ?_
        rw [cmn_0_5]
        exact z_Ev_vretE rfl rfl (by simp [wcF, cWa, *])
      · skip
        refine z_Ev_blk 3 (c' := (59, [some (aR 0 0)], [], (up3 (cm (upd n 35 ((n 35) + (1 : Int32))) t v ld sh o cd pl ka kb kc) 0 0 5 (1 : Int32), D, E))) rfl ⟨rfl, trivial⟩ ?_
        rw [cmn_0_5]
        exact z_Ev_vretE rfl rfl (by simp [wcF, cWa, *])
    · skip
      refine z_Ev_blk 3 (c' := (59, [some (aR 0 0)], [], (up3 (cm (upd n 35 ((n 35) + (1 : Int32))) t v ld sh o cd pl ka kb kc) 0 0 5 (1 : Int32), D, E))) rfl ⟨rfl, trivial⟩ ?_
      rw [cmn_0_5]
      exact z_Ev_vretE rfl rfl (by simp [wcF, cWa, *])
theorem c_hourOfNow_1 {xs : Nat → Int32} {L : Nat}  (n t : Nat → Int32) (v : Nat → Nat → Int32) (ld sh o cd pl ka kb kc : Nat → Int32) (D : Nat → Nat → Int32) (E : Nat → Int64)  : z_Mt xs L m_X1_hourOfNow [aR 1 0] (cm n t v ld sh o cd pl ka kb kc, D, E) (.inl (some (aI (hnF t)))) (cm n t v ld sh o cd pl ka kb kc, D, E) 0 := by
  refine z_Ev_blk 4 (c' := (9, [some (aR 1 0)], [aI (if (47 : Int32) < (t 34) then (47 : Int32) else (t 34))], (cm n t v ld sh o cd pl ka kb kc, D, E))) rfl trivial ?_
  exact z_Ev_iretE rfl rfl (by rfl) (by first | rfl | simp [*])
theorem c_loadOf_1 {xs : Nat → Int32} {L : Nat} (H : Nat) (n t : Nat → Int32) (v : Nat → Nat → Int32) (ld sh o cd pl ka kb kc : Nat → Int32) (D : Nat → Nat → Int32) (E : Nat → Int64) (hH : H < 48) : z_Mt xs L m_X1_loadOf [aR 1 0, aI (nI H)] (cm n t v ld sh o cd pl ka kb kc, D, E) (.inl (some (aI (cld t H)))) (cm n t v ld sh o cd pl ka kb kc, D, E) 0 := by
  refine z_Ev_blk 6 (c' := (8, [some (aR 1 0), some (aI (nI H))], [aI ((cm n t v ld sh o cd pl ka kb kc) 7 11 ((nI H).toNatClampNeg))], (cm n t v ld sh o cd pl ka kb kc, D, E))) rfl ⟨rfl, (inb_nI (show H < 48 by omega) (by decide)), trivial⟩ ?_
  rw [nI_clamp (show H < 2 ^ 31 by omega), cmt_r11_0 (show H < 48 by omega)]
  refine z_Ev_blk 3 (c' := ((if (t 37) = 0 then 19 else 15), [some (aR 1 0), some (aI (nI H))], [aI (t (40 + H))], (cm n t v ld sh o cd pl ka kb kc, D, E))) rfl trivial ?_
  refine z_Ev_ite (fun h1 => ?_) (fun h1 => ?_)
  · skip
    refine z_Ev_blk 5 (c' := (26, [some (aR 1 0), some (aI (nI H))], [aI ((t (40 + H)) + (t 32))], (cm n t v ld sh o cd pl ka kb kc, D, E))) rfl ⟨rfl, trivial⟩ ?_
    exact z_Ev_iretE rfl rfl (by first | rfl | simp [cld, h1]) (by first | rfl | simp [*])
  · skip
    refine z_Ev_blk 3 (c' := (26, [some (aR 1 0), some (aI (nI H))], [aI ((t (40 + H)) + (0 : Int32))], (cm n t v ld sh o cd pl ka kb kc, D, E))) rfl trivial ?_
    exact z_Ev_iretE rfl rfl (by first | rfl | simp [cld, h1]) (by first | rfl | simp [*])
theorem c_changeWarmth_1 {xs : Nat → Int32} {L : Nat}  (n t : Nat → Int32) (v : Nat → Nat → Int32) (ld sh o cd pl ka kb kc : Nat → Int32) (D : Nat → Nat → Int32) (E : Nat → Int64)  : z_Mt xs L m_X1_changeWarmth [aR 1 0] (cm n t v ld sh o cd pl ka kb kc, D, E) (.inl (none)) (cm n (wcF t) v ld sh o cd pl ka kb kc, D, E) 0 := by
  refine z_Ev_blk 4 (c' := ((if (t 37) = 0 then 17 else 8), [some (aR 1 0)], [aR 1 0], (cm n t v ld sh o cd pl ka kb kc, D, E))) rfl trivial ?_
  refine z_Ev_ite (fun h1 => ?_) (fun h1 => ?_)
  · skip
    refine z_Ev_blk 7 (c' := (30, [some (aR 1 0)], [], (up3 (cm n t v ld sh o cd pl ka kb kc) 1 0 4 (if ((t 35) - (1 : Int32)) < (0 : Int32) then (0 : Int32) else ((t 35) - (1 : Int32))), D, E))) rfl trivial ?_
    rw [cmt_0_4]
    refine z_Ev_blk 4 (c' := ((if (t 36) = 0 then 38 else 51), [some (aR 1 0)], [aR 1 0], (cm n (upd t 35 (if ((t 35) - (1 : Int32)) < (0 : Int32) then (0 : Int32) else ((t 35) - (1 : Int32)))) v ld sh o cd pl ka kb kc, D, E))) rfl trivial ?_
    refine z_Ev_ite (fun h2 => ?_) (fun h2 => ?_)
    · skip
      refine z_Ev_blk 7 (c' := ((if (if ((t 35) - (1 : Int32)) < (0 : Int32) then (0 : Int32) else ((t 35) - (1 : Int32))) ≤ (t 33) then 55 else 51), [some (aR 1 0)], [aR 1 0], (cm n (upd t 35 (if ((t 35) - (1 : Int32)) < (0 : Int32) then (0 : Int32) else ((t 35) - (1 : Int32)))) v ld sh o cd pl ka kb kc, D, E))) rfl ⟨rfl, trivial⟩ ?_
      refine z_Ev_ite (fun h3 => ?_) (fun h3 => ?_)
      · skip
        refine z_Ev_blk 2 (c' := (59, [some (aR 1 0)], [], (up3 (cm n (upd t 35 (if ((t 35) - (1 : Int32)) < (0 : Int32) then (0 : Int32) else ((t 35) - (1 : Int32)))) v ld sh o cd pl ka kb kc) 1 0 5 (0 : Int32), D, E))) rfl ⟨rfl, trivial⟩ ?_
        rw [cmt_0_5]
        exact z_Ev_vretE rfl rfl (by simp [wcF, cWa, *])
      · skip
        refine z_Ev_blk 3 (c' := (59, [some (aR 1 0)], [], (up3 (cm n (upd t 35 (if ((t 35) - (1 : Int32)) < (0 : Int32) then (0 : Int32) else ((t 35) - (1 : Int32)))) v ld sh o cd pl ka kb kc) 1 0 5 (1 : Int32), D, E))) rfl ⟨rfl, trivial⟩ ?_
        rw [cmt_0_5]
        exact z_Ev_vretE rfl rfl (by simp [wcF, cWa, *])
    · skip
      refine z_Ev_blk 3 (c' := (59, [some (aR 1 0)], [], (up3 (cm n (upd t 35 (if ((t 35) - (1 : Int32)) < (0 : Int32) then (0 : Int32) else ((t 35) - (1 : Int32)))) v ld sh o cd pl ka kb kc) 1 0 5 (1 : Int32), D, E))) rfl ⟨rfl, trivial⟩ ?_
      rw [cmt_0_5]
      exact z_Ev_vretE rfl rfl (by simp [wcF, cWa, *])
  · skip
    refine z_Ev_blk 6 (c' := (30, [some (aR 1 0)], [], (up3 (cm n t v ld sh o cd pl ka kb kc) 1 0 4 ((t 35) + (1 : Int32)), D, E))) rfl trivial ?_
    rw [cmt_0_4]
    refine z_Ev_blk 4 (c' := ((if (t 36) = 0 then 38 else 51), [some (aR 1 0)], [aR 1 0], (cm n (upd t 35 ((t 35) + (1 : Int32))) v ld sh o cd pl ka kb kc, D, E))) rfl trivial ?_
    refine z_Ev_ite (fun h4 => ?_) (fun h4 => ?_)
    · skip
      refine z_Ev_blk 7 (c' := ((if ((t 35) + (1 : Int32)) ≤ (t 33) then 55 else 51), [some (aR 1 0)], [aR 1 0], (cm n (upd t 35 ((t 35) + (1 : Int32))) v ld sh o cd pl ka kb kc, D, E))) rfl ⟨rfl, trivial⟩ ?_
      refine z_Ev_ite (fun h5 => ?_) (fun h5 => ?_)
      · skip
        refine z_Ev_blk 2 (c' := (59, [some (aR 1 0)], [], (up3 (cm n (upd t 35 ((t 35) + (1 : Int32))) v ld sh o cd pl ka kb kc) 1 0 5 (0 : Int32), D, E))) rfl ⟨rfl, trivial⟩ ?_
        rw [cmt_0_5]
        exact z_Ev_vretE rfl rfl (by simp [wcF, cWa, *])
      · skip
        refine z_Ev_blk 3 (c' := (59, [some (aR 1 0)], [], (up3 (cm n (upd t 35 ((t 35) + (1 : Int32))) v ld sh o cd pl ka kb kc) 1 0 5 (1 : Int32), D, E))) rfl ⟨rfl, trivial⟩ ?_
        rw [cmt_0_5]
        exact z_Ev_vretE rfl rfl (by simp [wcF, cWa, *])
    · skip
      refine z_Ev_blk 3 (c' := (59, [some (aR 1 0)], [], (up3 (cm n (upd t 35 ((t 35) + (1 : Int32))) v ld sh o cd pl ka kb kc) 1 0 5 (1 : Int32), D, E))) rfl ⟨rfl, trivial⟩ ?_
      rw [cmt_0_5]
      exact z_Ev_vretE rfl rfl (by simp [wcF, cWa, *])
def dkN (s : Nat → Int32) : Nat → Int32
  | 0 => 0
  | g + 1 => dkN s g + (if 0 < s (88 + 6 * g + 1) then 1 else 0)
def sfN (s : Nat → Int32) : Nat → Int32
  | 0 => 0
  | g + 1 => sfN s g + s (88 + 6 * g + 4)

theorem dk_1_0 {xs : Nat → Int32} {L : Nat} {o_ : z_Rs} {M' : Mem} {kk : Nat} (g H : Nat) (x : Int32) (n t : Nat → Int32) (v : Nat → Nat → Int32) (ld sh o cd pl ka kb kc : Nat → Int32) (D : Nat → Nat → Int32) (E : Nat → Int64) (hs : n 34 = nI H) (hH : H ≤ 48) (hg : g < H) (K : z_Ev xs L m_X1_darkHours (4, [some (aR 0 0), some (aI (x + (if 0 < n (88 + 6 * g + 1) then 1 else 0))), some (aI (nI (g + 1)))], [], (cm n t v ld sh o cd pl ka kb kc, D, E)) o_ M' kk) : z_Ev xs L m_X1_darkHours (4, [some (aR 0 0), some (aI x), some (aI (nI g))], [], (cm n t v ld sh o cd pl ka kb kc, D, E)) o_ M' kk := by
  refine z_Ev_blk 3 (c' := (9, [some (aR 0 0), some (aI x), some (aI (nI g))], [aI (n 34), aI (nI g)], (cm n t v ld sh o cd pl ka kb kc, D, E))) rfl trivial ?_
  rw [hs]
  refine z_Ev_blk 1 (c' := ((if (nI H) ≤ (nI g) then 46 else 12), [some (aR 0 0), some (aI x), some (aI (nI g))], [], (cm n t v ld sh o cd pl ka kb kc, D, E))) rfl trivial ?_
  refine z_Ev_else (nI_ge hg (by omega)) ?_
  refine z_Ev_blk 3 (c' := ((if (48 : Int32) ≤ (nI g) then 46 else 18), [some (aR 0 0), some (aI x), some (aI (nI g))], [], (cm n t v ld sh o cd pl ka kb kc, D, E))) rfl trivial ?_
  refine z_Ev_else (nI_ge (b := 48) (by omega) (by decide)) ?_
  refine z_Ev_blk 7 (c' := (27, [some (aR 0 0), some (aI x), some (aI (nI g))], [aI ((cm n t v ld sh o cd pl ka kb kc) 2 11 ((nI g).toNatClampNeg)), aI x], (cm n t v ld sh o cd pl ka kb kc, D, E))) rfl ⟨rfl, (inb_nI (show g < 48 by omega) (by decide)), trivial⟩ ?_
  rw [nI_clamp (show g < 2 ^ 31 by omega), cmn_r11_2 (show g < 48 by omega)]
  refine z_Ev_blk 1 (c' := ((if (n (88 + 6 * g + 1)) ≤ 0 then 34 else 30), [some (aR 0 0), some (aI x), some (aI (nI g))], [aI x], (cm n t v ld sh o cd pl ka kb kc, D, E))) rfl trivial ?_
  refine z_Ev_ite (fun h1 => ?_) (fun h1 => ?_)
  · skip
    refine z_Ev_blk 1 (c' := (35, [some (aR 0 0), some (aI x), some (aI (nI g))], [aI (0 : Int32), aI x], (cm n t v ld sh o cd pl ka kb kc, D, E))) rfl trivial ?_
    refine z_Ev_call0 (m' := m_X4_oneIf) (as := [aI (0 : Int32)]) (r := [aI x]) (e_oneIf (0 : Int32) (cm n t v ld sh o cd pl ka kb kc) D E) rfl rfl ?_
    refine z_Ev_blk 4 (c' := (4, [some (aR 0 0), some (aI (x + (if (0 : Int32) = 0 then 0 else 1))), some (aI ((nI g) + (1 : Int32)))], [], (cm n t v ld sh o cd pl ka kb kc, D, E))) rfl trivial ?_
    refine z_Ev_fgt [true, true, true] ?_
    exact z_Ev_eq (c := (4, [some (aR 0 0), some (aI (x + (if (0 : Int32) = 0 then 0 else 1))), some (aI ((nI g) + (1 : Int32)))], [], (cm n t v ld sh o cd pl ka kb kc, D, E))) (c' := (4, [some (aR 0 0), some (aI (x + (if 0 < n (88 + 6 * g + 1) then 1 else 0))), some (aI (nI (g + 1)))], [], (cm n t v ld sh o cd pl ka kb kc, D, E))) (by first | rfl | simp [nI_1, h1]) K
  · skip
    refine z_Ev_blk 2 (c' := (35, [some (aR 0 0), some (aI x), some (aI (nI g))], [aI (1 : Int32), aI x], (cm n t v ld sh o cd pl ka kb kc, D, E))) rfl trivial ?_
    refine z_Ev_call0 (m' := m_X4_oneIf) (as := [aI (1 : Int32)]) (r := [aI x]) (e_oneIf (1 : Int32) (cm n t v ld sh o cd pl ka kb kc) D E) rfl rfl ?_
    refine z_Ev_blk 4 (c' := (4, [some (aR 0 0), some (aI (x + (if (1 : Int32) = 0 then 0 else 1))), some (aI ((nI g) + (1 : Int32)))], [], (cm n t v ld sh o cd pl ka kb kc, D, E))) rfl trivial ?_
    refine z_Ev_fgt [true, true, true] ?_
    exact z_Ev_eq (c := (4, [some (aR 0 0), some (aI (x + (if (1 : Int32) = 0 then 0 else 1))), some (aI ((nI g) + (1 : Int32)))], [], (cm n t v ld sh o cd pl ka kb kc, D, E))) (c' := (4, [some (aR 0 0), some (aI (x + (if 0 < n (88 + 6 * g + 1) then 1 else 0))), some (aI (nI (g + 1)))], [], (cm n t v ld sh o cd pl ka kb kc, D, E))) (by first | rfl | simp [nI_1, h1]) K
theorem dk_all_0 {xs : Nat → Int32} {L : Nat} (n t : Nat → Int32) (v : Nat → Nat → Int32) (ld sh o cd pl ka kb kc : Nat → Int32) (D : Nat → Nat → Int32) (E : Nat → Int64) (H : Nat) (hs : n 34 = nI H) (hH : H ≤ 48) : ∀ (d g : Nat), g + d = H → z_Ev xs L m_X1_darkHours (4, [some (aR 0 0), some (aI (dkN n g)), some (aI (nI g))], [], (cm n t v ld sh o cd pl ka kb kc, D, E)) (.inl (some (aI (dkN n H)))) (cm n t v ld sh o cd pl ka kb kc, D, E) 0 := by
  intro d
  induction d with
  | zero =>
    intro g h
    have e : g = H := by omega
    subst e
    refine z_Ev_blk 3 (c' := (9, [some (aR 0 0), some (aI (dkN n g)), some (aI (nI g))], [aI (n 34), aI (nI g)], (cm n t v ld sh o cd pl ka kb kc, D, E))) rfl trivial ?_
    rw [hs]
    refine z_Ev_blk 1 (c' := ((if (nI g) ≤ (nI g) then 46 else 12), [some (aR 0 0), some (aI (dkN n g)), some (aI (nI g))], [], (cm n t v ld sh o cd pl ka kb kc, D, E))) rfl trivial ?_
    refine z_Ev_if (Int32.le_refl _) ?_
    refine z_Ev_blk 1 (c' := (47, [some (aR 0 0), some (aI (dkN n g)), some (aI (nI g))], [aI (dkN n g)], (cm n t v ld sh o cd pl ka kb kc, D, E))) rfl trivial ?_
    exact z_Ev_iretE rfl rfl (by rfl) (by rfl)
  | succ d ih =>
    intro g h
    refine dk_1_0 g H _ n t v ld sh o cd pl ka kb kc D E hs hH (by omega) ?_
    exact ih (g + 1) (by omega)
theorem c_darkHours_0 {xs : Nat → Int32} {L : Nat} (n t : Nat → Int32) (v : Nat → Nat → Int32) (ld sh o cd pl ka kb kc : Nat → Int32) (D : Nat → Nat → Int32) (E : Nat → Int64) (H : Nat) (hs : n 34 = nI H) (hH : H ≤ 48) : z_Mt xs L m_X1_darkHours [aR 0 0] (cm n t v ld sh o cd pl ka kb kc, D, E) (.inl (some (aI (dkN n H)))) (cm n t v ld sh o cd pl ka kb kc, D, E) 0 := by
  refine z_Ev_blk 4 (c' := (4, [some (aR 0 0), some (aI (0 : Int32)), some (aI (0 : Int32))], [], (cm n t v ld sh o cd pl ka kb kc, D, E))) rfl trivial ?_
  rw [show (0 : Int32) = nI 0 from rfl]
  exact dk_all_0 n t v ld sh o cd pl ka kb kc D E H hs hH H 0 (by omega)
theorem dk_1_1 {xs : Nat → Int32} {L : Nat} {o_ : z_Rs} {M' : Mem} {kk : Nat} (g H : Nat) (x : Int32) (n t : Nat → Int32) (v : Nat → Nat → Int32) (ld sh o cd pl ka kb kc : Nat → Int32) (D : Nat → Nat → Int32) (E : Nat → Int64) (hs : t 34 = nI H) (hH : H ≤ 48) (hg : g < H) (K : z_Ev xs L m_X1_darkHours (4, [some (aR 1 0), some (aI (x + (if 0 < t (88 + 6 * g + 1) then 1 else 0))), some (aI (nI (g + 1)))], [], (cm n t v ld sh o cd pl ka kb kc, D, E)) o_ M' kk) : z_Ev xs L m_X1_darkHours (4, [some (aR 1 0), some (aI x), some (aI (nI g))], [], (cm n t v ld sh o cd pl ka kb kc, D, E)) o_ M' kk := by
  refine z_Ev_blk 3 (c' := (9, [some (aR 1 0), some (aI x), some (aI (nI g))], [aI (t 34), aI (nI g)], (cm n t v ld sh o cd pl ka kb kc, D, E))) rfl trivial ?_
  rw [hs]
  refine z_Ev_blk 1 (c' := ((if (nI H) ≤ (nI g) then 46 else 12), [some (aR 1 0), some (aI x), some (aI (nI g))], [], (cm n t v ld sh o cd pl ka kb kc, D, E))) rfl trivial ?_
  refine z_Ev_else (nI_ge hg (by omega)) ?_
  refine z_Ev_blk 3 (c' := ((if (48 : Int32) ≤ (nI g) then 46 else 18), [some (aR 1 0), some (aI x), some (aI (nI g))], [], (cm n t v ld sh o cd pl ka kb kc, D, E))) rfl trivial ?_
  refine z_Ev_else (nI_ge (b := 48) (by omega) (by decide)) ?_
  refine z_Ev_blk 7 (c' := (27, [some (aR 1 0), some (aI x), some (aI (nI g))], [aI ((cm n t v ld sh o cd pl ka kb kc) 9 11 ((nI g).toNatClampNeg)), aI x], (cm n t v ld sh o cd pl ka kb kc, D, E))) rfl ⟨rfl, (inb_nI (show g < 48 by omega) (by decide)), trivial⟩ ?_
  rw [nI_clamp (show g < 2 ^ 31 by omega), cmt_r11_2 (show g < 48 by omega)]
  refine z_Ev_blk 1 (c' := ((if (t (88 + 6 * g + 1)) ≤ 0 then 34 else 30), [some (aR 1 0), some (aI x), some (aI (nI g))], [aI x], (cm n t v ld sh o cd pl ka kb kc, D, E))) rfl trivial ?_
  refine z_Ev_ite (fun h1 => ?_) (fun h1 => ?_)
  · skip
    refine z_Ev_blk 1 (c' := (35, [some (aR 1 0), some (aI x), some (aI (nI g))], [aI (0 : Int32), aI x], (cm n t v ld sh o cd pl ka kb kc, D, E))) rfl trivial ?_
    refine z_Ev_call0 (m' := m_X4_oneIf) (as := [aI (0 : Int32)]) (r := [aI x]) (e_oneIf (0 : Int32) (cm n t v ld sh o cd pl ka kb kc) D E) rfl rfl ?_
    refine z_Ev_blk 4 (c' := (4, [some (aR 1 0), some (aI (x + (if (0 : Int32) = 0 then 0 else 1))), some (aI ((nI g) + (1 : Int32)))], [], (cm n t v ld sh o cd pl ka kb kc, D, E))) rfl trivial ?_
    refine z_Ev_fgt [true, true, true] ?_
    exact z_Ev_eq (c := (4, [some (aR 1 0), some (aI (x + (if (0 : Int32) = 0 then 0 else 1))), some (aI ((nI g) + (1 : Int32)))], [], (cm n t v ld sh o cd pl ka kb kc, D, E))) (c' := (4, [some (aR 1 0), some (aI (x + (if 0 < t (88 + 6 * g + 1) then 1 else 0))), some (aI (nI (g + 1)))], [], (cm n t v ld sh o cd pl ka kb kc, D, E))) (by first | rfl | simp [nI_1, h1]) K
  · skip
    refine z_Ev_blk 2 (c' := (35, [some (aR 1 0), some (aI x), some (aI (nI g))], [aI (1 : Int32), aI x], (cm n t v ld sh o cd pl ka kb kc, D, E))) rfl trivial ?_
    refine z_Ev_call0 (m' := m_X4_oneIf) (as := [aI (1 : Int32)]) (r := [aI x]) (e_oneIf (1 : Int32) (cm n t v ld sh o cd pl ka kb kc) D E) rfl rfl ?_
    refine z_Ev_blk 4 (c' := (4, [some (aR 1 0), some (aI (x + (if (1 : Int32) = 0 then 0 else 1))), some (aI ((nI g) + (1 : Int32)))], [], (cm n t v ld sh o cd pl ka kb kc, D, E))) rfl trivial ?_
    refine z_Ev_fgt [true, true, true] ?_
    exact z_Ev_eq (c := (4, [some (aR 1 0), some (aI (x + (if (1 : Int32) = 0 then 0 else 1))), some (aI ((nI g) + (1 : Int32)))], [], (cm n t v ld sh o cd pl ka kb kc, D, E))) (c' := (4, [some (aR 1 0), some (aI (x + (if 0 < t (88 + 6 * g + 1) then 1 else 0))), some (aI (nI (g + 1)))], [], (cm n t v ld sh o cd pl ka kb kc, D, E))) (by first | rfl | simp [nI_1, h1]) K
theorem dk_all_1 {xs : Nat → Int32} {L : Nat} (n t : Nat → Int32) (v : Nat → Nat → Int32) (ld sh o cd pl ka kb kc : Nat → Int32) (D : Nat → Nat → Int32) (E : Nat → Int64) (H : Nat) (hs : t 34 = nI H) (hH : H ≤ 48) : ∀ (d g : Nat), g + d = H → z_Ev xs L m_X1_darkHours (4, [some (aR 1 0), some (aI (dkN t g)), some (aI (nI g))], [], (cm n t v ld sh o cd pl ka kb kc, D, E)) (.inl (some (aI (dkN t H)))) (cm n t v ld sh o cd pl ka kb kc, D, E) 0 := by
  intro d
  induction d with
  | zero =>
    intro g h
    have e : g = H := by omega
    subst e
    refine z_Ev_blk 3 (c' := (9, [some (aR 1 0), some (aI (dkN t g)), some (aI (nI g))], [aI (t 34), aI (nI g)], (cm n t v ld sh o cd pl ka kb kc, D, E))) rfl trivial ?_
    rw [hs]
    refine z_Ev_blk 1 (c' := ((if (nI g) ≤ (nI g) then 46 else 12), [some (aR 1 0), some (aI (dkN t g)), some (aI (nI g))], [], (cm n t v ld sh o cd pl ka kb kc, D, E))) rfl trivial ?_
    refine z_Ev_if (Int32.le_refl _) ?_
    refine z_Ev_blk 1 (c' := (47, [some (aR 1 0), some (aI (dkN t g)), some (aI (nI g))], [aI (dkN t g)], (cm n t v ld sh o cd pl ka kb kc, D, E))) rfl trivial ?_
    exact z_Ev_iretE rfl rfl (by rfl) (by rfl)
  | succ d ih =>
    intro g h
    refine dk_1_1 g H _ n t v ld sh o cd pl ka kb kc D E hs hH (by omega) ?_
    exact ih (g + 1) (by omega)
theorem c_darkHours_1 {xs : Nat → Int32} {L : Nat} (n t : Nat → Int32) (v : Nat → Nat → Int32) (ld sh o cd pl ka kb kc : Nat → Int32) (D : Nat → Nat → Int32) (E : Nat → Int64) (H : Nat) (hs : t 34 = nI H) (hH : H ≤ 48) : z_Mt xs L m_X1_darkHours [aR 1 0] (cm n t v ld sh o cd pl ka kb kc, D, E) (.inl (some (aI (dkN t H)))) (cm n t v ld sh o cd pl ka kb kc, D, E) 0 := by
  refine z_Ev_blk 4 (c' := (4, [some (aR 1 0), some (aI (0 : Int32)), some (aI (0 : Int32))], [], (cm n t v ld sh o cd pl ka kb kc, D, E))) rfl trivial ?_
  rw [show (0 : Int32) = nI 0 from rfl]
  exact dk_all_1 n t v ld sh o cd pl ka kb kc D E H hs hH H 0 (by omega)
theorem sf_1_0 {xs : Nat → Int32} {L : Nat} {o_ : z_Rs} {M' : Mem} {kk : Nat} (g H : Nat) (x : Int32) (n t : Nat → Int32) (v : Nat → Nat → Int32) (ld sh o cd pl ka kb kc : Nat → Int32) (D : Nat → Nat → Int32) (E : Nat → Int64) (hs : n 34 = nI H) (hH : H ≤ 48) (hg : g < H) (K : z_Ev xs L m_X1_safeHours (4, [some (aR 0 0), some (aI (x + n (88 + 6 * g + 4))), some (aI (nI (g + 1)))], [], (cm n t v ld sh o cd pl ka kb kc, D, E)) o_ M' kk) : z_Ev xs L m_X1_safeHours (4, [some (aR 0 0), some (aI x), some (aI (nI g))], [], (cm n t v ld sh o cd pl ka kb kc, D, E)) o_ M' kk := by
  refine z_Ev_blk 3 (c' := (9, [some (aR 0 0), some (aI x), some (aI (nI g))], [aI (n 34), aI (nI g)], (cm n t v ld sh o cd pl ka kb kc, D, E))) rfl trivial ?_
  rw [hs]
  refine z_Ev_blk 1 (c' := ((if (nI H) ≤ (nI g) then 35 else 12), [some (aR 0 0), some (aI x), some (aI (nI g))], [], (cm n t v ld sh o cd pl ka kb kc, D, E))) rfl trivial ?_
  refine z_Ev_else (nI_ge hg (by omega)) ?_
  refine z_Ev_blk 3 (c' := ((if (48 : Int32) ≤ (nI g) then 35 else 18), [some (aR 0 0), some (aI x), some (aI (nI g))], [], (cm n t v ld sh o cd pl ka kb kc, D, E))) rfl trivial ?_
  refine z_Ev_else (nI_ge (b := 48) (by omega) (by decide)) ?_
  refine z_Ev_blk 7 (c' := (27, [some (aR 0 0), some (aI x), some (aI (nI g))], [aI ((cm n t v ld sh o cd pl ka kb kc) 5 11 ((nI g).toNatClampNeg)), aI x], (cm n t v ld sh o cd pl ka kb kc, D, E))) rfl ⟨rfl, (inb_nI (show g < 48 by omega) (by decide)), trivial⟩ ?_
  rw [nI_clamp (show g < 2 ^ 31 by omega), cmn_r11_5 (show g < 48 by omega)]
  refine z_Ev_blk 4 (c' := (4, [some (aR 0 0), some (aI (x + (n (88 + 6 * g + 4)))), some (aI ((nI g) + (1 : Int32)))], [], (cm n t v ld sh o cd pl ka kb kc, D, E))) rfl trivial ?_
  refine z_Ev_fgt [true, true, true] ?_
  exact z_Ev_eq (c := (4, [some (aR 0 0), some (aI (x + (n (88 + 6 * g + 4)))), some (aI ((nI g) + (1 : Int32)))], [], (cm n t v ld sh o cd pl ka kb kc, D, E))) (c' := (4, [some (aR 0 0), some (aI (x + n (88 + 6 * g + 4))), some (aI (nI (g + 1)))], [], (cm n t v ld sh o cd pl ka kb kc, D, E))) (by first | rfl | simp [nI_1]) K
theorem sf_all_0 {xs : Nat → Int32} {L : Nat} (n t : Nat → Int32) (v : Nat → Nat → Int32) (ld sh o cd pl ka kb kc : Nat → Int32) (D : Nat → Nat → Int32) (E : Nat → Int64) (H : Nat) (hs : n 34 = nI H) (hH : H ≤ 48) : ∀ (d g : Nat), g + d = H → z_Ev xs L m_X1_safeHours (4, [some (aR 0 0), some (aI (sfN n g)), some (aI (nI g))], [], (cm n t v ld sh o cd pl ka kb kc, D, E)) (.inl (some (aI (sfN n H)))) (cm n t v ld sh o cd pl ka kb kc, D, E) 0 := by
  intro d
  induction d with
  | zero =>
    intro g h
    have e : g = H := by omega
    subst e
    refine z_Ev_blk 3 (c' := (9, [some (aR 0 0), some (aI (sfN n g)), some (aI (nI g))], [aI (n 34), aI (nI g)], (cm n t v ld sh o cd pl ka kb kc, D, E))) rfl trivial ?_
    rw [hs]
    refine z_Ev_blk 1 (c' := ((if (nI g) ≤ (nI g) then 35 else 12), [some (aR 0 0), some (aI (sfN n g)), some (aI (nI g))], [], (cm n t v ld sh o cd pl ka kb kc, D, E))) rfl trivial ?_
    refine z_Ev_if (Int32.le_refl _) ?_
    refine z_Ev_blk 1 (c' := (36, [some (aR 0 0), some (aI (sfN n g)), some (aI (nI g))], [aI (sfN n g)], (cm n t v ld sh o cd pl ka kb kc, D, E))) rfl trivial ?_
    exact z_Ev_iretE rfl rfl (by rfl) (by rfl)
  | succ d ih =>
    intro g h
    refine sf_1_0 g H _ n t v ld sh o cd pl ka kb kc D E hs hH (by omega) ?_
    exact ih (g + 1) (by omega)
theorem c_safeHours_0 {xs : Nat → Int32} {L : Nat} (n t : Nat → Int32) (v : Nat → Nat → Int32) (ld sh o cd pl ka kb kc : Nat → Int32) (D : Nat → Nat → Int32) (E : Nat → Int64) (H : Nat) (hs : n 34 = nI H) (hH : H ≤ 48) : z_Mt xs L m_X1_safeHours [aR 0 0] (cm n t v ld sh o cd pl ka kb kc, D, E) (.inl (some (aI (sfN n H)))) (cm n t v ld sh o cd pl ka kb kc, D, E) 0 := by
  refine z_Ev_blk 4 (c' := (4, [some (aR 0 0), some (aI (0 : Int32)), some (aI (0 : Int32))], [], (cm n t v ld sh o cd pl ka kb kc, D, E))) rfl trivial ?_
  rw [show (0 : Int32) = nI 0 from rfl]
  exact sf_all_0 n t v ld sh o cd pl ka kb kc D E H hs hH H 0 (by omega)
theorem sf_1_1 {xs : Nat → Int32} {L : Nat} {o_ : z_Rs} {M' : Mem} {kk : Nat} (g H : Nat) (x : Int32) (n t : Nat → Int32) (v : Nat → Nat → Int32) (ld sh o cd pl ka kb kc : Nat → Int32) (D : Nat → Nat → Int32) (E : Nat → Int64) (hs : t 34 = nI H) (hH : H ≤ 48) (hg : g < H) (K : z_Ev xs L m_X1_safeHours (4, [some (aR 1 0), some (aI (x + t (88 + 6 * g + 4))), some (aI (nI (g + 1)))], [], (cm n t v ld sh o cd pl ka kb kc, D, E)) o_ M' kk) : z_Ev xs L m_X1_safeHours (4, [some (aR 1 0), some (aI x), some (aI (nI g))], [], (cm n t v ld sh o cd pl ka kb kc, D, E)) o_ M' kk := by
  refine z_Ev_blk 3 (c' := (9, [some (aR 1 0), some (aI x), some (aI (nI g))], [aI (t 34), aI (nI g)], (cm n t v ld sh o cd pl ka kb kc, D, E))) rfl trivial ?_
  rw [hs]
  refine z_Ev_blk 1 (c' := ((if (nI H) ≤ (nI g) then 35 else 12), [some (aR 1 0), some (aI x), some (aI (nI g))], [], (cm n t v ld sh o cd pl ka kb kc, D, E))) rfl trivial ?_
  refine z_Ev_else (nI_ge hg (by omega)) ?_
  refine z_Ev_blk 3 (c' := ((if (48 : Int32) ≤ (nI g) then 35 else 18), [some (aR 1 0), some (aI x), some (aI (nI g))], [], (cm n t v ld sh o cd pl ka kb kc, D, E))) rfl trivial ?_
  refine z_Ev_else (nI_ge (b := 48) (by omega) (by decide)) ?_
  refine z_Ev_blk 7 (c' := (27, [some (aR 1 0), some (aI x), some (aI (nI g))], [aI ((cm n t v ld sh o cd pl ka kb kc) 12 11 ((nI g).toNatClampNeg)), aI x], (cm n t v ld sh o cd pl ka kb kc, D, E))) rfl ⟨rfl, (inb_nI (show g < 48 by omega) (by decide)), trivial⟩ ?_
  rw [nI_clamp (show g < 2 ^ 31 by omega), cmt_r11_5 (show g < 48 by omega)]
  refine z_Ev_blk 4 (c' := (4, [some (aR 1 0), some (aI (x + (t (88 + 6 * g + 4)))), some (aI ((nI g) + (1 : Int32)))], [], (cm n t v ld sh o cd pl ka kb kc, D, E))) rfl trivial ?_
  refine z_Ev_fgt [true, true, true] ?_
  exact z_Ev_eq (c := (4, [some (aR 1 0), some (aI (x + (t (88 + 6 * g + 4)))), some (aI ((nI g) + (1 : Int32)))], [], (cm n t v ld sh o cd pl ka kb kc, D, E))) (c' := (4, [some (aR 1 0), some (aI (x + t (88 + 6 * g + 4))), some (aI (nI (g + 1)))], [], (cm n t v ld sh o cd pl ka kb kc, D, E))) (by first | rfl | simp [nI_1]) K
theorem sf_all_1 {xs : Nat → Int32} {L : Nat} (n t : Nat → Int32) (v : Nat → Nat → Int32) (ld sh o cd pl ka kb kc : Nat → Int32) (D : Nat → Nat → Int32) (E : Nat → Int64) (H : Nat) (hs : t 34 = nI H) (hH : H ≤ 48) : ∀ (d g : Nat), g + d = H → z_Ev xs L m_X1_safeHours (4, [some (aR 1 0), some (aI (sfN t g)), some (aI (nI g))], [], (cm n t v ld sh o cd pl ka kb kc, D, E)) (.inl (some (aI (sfN t H)))) (cm n t v ld sh o cd pl ka kb kc, D, E) 0 := by
  intro d
  induction d with
  | zero =>
    intro g h
    have e : g = H := by omega
    subst e
    refine z_Ev_blk 3 (c' := (9, [some (aR 1 0), some (aI (sfN t g)), some (aI (nI g))], [aI (t 34), aI (nI g)], (cm n t v ld sh o cd pl ka kb kc, D, E))) rfl trivial ?_
    rw [hs]
    refine z_Ev_blk 1 (c' := ((if (nI g) ≤ (nI g) then 35 else 12), [some (aR 1 0), some (aI (sfN t g)), some (aI (nI g))], [], (cm n t v ld sh o cd pl ka kb kc, D, E))) rfl trivial ?_
    refine z_Ev_if (Int32.le_refl _) ?_
    refine z_Ev_blk 1 (c' := (36, [some (aR 1 0), some (aI (sfN t g)), some (aI (nI g))], [aI (sfN t g)], (cm n t v ld sh o cd pl ka kb kc, D, E))) rfl trivial ?_
    exact z_Ev_iretE rfl rfl (by rfl) (by rfl)
  | succ d ih =>
    intro g h
    refine sf_1_1 g H _ n t v ld sh o cd pl ka kb kc D E hs hH (by omega) ?_
    exact ih (g + 1) (by omega)
theorem c_safeHours_1 {xs : Nat → Int32} {L : Nat} (n t : Nat → Int32) (v : Nat → Nat → Int32) (ld sh o cd pl ka kb kc : Nat → Int32) (D : Nat → Nat → Int32) (E : Nat → Int64) (H : Nat) (hs : t 34 = nI H) (hH : H ≤ 48) : z_Mt xs L m_X1_safeHours [aR 1 0] (cm n t v ld sh o cd pl ka kb kc, D, E) (.inl (some (aI (sfN t H)))) (cm n t v ld sh o cd pl ka kb kc, D, E) 0 := by
  refine z_Ev_blk 4 (c' := (4, [some (aR 1 0), some (aI (0 : Int32)), some (aI (0 : Int32))], [], (cm n t v ld sh o cd pl ka kb kc, D, E))) rfl trivial ?_
  rw [show (0 : Int32) = nI 0 from rfl]
  exact sf_all_1 n t v ld sh o cd pl ka kb kc D E H hs hH H 0 (by omega)

