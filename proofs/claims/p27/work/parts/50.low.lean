/-! THE LAW: numbers out of the script -/
theorem and_k (v : Int32) {m : Nat} (hm : m < 2 ^ 31) : ∃ k : Nat, k ≤ m ∧ v &&& nI m = nI k := by
  have hb : (v &&& nI m).toBitVec.toNat ≤ m := by
    rw [Int32.toBitVec_and, BitVec.toNat_and]
    have e : (nI m).toBitVec.toNat = m := by
      show (BitVec.ofNat 32 m).toNat = m
      rw [BitVec.toNat_ofNat]
      exact Nat.mod_eq_of_lt (by omega)
    rw [e]
    exact Nat.and_le_right
  refine ⟨(v &&& nI m).toBitVec.toNat, hb, ?_⟩
  rw [← Int32.toInt_inj, nI_toInt (by omega)]
  show (v &&& nI m).toBitVec.toInt = _
  rw [BitVec.toInt_eq_toNat_cond, if_pos (by omega)]
def lowV (v n : Int32) : Int32 := (v &&& 2147483647) - (v &&& 2147483647) / n * n
theorem low_b (v : Int32) {N : Nat} (h0 : 0 < N) (h1 : N < 2 ^ 31) : ∃ k : Nat, lowV v (nI N) = nI k ∧ k < N := by
  obtain ⟨y, hy, e⟩ := and_k v (m := 2147483647) (by decide)
  have e' : v &&& 2147483647 = nI y := e
  unfold lowV
  rw [e']
  refine ⟨y % N, ?_, Nat.mod_lt _ h0⟩
  have ty : (nI y).toInt = (y : Int) := nI_toInt (by omega)
  have tN : (nI N).toInt = (N : Int) := nI_toInt h1
  have hq : y / N ≤ y := Nat.div_le_self _ _
  have d1 : (nI y / nI N) = nI (y / N) := by
    rw [← Int32.toInt_inj, Int32.toInt_div, ty, tN, nI_toInt (by omega), Int.tdiv_eq_ediv_of_nonneg (by omega), ← Int.natCast_ediv]
    generalize y / N = t at *
    exact Int.bmod_eq_of_le (by omega) (by omega)
  have hm : y / N * N ≤ y := Nat.div_mul_le_self _ _
  rw [d1, nI_mul, ← Int32.toInt_inj, i_sub (by rw [ty, nI_toInt (by omega)]; omega) (by rw [ty, nI_toInt (by omega)]; omega), ty, nI_toInt (by omega), nI_toInt (by have := Nat.mod_lt y h0; omega)]
  have := Nat.div_add_mod y N
  rw [Nat.mul_comm] at this
  omega
section LO
variable {xs : Nat → Int32} {L : Nat}
theorem e_low (v n : Int32) (M : Mem) (hn : ¬ n = 0) : z_Mt xs L m_L_low [aI v, aI n] M (.inl (some (aI (lowV v n)))) M 0 := by
  refine z_Ev_blk 5 (c' := (6, [some (aI v), some (aI n)], [aI (lowV v n)], M)) rfl ⟨hn, trivial⟩ ?_
  exact z_Ev_iretE rfl rfl rfl rfl
end LO
/-! PURE: the cheapest sets -/
section CH
variable {s : Nat → Int32} {H h k : Nat}
def CI (s : Nat → Int32) (A : Int32) (x : Int32 × Int32) : Prop := x.1 = -1 ∨ ∃ i, i < 16 ∧ x.1 = nI i ∧ ¬ canF s (nI i) = 0 ∧ x.2 = shO s A (nI i) 12
theorem CI_s {A : Int32} {i : Nat} {x : Int32 × Int32} (hi : i < 16) (hx : CI s A x) : CI s A (chT s A i x) := by
  unfold chT
  by_cases c : isF (canF s (nI i)) (shO s A (nI i) 11) x.1 (shO s A (nI i) 12) x.2 = true
  · rw [if_pos c]
    unfold isF at c
    exact Or.inr ⟨i, hi, rfl, (of_decide_eq_true c).1, rfl⟩
  · rw [if_neg c]
    exact hx
theorem CI_all {A : Int32} : ∀ (d i : Nat) (x : Int32 × Int32), i + d ≤ 16 → CI s A x → CI s A (chI s A d i x)
  | 0, _, _, _, hx => hx
  | d + 1, i, x, hd, hx => CI_all d (i + 1) (chT s A i x) (by omega) (CI_s (by omega) hx)
theorem ch_all : CI s (lodF s (nI h)) (chI s (lodF s (nI h)) 16 0 (-1, 0)) := CI_all 16 0 (-1, 0) (by decide) (Or.inl rfl)
theorem ch_0 : chV s h 0 = -1 ∨ ∃ i, i < 16 ∧ chV s h 0 = nI i ∧ ¬ canF s (nI i) = 0 := by
  unfold chV
  rcases ch_all (s := s) (h := h) with e | ⟨i, a, b, c, d⟩
  · left
    rw [if_pos e]
  · right
    refine ⟨i, a, ?_, c⟩
    rw [if_neg (by rw [b]; exact nI_m1 a), if_pos rfl, b]
theorem ch_iff (hV : Vs s H) (hh : h < 48) : (if chV s h 0 = (-1) then (1 : Int32) else 0) = (if chV s h 1 = (-1) then 1 else 0) := by
  unfold chV
  rcases ch_all (s := s) (h := h) with e | ⟨i, a, b, c, d⟩
  · rw [if_pos e, if_pos e]
  · have n1 : ¬ (chI s (lodF s (nI h)) 16 0 (-1, 0)).1 = -1 := by rw [b]; exact nI_m1 a
    have n2 : ¬ (chI s (lodF s (nI h)) 16 0 (-1, 0)).2 = -1 := by
      rw [d]
      intro z
      have f := sh_fuel hV.1 (m16_nI a) (lod_b hV hh)
      rw [z] at f
      exact absurd f (by decide)
    rw [if_neg n1, if_neg n1, if_pos rfl, if_neg n1, if_neg (show ¬ (1 : Nat) = 0 by decide), if_neg n2]
theorem ch_lt : ¬ (16 : Int32) ≤ chV s h 0 := by
  rcases ch_0 (s := s) (h := h) with e | ⟨i, a, b, -⟩
  · rw [e]; decide
  · rw [b]; exact nI_ge (b := 16) a (by decide)
theorem bit01 : m16.all (fun m => (List.range 4).all (fun k => decide ((m >>> (nI k &&& 31)) &&& 1 = 0) || hs m (nI k))) = true := by decide +kernel
theorem bitM : m16.all (fun m => m16.all (fun w => (List.range 4).all (fun k => !(decide (m &&& w = 0) && hs m (nI k)) || !(hs w (nI k))))) = true := by decide +kernel
theorem ch_bit (hk : k < 4) (h1 : ¬ chV s h 0 < 0) (h2 : ¬ (chV s h 0 >>> (nI k &&& 31)) &&& 1 = 0) : ¬ s (16 + k) = 3 := by
  rcases ch_0 (s := s) (h := h) with e | ⟨i, a, b, c⟩
  · rw [e] at h1
    exact absurd (by decide) h1
  · rw [b] at h2
    have hm := m16_nI a
    have q1 := List.all_eq_true.mp (List.all_eq_true.mp bit01 _ hm) k (List.mem_range.mpr hk)
    rw [decide_eq_false h2, Bool.false_or] at q1
    have q2 := List.all_eq_true.mp (List.all_eq_true.mp (List.all_eq_true.mp bitM _ hm) _ (mkF_m (fun j => s (16 + j)) 3)) k (List.mem_range.mpr hk)
    rw [decide_eq_true ((can_n hm).mpr c), q1] at q2
    have q3 : hs (mkF (fun j => s (16 + j)) 3) (nI k) = false := by simpa using q2
    obtain ⟨y0, y1, y2, y3⟩ := mkF_hs (ph := fun j => s (16 + j)) (w := 3)
    rcases (show k = 0 ∨ k = 1 ∨ k = 2 ∨ k = 3 by omega) with z | z | z | z <;> subst z
    · exact of_decide_eq_false (y0.symm.trans q3)
    · exact of_decide_eq_false (y1.symm.trans q3)
    · exact of_decide_eq_false (y2.symm.trans q3)
    · exact of_decide_eq_false (y3.symm.trans q3)
end CH
