theorem z_ck {m pc : Nat} (hm : m < 58) (hp : pc < z_len m) : z_ckI m pc = true := by
  rcases Nat.lt_or_ge m 2 with h | h
  · have h1 := List.all_eq_true.mp (List.all_eq_true.mp z_ck_0 (m - 0) (List.mem_range.mpr (by omega))) pc (List.mem_range.mpr (by rw [show 0 + (m - 0) = m by omega]; exact hp))
    rw [show 0 + (m - 0) = m by omega] at h1
    exact h1
  rcases Nat.lt_or_ge m 7 with h | h
  · have h1 := List.all_eq_true.mp (List.all_eq_true.mp z_ck_2 (m - 2) (List.mem_range.mpr (by omega))) pc (List.mem_range.mpr (by rw [show 2 + (m - 2) = m by omega]; exact hp))
    rw [show 2 + (m - 2) = m by omega] at h1
    exact h1
  rcases Nat.lt_or_ge m 10 with h | h
  · have h1 := List.all_eq_true.mp (List.all_eq_true.mp z_ck_7 (m - 7) (List.mem_range.mpr (by omega))) pc (List.mem_range.mpr (by rw [show 7 + (m - 7) = m by omega]; exact hp))
    rw [show 7 + (m - 7) = m by omega] at h1
    exact h1
  rcases Nat.lt_or_ge m 12 with h | h
  · have h1 := List.all_eq_true.mp (List.all_eq_true.mp z_ck_10 (m - 10) (List.mem_range.mpr (by omega))) pc (List.mem_range.mpr (by rw [show 10 + (m - 10) = m by omega]; exact hp))
    rw [show 10 + (m - 10) = m by omega] at h1
    exact h1
  rcases Nat.lt_or_ge m 16 with h | h
  · have h1 := List.all_eq_true.mp (List.all_eq_true.mp z_ck_12 (m - 12) (List.mem_range.mpr (by omega))) pc (List.mem_range.mpr (by rw [show 12 + (m - 12) = m by omega]; exact hp))
    rw [show 12 + (m - 12) = m by omega] at h1
    exact h1
  rcases Nat.lt_or_ge m 17 with h | h
  · have h1 := List.all_eq_true.mp (List.all_eq_true.mp z_ck_16 (m - 16) (List.mem_range.mpr (by omega))) pc (List.mem_range.mpr (by rw [show 16 + (m - 16) = m by omega]; exact hp))
    rw [show 16 + (m - 16) = m by omega] at h1
    exact h1
  rcases Nat.lt_or_ge m 20 with h | h
  · have h1 := List.all_eq_true.mp (List.all_eq_true.mp z_ck_17 (m - 17) (List.mem_range.mpr (by omega))) pc (List.mem_range.mpr (by rw [show 17 + (m - 17) = m by omega]; exact hp))
    rw [show 17 + (m - 17) = m by omega] at h1
    exact h1
  rcases Nat.lt_or_ge m 21 with h | h
  · have h9 : m = 20 := by omega
    subst h9
    exact z_ckl20 hp
  rcases Nat.lt_or_ge m 22 with h | h
  · have h1 := List.all_eq_true.mp (List.all_eq_true.mp z_ck_21 (m - 21) (List.mem_range.mpr (by omega))) pc (List.mem_range.mpr (by rw [show 21 + (m - 21) = m by omega]; exact hp))
    rw [show 21 + (m - 21) = m by omega] at h1
    exact h1
  rcases Nat.lt_or_ge m 23 with h | h
  · have h9 : m = 22 := by omega
    subst h9
    exact z_ckl22 hp
  rcases Nat.lt_or_ge m 25 with h | h
  · have h1 := List.all_eq_true.mp (List.all_eq_true.mp z_ck_23 (m - 23) (List.mem_range.mpr (by omega))) pc (List.mem_range.mpr (by rw [show 23 + (m - 23) = m by omega]; exact hp))
    rw [show 23 + (m - 23) = m by omega] at h1
    exact h1
  rcases Nat.lt_or_ge m 28 with h | h
  · have h1 := List.all_eq_true.mp (List.all_eq_true.mp z_ck_25 (m - 25) (List.mem_range.mpr (by omega))) pc (List.mem_range.mpr (by rw [show 25 + (m - 25) = m by omega]; exact hp))
    rw [show 25 + (m - 25) = m by omega] at h1
    exact h1
  rcases Nat.lt_or_ge m 30 with h | h
  · have h1 := List.all_eq_true.mp (List.all_eq_true.mp z_ck_28 (m - 28) (List.mem_range.mpr (by omega))) pc (List.mem_range.mpr (by rw [show 28 + (m - 28) = m by omega]; exact hp))
    rw [show 28 + (m - 28) = m by omega] at h1
    exact h1
  rcases Nat.lt_or_ge m 31 with h | h
  · have h1 := List.all_eq_true.mp (List.all_eq_true.mp z_ck_30 (m - 30) (List.mem_range.mpr (by omega))) pc (List.mem_range.mpr (by rw [show 30 + (m - 30) = m by omega]; exact hp))
    rw [show 30 + (m - 30) = m by omega] at h1
    exact h1
  rcases Nat.lt_or_ge m 32 with h | h
  · have h1 := List.all_eq_true.mp (List.all_eq_true.mp z_ck_31 (m - 31) (List.mem_range.mpr (by omega))) pc (List.mem_range.mpr (by rw [show 31 + (m - 31) = m by omega]; exact hp))
    rw [show 31 + (m - 31) = m by omega] at h1
    exact h1
  rcases Nat.lt_or_ge m 33 with h | h
  · have h1 := List.all_eq_true.mp (List.all_eq_true.mp z_ck_32 (m - 32) (List.mem_range.mpr (by omega))) pc (List.mem_range.mpr (by rw [show 32 + (m - 32) = m by omega]; exact hp))
    rw [show 32 + (m - 32) = m by omega] at h1
    exact h1
  rcases Nat.lt_or_ge m 34 with h | h
  · have h9 : m = 33 := by omega
    subst h9
    exact z_ckl33 hp
  rcases Nat.lt_or_ge m 35 with h | h
  · have h1 := List.all_eq_true.mp (List.all_eq_true.mp z_ck_34 (m - 34) (List.mem_range.mpr (by omega))) pc (List.mem_range.mpr (by rw [show 34 + (m - 34) = m by omega]; exact hp))
    rw [show 34 + (m - 34) = m by omega] at h1
    exact h1
  rcases Nat.lt_or_ge m 36 with h | h
  · have h9 : m = 35 := by omega
    subst h9
    exact z_ckl35 hp
  rcases Nat.lt_or_ge m 38 with h | h
  · have h1 := List.all_eq_true.mp (List.all_eq_true.mp z_ck_36 (m - 36) (List.mem_range.mpr (by omega))) pc (List.mem_range.mpr (by rw [show 36 + (m - 36) = m by omega]; exact hp))
    rw [show 36 + (m - 36) = m by omega] at h1
    exact h1
  rcases Nat.lt_or_ge m 39 with h | h
  · have h9 : m = 38 := by omega
    subst h9
    exact z_ckl38 hp
  rcases Nat.lt_or_ge m 43 with h | h
  · have h1 := List.all_eq_true.mp (List.all_eq_true.mp z_ck_39 (m - 39) (List.mem_range.mpr (by omega))) pc (List.mem_range.mpr (by rw [show 39 + (m - 39) = m by omega]; exact hp))
    rw [show 39 + (m - 39) = m by omega] at h1
    exact h1
  rcases Nat.lt_or_ge m 51 with h | h
  · have h1 := List.all_eq_true.mp (List.all_eq_true.mp z_ck_43 (m - 43) (List.mem_range.mpr (by omega))) pc (List.mem_range.mpr (by rw [show 43 + (m - 43) = m by omega]; exact hp))
    rw [show 43 + (m - 43) = m by omega] at h1
    exact h1
  rcases Nat.lt_or_ge m 52 with h | h
  · have h1 := List.all_eq_true.mp (List.all_eq_true.mp z_ck_51 (m - 51) (List.mem_range.mpr (by omega))) pc (List.mem_range.mpr (by rw [show 51 + (m - 51) = m by omega]; exact hp))
    rw [show 51 + (m - 51) = m by omega] at h1
    exact h1
  rcases Nat.lt_or_ge m 53 with h | h
  · have h9 : m = 52 := by omega
    subst h9
    exact z_ckl52 hp
  rcases Nat.lt_or_ge m 54 with h | h
  · have h9 : m = 53 := by omega
    subst h9
    exact z_ckl53 hp
  rcases Nat.lt_or_ge m 55 with h | h
  · have h9 : m = 54 := by omega
    subst h9
    exact z_ckl54 hp
  rcases Nat.lt_or_ge m 56 with h | h
  · have h9 : m = 55 := by omega
    subst h9
    exact z_ckl55 hp
  rcases Nat.lt_or_ge m 57 with h | h
  · have h1 := List.all_eq_true.mp (List.all_eq_true.mp z_ck_56 (m - 56) (List.mem_range.mpr (by omega))) pc (List.mem_range.mpr (by rw [show 56 + (m - 56) = m by omega]; exact hp))
    rw [show 56 + (m - 56) = m by omega] at h1
    exact h1
  rcases Nat.lt_or_ge m 58 with h | h
  · have h9 : m = 57 := by omega
    subst h9
    exact z_ckl57 hp
  omega

theorem z_isW_in {v : Nat} {w : Cond} (h : z_isW v w = true) : w ∈ lw_tbl := by
  unfold z_isW at h
  split at h
  · rename_i x hx
    have e := of_decide_eq_true h
    subst e
    exact List.mem_of_getElem? hx
  · cases h
theorem z_ins_lt {m pc : Nat} {x : Instr × Nat × Int32} (h : z_ins m pc = some x) : m < 58 ∧ pc < z_len m := by
  unfold z_ins at h
  cases e : (Nat.blt m 58 && Nat.blt pc (z_len m))
  · rw [e] at h; cases h
  · obtain ⟨a, b⟩ := Bool.and_eq_true_iff.mp e
    exact ⟨Nat.ble_eq.mp a, Nat.ble_eq.mp b⟩
theorem z_ins_ck {m pc t : Nat} {i : Instr} {cs : Int32} (h : z_ins m pc = some (i, t, cs)) : (∃ n, decode (z_b m) pc = .ok (i, n) ∧ (z_sw i = true ∨ n = z_il i)) ∧ z_ccB pc i t cs = true ∧ z_lnk m i = true := by
  obtain ⟨h1, h2⟩ := z_ins_lt h
  have h3 := z_ck h1 h2
  unfold z_ckI at h3
  rw [h] at h3
  dsimp only at h3
  obtain ⟨h4, h5⟩ := Bool.and_eq_true_iff.mp h3
  obtain ⟨h6, h7⟩ := Bool.and_eq_true_iff.mp h4
  refine ⟨?_, h7, h5⟩
  cases hd : decode (z_b m) pc with
  | error _ => rw [hd] at h6; cases h6
  | ok q =>
    rw [hd] at h6
    obtain ⟨j, n⟩ := q
    obtain ⟨e1, e2⟩ := Bool.and_eq_true_iff.mp h6
    have e3 := of_decide_eq_true e1
    subst e3
    refine ⟨n, rfl, ?_⟩
    rcases Bool.or_eq_true_iff.mp e2 with e | e
    · exact Or.inl e
    · exact Or.inr (Nat.eq_of_beq_eq_true e)

