theorem z_ckl_0 : (List.range 64).all (fun j => z_ckI 151 (0 + j)) = true := by decide +kernel
theorem z_ckl_64 : (List.range 64).all (fun j => z_ckI 151 (64 + j)) = true := by decide +kernel
theorem z_ckl_128 : (List.range 64).all (fun j => z_ckI 151 (128 + j)) = true := by decide +kernel
theorem z_ckl_192 : (List.range 64).all (fun j => z_ckI 151 (192 + j)) = true := by decide +kernel
theorem z_ckl_256 : (List.range 64).all (fun j => z_ckI 151 (256 + j)) = true := by decide +kernel
theorem z_ckl_320 : (List.range 64).all (fun j => z_ckI 151 (320 + j)) = true := by decide +kernel
theorem z_ckl_384 : (List.range 64).all (fun j => z_ckI 151 (384 + j)) = true := by decide +kernel
theorem z_ckl_448 : (List.range 64).all (fun j => z_ckI 151 (448 + j)) = true := by decide +kernel
theorem z_ckl_512 : (List.range 64).all (fun j => z_ckI 151 (512 + j)) = true := by decide +kernel
theorem z_ckl_576 : (List.range 64).all (fun j => z_ckI 151 (576 + j)) = true := by decide +kernel
theorem z_ckl_640 : (List.range 64).all (fun j => z_ckI 151 (640 + j)) = true := by decide +kernel
theorem z_ckl_704 : (List.range 64).all (fun j => z_ckI 151 (704 + j)) = true := by decide +kernel
theorem z_ckl_768 : (List.range 64).all (fun j => z_ckI 151 (768 + j)) = true := by decide +kernel
theorem z_ckl_832 : (List.range 64).all (fun j => z_ckI 151 (832 + j)) = true := by decide +kernel
theorem z_ckl_896 : (List.range 64).all (fun j => z_ckI 151 (896 + j)) = true := by decide +kernel
theorem z_ckl_960 : (List.range 64).all (fun j => z_ckI 151 (960 + j)) = true := by decide +kernel
theorem z_ckl_1024 : (List.range 64).all (fun j => z_ckI 151 (1024 + j)) = true := by decide +kernel
theorem z_ckl_1088 : (List.range 64).all (fun j => z_ckI 151 (1088 + j)) = true := by decide +kernel
theorem z_ckl_1152 : (List.range 64).all (fun j => z_ckI 151 (1152 + j)) = true := by decide +kernel
theorem z_ckl_1216 : (List.range 57).all (fun j => z_ckI 151 (1216 + j)) = true := by decide +kernel
theorem z_ckl {pc : Nat} (hp : pc < 1273) : z_ckI 151 pc = true := by
  rcases Nat.lt_or_ge pc 64 with h | h
  · have h1 := List.all_eq_true.mp z_ckl_0 (pc - 0) (List.mem_range.mpr (by omega))
    rw [show 0 + (pc - 0) = pc by omega] at h1
    exact h1
  rcases Nat.lt_or_ge pc 128 with h | h
  · have h1 := List.all_eq_true.mp z_ckl_64 (pc - 64) (List.mem_range.mpr (by omega))
    rw [show 64 + (pc - 64) = pc by omega] at h1
    exact h1
  rcases Nat.lt_or_ge pc 192 with h | h
  · have h1 := List.all_eq_true.mp z_ckl_128 (pc - 128) (List.mem_range.mpr (by omega))
    rw [show 128 + (pc - 128) = pc by omega] at h1
    exact h1
  rcases Nat.lt_or_ge pc 256 with h | h
  · have h1 := List.all_eq_true.mp z_ckl_192 (pc - 192) (List.mem_range.mpr (by omega))
    rw [show 192 + (pc - 192) = pc by omega] at h1
    exact h1
  rcases Nat.lt_or_ge pc 320 with h | h
  · have h1 := List.all_eq_true.mp z_ckl_256 (pc - 256) (List.mem_range.mpr (by omega))
    rw [show 256 + (pc - 256) = pc by omega] at h1
    exact h1
  rcases Nat.lt_or_ge pc 384 with h | h
  · have h1 := List.all_eq_true.mp z_ckl_320 (pc - 320) (List.mem_range.mpr (by omega))
    rw [show 320 + (pc - 320) = pc by omega] at h1
    exact h1
  rcases Nat.lt_or_ge pc 448 with h | h
  · have h1 := List.all_eq_true.mp z_ckl_384 (pc - 384) (List.mem_range.mpr (by omega))
    rw [show 384 + (pc - 384) = pc by omega] at h1
    exact h1
  rcases Nat.lt_or_ge pc 512 with h | h
  · have h1 := List.all_eq_true.mp z_ckl_448 (pc - 448) (List.mem_range.mpr (by omega))
    rw [show 448 + (pc - 448) = pc by omega] at h1
    exact h1
  rcases Nat.lt_or_ge pc 576 with h | h
  · have h1 := List.all_eq_true.mp z_ckl_512 (pc - 512) (List.mem_range.mpr (by omega))
    rw [show 512 + (pc - 512) = pc by omega] at h1
    exact h1
  rcases Nat.lt_or_ge pc 640 with h | h
  · have h1 := List.all_eq_true.mp z_ckl_576 (pc - 576) (List.mem_range.mpr (by omega))
    rw [show 576 + (pc - 576) = pc by omega] at h1
    exact h1
  rcases Nat.lt_or_ge pc 704 with h | h
  · have h1 := List.all_eq_true.mp z_ckl_640 (pc - 640) (List.mem_range.mpr (by omega))
    rw [show 640 + (pc - 640) = pc by omega] at h1
    exact h1
  rcases Nat.lt_or_ge pc 768 with h | h
  · have h1 := List.all_eq_true.mp z_ckl_704 (pc - 704) (List.mem_range.mpr (by omega))
    rw [show 704 + (pc - 704) = pc by omega] at h1
    exact h1
  rcases Nat.lt_or_ge pc 832 with h | h
  · have h1 := List.all_eq_true.mp z_ckl_768 (pc - 768) (List.mem_range.mpr (by omega))
    rw [show 768 + (pc - 768) = pc by omega] at h1
    exact h1
  rcases Nat.lt_or_ge pc 896 with h | h
  · have h1 := List.all_eq_true.mp z_ckl_832 (pc - 832) (List.mem_range.mpr (by omega))
    rw [show 832 + (pc - 832) = pc by omega] at h1
    exact h1
  rcases Nat.lt_or_ge pc 960 with h | h
  · have h1 := List.all_eq_true.mp z_ckl_896 (pc - 896) (List.mem_range.mpr (by omega))
    rw [show 896 + (pc - 896) = pc by omega] at h1
    exact h1
  rcases Nat.lt_or_ge pc 1024 with h | h
  · have h1 := List.all_eq_true.mp z_ckl_960 (pc - 960) (List.mem_range.mpr (by omega))
    rw [show 960 + (pc - 960) = pc by omega] at h1
    exact h1
  rcases Nat.lt_or_ge pc 1088 with h | h
  · have h1 := List.all_eq_true.mp z_ckl_1024 (pc - 1024) (List.mem_range.mpr (by omega))
    rw [show 1024 + (pc - 1024) = pc by omega] at h1
    exact h1
  rcases Nat.lt_or_ge pc 1152 with h | h
  · have h1 := List.all_eq_true.mp z_ckl_1088 (pc - 1088) (List.mem_range.mpr (by omega))
    rw [show 1088 + (pc - 1088) = pc by omega] at h1
    exact h1
  rcases Nat.lt_or_ge pc 1216 with h | h
  · have h1 := List.all_eq_true.mp z_ckl_1152 (pc - 1152) (List.mem_range.mpr (by omega))
    rw [show 1152 + (pc - 1152) = pc by omega] at h1
    exact h1
  rcases Nat.lt_or_ge pc 1273 with h | h
  · have h1 := List.all_eq_true.mp z_ckl_1216 (pc - 1216) (List.mem_range.mpr (by omega))
    rw [show 1216 + (pc - 1216) = pc by omega] at h1
    exact h1
  omega
theorem z_ck {m pc : Nat} (hm : m < 152) (hp : pc < z_len m) : z_ckI m pc = true := by
  rcases Nat.lt_or_ge m 8 with h | h
  · have h1 := List.all_eq_true.mp (List.all_eq_true.mp z_ck_0 (m - 0) (List.mem_range.mpr (by omega))) pc (List.mem_range.mpr (by rw [show 0 + (m - 0) = m by omega]; exact hp))
    rw [show 0 + (m - 0) = m by omega] at h1
    exact h1
  rcases Nat.lt_or_ge m 16 with h | h
  · have h1 := List.all_eq_true.mp (List.all_eq_true.mp z_ck_8 (m - 8) (List.mem_range.mpr (by omega))) pc (List.mem_range.mpr (by rw [show 8 + (m - 8) = m by omega]; exact hp))
    rw [show 8 + (m - 8) = m by omega] at h1
    exact h1
  rcases Nat.lt_or_ge m 24 with h | h
  · have h1 := List.all_eq_true.mp (List.all_eq_true.mp z_ck_16 (m - 16) (List.mem_range.mpr (by omega))) pc (List.mem_range.mpr (by rw [show 16 + (m - 16) = m by omega]; exact hp))
    rw [show 16 + (m - 16) = m by omega] at h1
    exact h1
  rcases Nat.lt_or_ge m 32 with h | h
  · have h1 := List.all_eq_true.mp (List.all_eq_true.mp z_ck_24 (m - 24) (List.mem_range.mpr (by omega))) pc (List.mem_range.mpr (by rw [show 24 + (m - 24) = m by omega]; exact hp))
    rw [show 24 + (m - 24) = m by omega] at h1
    exact h1
  rcases Nat.lt_or_ge m 40 with h | h
  · have h1 := List.all_eq_true.mp (List.all_eq_true.mp z_ck_32 (m - 32) (List.mem_range.mpr (by omega))) pc (List.mem_range.mpr (by rw [show 32 + (m - 32) = m by omega]; exact hp))
    rw [show 32 + (m - 32) = m by omega] at h1
    exact h1
  rcases Nat.lt_or_ge m 48 with h | h
  · have h1 := List.all_eq_true.mp (List.all_eq_true.mp z_ck_40 (m - 40) (List.mem_range.mpr (by omega))) pc (List.mem_range.mpr (by rw [show 40 + (m - 40) = m by omega]; exact hp))
    rw [show 40 + (m - 40) = m by omega] at h1
    exact h1
  rcases Nat.lt_or_ge m 56 with h | h
  · have h1 := List.all_eq_true.mp (List.all_eq_true.mp z_ck_48 (m - 48) (List.mem_range.mpr (by omega))) pc (List.mem_range.mpr (by rw [show 48 + (m - 48) = m by omega]; exact hp))
    rw [show 48 + (m - 48) = m by omega] at h1
    exact h1
  rcases Nat.lt_or_ge m 64 with h | h
  · have h1 := List.all_eq_true.mp (List.all_eq_true.mp z_ck_56 (m - 56) (List.mem_range.mpr (by omega))) pc (List.mem_range.mpr (by rw [show 56 + (m - 56) = m by omega]; exact hp))
    rw [show 56 + (m - 56) = m by omega] at h1
    exact h1
  rcases Nat.lt_or_ge m 72 with h | h
  · have h1 := List.all_eq_true.mp (List.all_eq_true.mp z_ck_64 (m - 64) (List.mem_range.mpr (by omega))) pc (List.mem_range.mpr (by rw [show 64 + (m - 64) = m by omega]; exact hp))
    rw [show 64 + (m - 64) = m by omega] at h1
    exact h1
  rcases Nat.lt_or_ge m 80 with h | h
  · have h1 := List.all_eq_true.mp (List.all_eq_true.mp z_ck_72 (m - 72) (List.mem_range.mpr (by omega))) pc (List.mem_range.mpr (by rw [show 72 + (m - 72) = m by omega]; exact hp))
    rw [show 72 + (m - 72) = m by omega] at h1
    exact h1
  rcases Nat.lt_or_ge m 88 with h | h
  · have h1 := List.all_eq_true.mp (List.all_eq_true.mp z_ck_80 (m - 80) (List.mem_range.mpr (by omega))) pc (List.mem_range.mpr (by rw [show 80 + (m - 80) = m by omega]; exact hp))
    rw [show 80 + (m - 80) = m by omega] at h1
    exact h1
  rcases Nat.lt_or_ge m 96 with h | h
  · have h1 := List.all_eq_true.mp (List.all_eq_true.mp z_ck_88 (m - 88) (List.mem_range.mpr (by omega))) pc (List.mem_range.mpr (by rw [show 88 + (m - 88) = m by omega]; exact hp))
    rw [show 88 + (m - 88) = m by omega] at h1
    exact h1
  rcases Nat.lt_or_ge m 104 with h | h
  · have h1 := List.all_eq_true.mp (List.all_eq_true.mp z_ck_96 (m - 96) (List.mem_range.mpr (by omega))) pc (List.mem_range.mpr (by rw [show 96 + (m - 96) = m by omega]; exact hp))
    rw [show 96 + (m - 96) = m by omega] at h1
    exact h1
  rcases Nat.lt_or_ge m 112 with h | h
  · have h1 := List.all_eq_true.mp (List.all_eq_true.mp z_ck_104 (m - 104) (List.mem_range.mpr (by omega))) pc (List.mem_range.mpr (by rw [show 104 + (m - 104) = m by omega]; exact hp))
    rw [show 104 + (m - 104) = m by omega] at h1
    exact h1
  rcases Nat.lt_or_ge m 120 with h | h
  · have h1 := List.all_eq_true.mp (List.all_eq_true.mp z_ck_112 (m - 112) (List.mem_range.mpr (by omega))) pc (List.mem_range.mpr (by rw [show 112 + (m - 112) = m by omega]; exact hp))
    rw [show 112 + (m - 112) = m by omega] at h1
    exact h1
  rcases Nat.lt_or_ge m 128 with h | h
  · have h1 := List.all_eq_true.mp (List.all_eq_true.mp z_ck_120 (m - 120) (List.mem_range.mpr (by omega))) pc (List.mem_range.mpr (by rw [show 120 + (m - 120) = m by omega]; exact hp))
    rw [show 120 + (m - 120) = m by omega] at h1
    exact h1
  rcases Nat.lt_or_ge m 136 with h | h
  · have h1 := List.all_eq_true.mp (List.all_eq_true.mp z_ck_128 (m - 128) (List.mem_range.mpr (by omega))) pc (List.mem_range.mpr (by rw [show 128 + (m - 128) = m by omega]; exact hp))
    rw [show 128 + (m - 128) = m by omega] at h1
    exact h1
  rcases Nat.lt_or_ge m 144 with h | h
  · have h1 := List.all_eq_true.mp (List.all_eq_true.mp z_ck_136 (m - 136) (List.mem_range.mpr (by omega))) pc (List.mem_range.mpr (by rw [show 136 + (m - 136) = m by omega]; exact hp))
    rw [show 136 + (m - 136) = m by omega] at h1
    exact h1
  rcases Nat.lt_or_ge m 151 with h | h
  · have h1 := List.all_eq_true.mp (List.all_eq_true.mp z_ck_144 (m - 144) (List.mem_range.mpr (by omega))) pc (List.mem_range.mpr (by rw [show 144 + (m - 144) = m by omega]; exact hp))
    rw [show 144 + (m - 144) = m by omega] at h1
    exact h1
  have h9 : m = 151 := by omega
  subst h9
  exact z_ckl hp

theorem z_isW_in {v : Nat} {w : Cond} (h : z_isW v w = true) : w ∈ lw_tbl := by
  unfold z_isW at h
  split at h
  · rename_i x hx
    have e := of_decide_eq_true h
    subst e
    exact List.mem_of_getElem? hx
  · cases h
theorem z_ins_lt {m pc : Nat} {x : Instr × Nat × Int32} (h : z_ins m pc = some x) : m < 152 ∧ pc < z_len m := by
  unfold z_ins at h
  cases e : (Nat.blt m 152 && Nat.blt pc (z_len m))
  · rw [e] at h; cases h
  · obtain ⟨a, b⟩ := Bool.and_eq_true_iff.mp e
    exact ⟨Nat.ble_eq.mp a, Nat.ble_eq.mp b⟩
theorem z_ins_ck {m pc t : Nat} {i : Instr} {cs : Int32} (h : z_ins m pc = some (i, t, cs)) : (∃ n, decode (z_b m) pc = .ok (i, n) ∧ (z_sw i = true ∨ n = z_il i)) ∧ z_ccB pc i t cs = true ∧ z_lnk m i = true := by
  obtain ⟨h1, h2⟩ := z_ins_lt h
  have h3 := z_ck h1 h2
  unfold z_ckI at h3
  rw [h] at h3
  dsimp only at h3
  obtain ⟨h4, h5⟩ := Bool.and_eq_true_iff.mp h3
  obtain ⟨h6, h7⟩ := Bool.and_eq_true_iff.mp h4
  refine ⟨?_, h7, h5⟩
  cases hd : decode (z_b m) pc with
  | error _ => rw [hd] at h6; cases h6
  | ok q =>
    rw [hd] at h6
    obtain ⟨j, n⟩ := q
    obtain ⟨e1, e2⟩ := Bool.and_eq_true_iff.mp h6
    have e3 := of_decide_eq_true e1
    subst e3
    refine ⟨n, rfl, ?_⟩
    rcases Bool.or_eq_true_iff.mp e2 with e | e
    · exact Or.inl e
    · exact Or.inr (Nat.eq_of_beq_eq_true e)

