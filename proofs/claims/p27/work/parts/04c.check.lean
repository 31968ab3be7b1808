theorem z_ck_0 : (List.range 2).all (fun j => (List.range (z_len (0 + j))).all (z_ckI (0 + j))) = true := by decide +kernel
theorem z_ck_2 : (List.range 5).all (fun j => (List.range (z_len (2 + j))).all (z_ckI (2 + j))) = true := by decide +kernel
theorem z_ck_7 : (List.range 3).all (fun j => (List.range (z_len (7 + j))).all (z_ckI (7 + j))) = true := by decide +kernel
theorem z_ck_10 : (List.range 2).all (fun j => (List.range (z_len (10 + j))).all (z_ckI (10 + j))) = true := by decide +kernel
theorem z_ck_12 : (List.range 4).all (fun j => (List.range (z_len (12 + j))).all (z_ckI (12 + j))) = true := by decide +kernel
theorem z_ck_16 : (List.range 1).all (fun j => (List.range (z_len (16 + j))).all (z_ckI (16 + j))) = true := by decide +kernel
theorem z_ck_17 : (List.range 3).all (fun j => (List.range (z_len (17 + j))).all (z_ckI (17 + j))) = true := by decide +kernel
theorem z_ckl20_0 : (List.range 64).all (fun j => z_ckI 20 (0 + j)) = true := by decide +kernel
theorem z_ckl20_64 : (List.range 64).all (fun j => z_ckI 20 (64 + j)) = true := by decide +kernel
theorem z_ckl20_128 : (List.range 43).all (fun j => z_ckI 20 (128 + j)) = true := by decide +kernel
theorem z_ckl20 {pc : Nat} (hp : pc < 171) : z_ckI 20 pc = true := by
  rcases Nat.lt_or_ge pc 64 with h | h
  · have h1 := List.all_eq_true.mp z_ckl20_0 (pc - 0) (List.mem_range.mpr (by omega))
    rw [show 0 + (pc - 0) = pc by omega] at h1
    exact h1
  rcases Nat.lt_or_ge pc 128 with h | h
  · have h1 := List.all_eq_true.mp z_ckl20_64 (pc - 64) (List.mem_range.mpr (by omega))
    rw [show 64 + (pc - 64) = pc by omega] at h1
    exact h1
  rcases Nat.lt_or_ge pc 171 with h | h
  · have h1 := List.all_eq_true.mp z_ckl20_128 (pc - 128) (List.mem_range.mpr (by omega))
    rw [show 128 + (pc - 128) = pc by omega] at h1
    exact h1
  omega
theorem z_ck_21 : (List.range 1).all (fun j => (List.range (z_len (21 + j))).all (z_ckI (21 + j))) = true := by decide +kernel
theorem z_ckl22_0 : (List.range 64).all (fun j => z_ckI 22 (0 + j)) = true := by decide +kernel
theorem z_ckl22_64 : (List.range 64).all (fun j => z_ckI 22 (64 + j)) = true := by decide +kernel
theorem z_ckl22_128 : (List.range 35).all (fun j => z_ckI 22 (128 + j)) = true := by decide +kernel
theorem z_ckl22 {pc : Nat} (hp : pc < 163) : z_ckI 22 pc = true := by
  rcases Nat.lt_or_ge pc 64 with h | h
  · have h1 := List.all_eq_true.mp z_ckl22_0 (pc - 0) (List.mem_range.mpr (by omega))
    rw [show 0 + (pc - 0) = pc by omega] at h1
    exact h1
  rcases Nat.lt_or_ge pc 128 with h | h
  · have h1 := List.all_eq_true.mp z_ckl22_64 (pc - 64) (List.mem_range.mpr (by omega))
    rw [show 64 + (pc - 64) = pc by omega] at h1
    exact h1
  rcases Nat.lt_or_ge pc 163 with h | h
  · have h1 := List.all_eq_true.mp z_ckl22_128 (pc - 128) (List.mem_range.mpr (by omega))
    rw [show 128 + (pc - 128) = pc by omega] at h1
    exact h1
  omega
theorem z_ck_23 : (List.range 2).all (fun j => (List.range (z_len (23 + j))).all (z_ckI (23 + j))) = true := by decide +kernel
theorem z_ck_25 : (List.range 3).all (fun j => (List.range (z_len (25 + j))).all (z_ckI (25 + j))) = true := by decide +kernel
theorem z_ck_28 : (List.range 2).all (fun j => (List.range (z_len (28 + j))).all (z_ckI (28 + j))) = true := by decide +kernel
theorem z_ck_30 : (List.range 1).all (fun j => (List.range (z_len (30 + j))).all (z_ckI (30 + j))) = true := by decide +kernel
theorem z_ck_31 : (List.range 1).all (fun j => (List.range (z_len (31 + j))).all (z_ckI (31 + j))) = true := by decide +kernel
theorem z_ck_32 : (List.range 1).all (fun j => (List.range (z_len (32 + j))).all (z_ckI (32 + j))) = true := by decide +kernel
theorem z_ckl33_0 : (List.range 64).all (fun j => z_ckI 33 (0 + j)) = true := by decide +kernel
theorem z_ckl33_64 : (List.range 64).all (fun j => z_ckI 33 (64 + j)) = true := by decide +kernel
theorem z_ckl33_128 : (List.range 64).all (fun j => z_ckI 33 (128 + j)) = true := by decide +kernel
theorem z_ckl33_192 : (List.range 56).all (fun j => z_ckI 33 (192 + j)) = true := by decide +kernel
theorem z_ckl33 {pc : Nat} (hp : pc < 248) : z_ckI 33 pc = true := by
  rcases Nat.lt_or_ge pc 64 with h | h
  · have h1 := List.all_eq_true.mp z_ckl33_0 (pc - 0) (List.mem_range.mpr (by omega))
    rw [show 0 + (pc - 0) = pc by omega] at h1
    exact h1
  rcases Nat.lt_or_ge pc 128 with h | h
  · have h1 := List.all_eq_true.mp z_ckl33_64 (pc - 64) (List.mem_range.mpr (by omega))
    rw [show 64 + (pc - 64) = pc by omega] at h1
    exact h1
  rcases Nat.lt_or_ge pc 192 with h | h
  · have h1 := List.all_eq_true.mp z_ckl33_128 (pc - 128) (List.mem_range.mpr (by omega))
    rw [show 128 + (pc - 128) = pc by omega] at h1
    exact h1
  rcases Nat.lt_or_ge pc 248 with h | h
  · have h1 := List.all_eq_true.mp z_ckl33_192 (pc - 192) (List.mem_range.mpr (by omega))
    rw [show 192 + (pc - 192) = pc by omega] at h1
    exact h1
  omega
theorem z_ck_34 : (List.range 1).all (fun j => (List.range (z_len (34 + j))).all (z_ckI (34 + j))) = true := by decide +kernel
theorem z_ckl35_0 : (List.range 64).all (fun j => z_ckI 35 (0 + j)) = true := by decide +kernel
theorem z_ckl35_64 : (List.range 64).all (fun j => z_ckI 35 (64 + j)) = true := by decide +kernel
theorem z_ckl35_128 : (List.range 30).all (fun j => z_ckI 35 (128 + j)) = true := by decide +kernel
theorem z_ckl35 {pc : Nat} (hp : pc < 158) : z_ckI 35 pc = true := by
  rcases Nat.lt_or_ge pc 64 with h | h
  · have h1 := List.all_eq_true.mp z_ckl35_0 (pc - 0) (List.mem_range.mpr (by omega))
    rw [show 0 + (pc - 0) = pc by omega] at h1
    exact h1
  rcases Nat.lt_or_ge pc 128 with h | h
  · have h1 := List.all_eq_true.mp z_ckl35_64 (pc - 64) (List.mem_range.mpr (by omega))
    rw [show 64 + (pc - 64) = pc by omega] at h1
    exact h1
  rcases Nat.lt_or_ge pc 158 with h | h
  · have h1 := List.all_eq_true.mp z_ckl35_128 (pc - 128) (List.mem_range.mpr (by omega))
    rw [show 128 + (pc - 128) = pc by omega] at h1
    exact h1
  omega
theorem z_ck_36 : (List.range 2).all (fun j => (List.range (z_len (36 + j))).all (z_ckI (36 + j))) = true := by decide +kernel
theorem z_ckl38_0 : (List.range 64).all (fun j => z_ckI 38 (0 + j)) = true := by decide +kernel
theorem z_ckl38_64 : (List.range 64).all (fun j => z_ckI 38 (64 + j)) = true := by decide +kernel
theorem z_ckl38_128 : (List.range 45).all (fun j => z_ckI 38 (128 + j)) = true := by decide +kernel
theorem z_ckl38 {pc : Nat} (hp : pc < 173) : z_ckI 38 pc = true := by
  rcases Nat.lt_or_ge pc 64 with h | h
  · have h1 := List.all_eq_true.mp z_ckl38_0 (pc - 0) (List.mem_range.mpr (by omega))
    rw [show 0 + (pc - 0) = pc by omega] at h1
    exact h1
  rcases Nat.lt_or_ge pc 128 with h | h
  · have h1 := List.all_eq_true.mp z_ckl38_64 (pc - 64) (List.mem_range.mpr (by omega))
    rw [show 64 + (pc - 64) = pc by omega] at h1
    exact h1
  rcases Nat.lt_or_ge pc 173 with h | h
  · have h1 := List.all_eq_true.mp z_ckl38_128 (pc - 128) (List.mem_range.mpr (by omega))
    rw [show 128 + (pc - 128) = pc by omega] at h1
    exact h1
  omega
theorem z_ck_39 : (List.range 4).all (fun j => (List.range (z_len (39 + j))).all (z_ckI (39 + j))) = true := by decide +kernel
theorem z_ck_43 : (List.range 8).all (fun j => (List.range (z_len (43 + j))).all (z_ckI (43 + j))) = true := by decide +kernel
theorem z_ck_51 : (List.range 1).all (fun j => (List.range (z_len (51 + j))).all (z_ckI (51 + j))) = true := by decide +kernel
theorem z_ckl52_0 : (List.range 64).all (fun j => z_ckI 52 (0 + j)) = true := by decide +kernel
theorem z_ckl52_64 : (List.range 64).all (fun j => z_ckI 52 (64 + j)) = true := by decide +kernel
theorem z_ckl52_128 : (List.range 64).all (fun j => z_ckI 52 (128 + j)) = true := by decide +kernel
theorem z_ckl52_192 : (List.range 64).all (fun j => z_ckI 52 (192 + j)) = true := by decide +kernel
theorem z_ckl52_256 : (List.range 58).all (fun j => z_ckI 52 (256 + j)) = true := by decide +kernel
theorem z_ckl52 {pc : Nat} (hp : pc < 314) : z_ckI 52 pc = true := by
  rcases Nat.lt_or_ge pc 64 with h | h
  · have h1 := List.all_eq_true.mp z_ckl52_0 (pc - 0) (List.mem_range.mpr (by omega))
    rw [show 0 + (pc - 0) = pc by omega] at h1
    exact h1
  rcases Nat.lt_or_ge pc 128 with h | h
  · have h1 := List.all_eq_true.mp z_ckl52_64 (pc - 64) (List.mem_range.mpr (by omega))
    rw [show 64 + (pc - 64) = pc by omega] at h1
    exact h1
  rcases Nat.lt_or_ge pc 192 with h | h
  · have h1 := List.all_eq_true.mp z_ckl52_128 (pc - 128) (List.mem_range.mpr (by omega))
    rw [show 128 + (pc - 128) = pc by omega] at h1
    exact h1
  rcases Nat.lt_or_ge pc 256 with h | h
  · have h1 := List.all_eq_true.mp z_ckl52_192 (pc - 192) (List.mem_range.mpr (by omega))
    rw [show 192 + (pc - 192) = pc by omega] at h1
    exact h1
  rcases Nat.lt_or_ge pc 314 with h | h
  · have h1 := List.all_eq_true.mp z_ckl52_256 (pc - 256) (List.mem_range.mpr (by omega))
    rw [show 256 + (pc - 256) = pc by omega] at h1
    exact h1
  omega
theorem z_ckl53_0 : (List.range 64).all (fun j => z_ckI 53 (0 + j)) = true := by decide +kernel
theorem z_ckl53_64 : (List.range 64).all (fun j => z_ckI 53 (64 + j)) = true := by decide +kernel
theorem z_ckl53_128 : (List.range 64).all (fun j => z_ckI 53 (128 + j)) = true := by decide +kernel
theorem z_ckl53_192 : (List.range 64).all (fun j => z_ckI 53 (192 + j)) = true := by decide +kernel
theorem z_ckl53_256 : (List.range 64).all (fun j => z_ckI 53 (256 + j)) = true := by decide +kernel
theorem z_ckl53_320 : (List.range 64).all (fun j => z_ckI 53 (320 + j)) = true := by decide +kernel
theorem z_ckl53_384 : (List.range 64).all (fun j => z_ckI 53 (384 + j)) = true := by decide +kernel
theorem z_ckl53_448 : (List.range 64).all (fun j => z_ckI 53 (448 + j)) = true := by decide +kernel
theorem z_ckl53_512 : (List.range 64).all (fun j => z_ckI 53 (512 + j)) = true := by decide +kernel
theorem z_ckl53_576 : (List.range 64).all (fun j => z_ckI 53 (576 + j)) = true := by decide +kernel
theorem z_ckl53_640 : (List.range 15).all (fun j => z_ckI 53 (640 + j)) = true := by decide +kernel
theorem z_ckl53 {pc : Nat} (hp : pc < 655) : z_ckI 53 pc = true := by
  rcases Nat.lt_or_ge pc 64 with h | h
  · have h1 := List.all_eq_true.mp z_ckl53_0 (pc - 0) (List.mem_range.mpr (by omega))
    rw [show 0 + (pc - 0) = pc by omega] at h1
    exact h1
  rcases Nat.lt_or_ge pc 128 with h | h
  · have h1 := List.all_eq_true.mp z_ckl53_64 (pc - 64) (List.mem_range.mpr (by omega))
    rw [show 64 + (pc - 64) = pc by omega] at h1
    exact h1
  rcases Nat.lt_or_ge pc 192 with h | h
  · have h1 := List.all_eq_true.mp z_ckl53_128 (pc - 128) (List.mem_range.mpr (by omega))
    rw [show 128 + (pc - 128) = pc by omega] at h1
    exact h1
  rcases Nat.lt_or_ge pc 256 with h | h
  · have h1 := List.all_eq_true.mp z_ckl53_192 (pc - 192) (List.mem_range.mpr (by omega))
    rw [show 192 + (pc - 192) = pc by omega] at h1
    exact h1
  rcases Nat.lt_or_ge pc 320 with h | h
  · have h1 := List.all_eq_true.mp z_ckl53_256 (pc - 256) (List.mem_range.mpr (by omega))
    rw [show 256 + (pc - 256) = pc by omega] at h1
    exact h1
  rcases Nat.lt_or_ge pc 384 with h | h
  · have h1 := List.all_eq_true.mp z_ckl53_320 (pc - 320) (List.mem_range.mpr (by omega))
    rw [show 320 + (pc - 320) = pc by omega] at h1
    exact h1
  rcases Nat.lt_or_ge pc 448 with h | h
  · have h1 := List.all_eq_true.mp z_ckl53_384 (pc - 384) (List.mem_range.mpr (by omega))
    rw [show 384 + (pc - 384) = pc by omega] at h1
    exact h1
  rcases Nat.lt_or_ge pc 512 with h | h
  · have h1 := List.all_eq_true.mp z_ckl53_448 (pc - 448) (List.mem_range.mpr (by omega))
    rw [show 448 + (pc - 448) = pc by omega] at h1
    exact h1
  rcases Nat.lt_or_ge pc 576 with h | h
  · have h1 := List.all_eq_true.mp z_ckl53_512 (pc - 512) (List.mem_range.mpr (by omega))
    rw [show 512 + (pc - 512) = pc by omega] at h1
    exact h1
  rcases Nat.lt_or_ge pc 640 with h | h
  · have h1 := List.all_eq_true.mp z_ckl53_576 (pc - 576) (List.mem_range.mpr (by omega))
    rw [show 576 + (pc - 576) = pc by omega] at h1
    exact h1
  rcases Nat.lt_or_ge pc 655 with h | h
  · have h1 := List.all_eq_true.mp z_ckl53_640 (pc - 640) (List.mem_range.mpr (by omega))
    rw [show 640 + (pc - 640) = pc by omega] at h1
    exact h1
  omega
theorem z_ckl54_0 : (List.range 64).all (fun j => z_ckI 54 (0 + j)) = true := by decide +kernel
theorem z_ckl54_64 : (List.range 64).all (fun j => z_ckI 54 (64 + j)) = true := by decide +kernel
theorem z_ckl54_128 : (List.range 64).all (fun j => z_ckI 54 (128 + j)) = true := by decide +kernel
theorem z_ckl54_192 : (List.range 62).all (fun j => z_ckI 54 (192 + j)) = true := by decide +kernel
theorem z_ckl54 {pc : Nat} (hp : pc < 254) : z_ckI 54 pc = true := by
  rcases Nat.lt_or_ge pc 64 with h | h
  · have h1 := List.all_eq_true.mp z_ckl54_0 (pc - 0) (List.mem_range.mpr (by omega))
    rw [show 0 + (pc - 0) = pc by omega] at h1
    exact h1
  rcases Nat.lt_or_ge pc 128 with h | h
  · have h1 := List.all_eq_true.mp z_ckl54_64 (pc - 64) (List.mem_range.mpr (by omega))
    rw [show 64 + (pc - 64) = pc by omega] at h1
    exact h1
  rcases Nat.lt_or_ge pc 192 with h | h
  · have h1 := List.all_eq_true.mp z_ckl54_128 (pc - 128) (List.mem_range.mpr (by omega))
    rw [show 128 + (pc - 128) = pc by omega] at h1
    exact h1
  rcases Nat.lt_or_ge pc 254 with h | h
  · have h1 := List.all_eq_true.mp z_ckl54_192 (pc - 192) (List.mem_range.mpr (by omega))
    rw [show 192 + (pc - 192) = pc by omega] at h1
    exact h1
  omega
theorem z_ckl55_0 : (List.range 64).all (fun j => z_ckI 55 (0 + j)) = true := by decide +kernel
theorem z_ckl55_64 : (List.range 64).all (fun j => z_ckI 55 (64 + j)) = true := by decide +kernel
theorem z_ckl55_128 : (List.range 64).all (fun j => z_ckI 55 (128 + j)) = true := by decide +kernel
theorem z_ckl55_192 : (List.range 64).all (fun j => z_ckI 55 (192 + j)) = true := by decide +kernel
theorem z_ckl55_256 : (List.range 64).all (fun j => z_ckI 55 (256 + j)) = true := by decide +kernel
theorem z_ckl55_320 : (List.range 7).all (fun j => z_ckI 55 (320 + j)) = true := by decide +kernel
theorem z_ckl55 {pc : Nat} (hp : pc < 327) : z_ckI 55 pc = true := by
  rcases Nat.lt_or_ge pc 64 with h | h
  · have h1 := List.all_eq_true.mp z_ckl55_0 (pc - 0) (List.mem_range.mpr (by omega))
    rw [show 0 + (pc - 0) = pc by omega] at h1
    exact h1
  rcases Nat.lt_or_ge pc 128 with h | h
  · have h1 := List.all_eq_true.mp z_ckl55_64 (pc - 64) (List.mem_range.mpr (by omega))
    rw [show 64 + (pc - 64) = pc by omega] at h1
    exact h1
  rcases Nat.lt_or_ge pc 192 with h | h
  · have h1 := List.all_eq_true.mp z_ckl55_128 (pc - 128) (List.mem_range.mpr (by omega))
    rw [show 128 + (pc - 128) = pc by omega] at h1
    exact h1
  rcases Nat.lt_or_ge pc 256 with h | h
  · have h1 := List.all_eq_true.mp z_ckl55_192 (pc - 192) (List.mem_range.mpr (by omega))
    rw [show 192 + (pc - 192) = pc by omega] at h1
    exact h1
  rcases Nat.lt_or_ge pc 320 with h | h
  · have h1 := List.all_eq_true.mp z_ckl55_256 (pc - 256) (List.mem_range.mpr (by omega))
    rw [show 256 + (pc - 256) = pc by omega] at h1
    exact h1
  rcases Nat.lt_or_ge pc 327 with h | h
  · have h1 := List.all_eq_true.mp z_ckl55_320 (pc - 320) (List.mem_range.mpr (by omega))
    rw [show 320 + (pc - 320) = pc by omega] at h1
    exact h1
  omega
theorem z_ck_56 : (List.range 1).all (fun j => (List.range (z_len (56 + j))).all (z_ckI (56 + j))) = true := by decide +kernel
theorem z_ckl57_0 : (List.range 64).all (fun j => z_ckI 57 (0 + j)) = true := by decide +kernel
theorem z_ckl57_64 : (List.range 64).all (fun j => z_ckI 57 (64 + j)) = true := by decide +kernel
theorem z_ckl57_128 : (List.range 64).all (fun j => z_ckI 57 (128 + j)) = true := by decide +kernel
theorem z_ckl57_192 : (List.range 30).all (fun j => z_ckI 57 (192 + j)) = true := by decide +kernel
theorem z_ckl57 {pc : Nat} (hp : pc < 222) : z_ckI 57 pc = true := by
  rcases Nat.lt_or_ge pc 64 with h | h
  · have h1 := List.all_eq_true.mp z_ckl57_0 (pc - 0) (List.mem_range.mpr (by omega))
    rw [show 0 + (pc - 0) = pc by omega] at h1
    exact h1
  rcases Nat.lt_or_ge pc 128 with h | h
  · have h1 := List.all_eq_true.mp z_ckl57_64 (pc - 64) (List.mem_range.mpr (by omega))
    rw [show 64 + (pc - 64) = pc by omega] at h1
    exact h1
  rcases Nat.lt_or_ge pc 192 with h | h
  · have h1 := List.all_eq_true.mp z_ckl57_128 (pc - 128) (List.mem_range.mpr (by omega))
    rw [show 128 + (pc - 128) = pc by omega] at h1
    exact h1
  rcases Nat.lt_or_ge pc 222 with h | h
  · have h1 := List.all_eq_true.mp z_ckl57_192 (pc - 192) (List.mem_range.mpr (by omega))
    rw [show 192 + (pc - 192) = pc by omega] at h1
    exact h1
  omega
