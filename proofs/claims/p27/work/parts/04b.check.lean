theorem z_mB_0 : (List.range 20).all (fun j => z_mB (0 + j)) = true := by decide +kernel
theorem z_mB_20 : (List.range 20).all (fun j => z_mB (20 + j)) = true := by decide +kernel
theorem z_mB_40 : (List.range 17).all (fun j => z_mB (40 + j)) = true := by decide +kernel
theorem z_mB_all {m : Nat} (hm : m < 57) : z_mB m = true := by
  rcases Nat.lt_or_ge m 20 with h | h
  · have h1 := List.all_eq_true.mp z_mB_0 (m - 0) (List.mem_range.mpr (by omega))
    rw [show 0 + (m - 0) = m by omega] at h1
    exact h1
  rcases Nat.lt_or_ge m 40 with h | h
  · have h1 := List.all_eq_true.mp z_mB_20 (m - 20) (List.mem_range.mpr (by omega))
    rw [show 20 + (m - 20) = m by omega] at h1
    exact h1
  rcases Nat.lt_or_ge m 57 with h | h
  · have h1 := List.all_eq_true.mp z_mB_40 (m - 40) (List.mem_range.mpr (by omega))
    rw [show 40 + (m - 40) = m by omega] at h1
    exact h1
  omega
set_option maxRecDepth 100000 in
theorem z_cw_0 : lw_tbl[417]? = some (z_codeW 0) := by rfl
set_option maxRecDepth 100000 in
theorem z_cw_1 : lw_tbl[425]? = some (z_codeW 1) := by rfl
set_option maxRecDepth 100000 in
theorem z_cw_2 : lw_tbl[437]? = some (z_codeW 2) := by rfl
set_option maxRecDepth 100000 in
theorem z_cw_3 : lw_tbl[433]? = some (z_codeW 3) := by rfl
set_option maxRecDepth 100000 in
theorem z_cw_4 : lw_tbl[303]? = some (z_codeW 4) := by rfl
set_option maxRecDepth 100000 in
theorem z_cw_5 : lw_tbl[338]? = some (z_codeW 5) := by rfl
set_option maxRecDepth 100000 in
theorem z_cw_6 : lw_tbl[496]? = some (z_codeW 6) := by rfl
set_option maxRecDepth 100000 in
theorem z_cw_7 : lw_tbl[504]? = some (z_codeW 7) := by rfl
set_option maxRecDepth 100000 in
theorem z_cw_8 : lw_tbl[372]? = some (z_codeW 8) := by rfl
set_option maxRecDepth 100000 in
theorem z_cw_9 : lw_tbl[361]? = some (z_codeW 9) := by rfl
set_option maxRecDepth 100000 in
theorem z_cw_10 : lw_tbl[329]? = some (z_codeW 10) := by rfl
set_option maxRecDepth 100000 in
theorem z_cw_11 : lw_tbl[413]? = some (z_codeW 11) := by rfl
set_option maxRecDepth 100000 in
theorem z_cw_12 : lw_tbl[307]? = some (z_codeW 12) := by rfl
set_option maxRecDepth 100000 in
theorem z_cw_13 : lw_tbl[484]? = some (z_codeW 13) := by rfl
set_option maxRecDepth 100000 in
theorem z_cw_14 : lw_tbl[314]? = some (z_codeW 14) := by rfl
set_option maxRecDepth 100000 in
theorem z_cw_15 : lw_tbl[488]? = some (z_codeW 15) := by rfl
set_option maxRecDepth 100000 in
theorem z_cw_16 : lw_tbl[492]? = some (z_codeW 16) := by rfl
set_option maxRecDepth 100000 in
theorem z_cw_17 : lw_tbl[508]? = some (z_codeW 17) := by rfl
set_option maxRecDepth 100000 in
theorem z_cw_18 : lw_tbl[352]? = some (z_codeW 18) := by rfl
set_option maxRecDepth 100000 in
theorem z_cw_19 : lw_tbl[357]? = some (z_codeW 19) := by rfl
set_option maxRecDepth 100000 in
theorem z_cw_20 : lw_tbl[318]? = some (z_codeW 20) := by rfl
set_option maxRecDepth 100000 in
theorem z_cw_21 : lw_tbl[325]? = some (z_codeW 21) := by rfl
set_option maxRecDepth 100000 in
theorem z_cw_22 : lw_tbl[445]? = some (z_codeW 22) := by rfl
set_option maxRecDepth 100000 in
theorem z_cw_23 : lw_tbl[386]? = some (z_codeW 23) := by rfl
set_option maxRecDepth 100000 in
theorem z_cw_24 : lw_tbl[429]? = some (z_codeW 24) := by rfl
set_option maxRecDepth 100000 in
theorem z_cw_25 : lw_tbl[441]? = some (z_codeW 25) := by rfl
set_option maxRecDepth 100000 in
theorem z_cw_26 : lw_tbl[449]? = some (z_codeW 26) := by rfl
set_option maxRecDepth 100000 in
theorem z_cw_27 : lw_tbl[453]? = some (z_codeW 27) := by rfl
set_option maxRecDepth 100000 in
theorem z_cw_28 : lw_tbl[480]? = some (z_codeW 28) := by rfl
set_option maxRecDepth 100000 in
theorem z_cw_29 : lw_tbl[457]? = some (z_codeW 29) := by rfl
set_option maxRecDepth 100000 in
theorem z_cw_30 : lw_tbl[546]? = some (z_codeW 30) := by rfl
set_option maxRecDepth 100000 in
theorem z_cw_31 : lw_tbl[218]? = some (z_codeW 31) := by rfl
set_option maxRecDepth 100000 in
theorem z_cw_32 : lw_tbl[527]? = some (z_codeW 32) := by rfl
set_option maxRecDepth 100000 in
theorem z_cw_33 : lw_tbl[334]? = some (z_codeW 33) := by rfl
set_option maxRecDepth 100000 in
theorem z_cw_34 : lw_tbl[516]? = some (z_codeW 34) := by rfl
set_option maxRecDepth 100000 in
theorem z_cw_35 : lw_tbl[365]? = some (z_codeW 35) := by rfl
set_option maxRecDepth 100000 in
theorem z_cw_36 : lw_tbl[534]? = some (z_codeW 36) := by rfl
set_option maxRecDepth 100000 in
theorem z_cw_37 : lw_tbl[538]? = some (z_codeW 37) := by rfl
set_option maxRecDepth 100000 in
theorem z_cw_38 : lw_tbl[542]? = some (z_codeW 38) := by rfl
set_option maxRecDepth 100000 in
theorem z_cw_39 : lw_tbl[523]? = some (z_codeW 39) := by rfl
set_option maxRecDepth 100000 in
theorem z_cw_40 : lw_tbl[409]? = some (z_codeW 40) := by rfl
set_option maxRecDepth 100000 in
theorem z_cw_41 : lw_tbl[299]? = some (z_codeW 41) := by rfl
set_option maxRecDepth 100000 in
theorem z_cw_42 : lw_tbl[227]? = some (z_codeW 42) := by rfl
set_option maxRecDepth 100000 in
theorem z_cw_43 : lw_tbl[389]? = some (z_codeW 43) := by rfl
set_option maxRecDepth 100000 in
theorem z_cw_44 : lw_tbl[460]? = some (z_codeW 44) := by rfl
set_option maxRecDepth 100000 in
theorem z_cw_45 : lw_tbl[224]? = some (z_codeW 45) := by rfl
set_option maxRecDepth 100000 in
theorem z_cw_46 : lw_tbl[221]? = some (z_codeW 46) := by rfl
set_option maxRecDepth 100000 in
theorem z_cw_47 : lw_tbl[368]? = some (z_codeW 47) := by rfl
set_option maxRecDepth 100000 in
theorem z_cw_48 : lw_tbl[348]? = some (z_codeW 48) := by rfl
set_option maxRecDepth 100000 in
theorem z_cw_49 : lw_tbl[342]? = some (z_codeW 49) := by rfl
set_option maxRecDepth 100000 in
theorem z_cw_50 : lw_tbl[375]? = some (z_codeW 50) := by rfl
set_option maxRecDepth 100000 in
theorem z_cw_51 : lw_tbl[378]? = some (z_codeW 51) := by rfl
set_option maxRecDepth 100000 in
theorem z_cw_52 : lw_tbl[382]? = some (z_codeW 52) := by rfl
set_option maxRecDepth 100000 in
theorem z_cw_53 : lw_tbl[512]? = some (z_codeW 53) := by rfl
set_option maxRecDepth 100000 in
theorem z_cw_54 : lw_tbl[519]? = some (z_codeW 54) := by rfl
set_option maxRecDepth 100000 in
theorem z_cw_55 : lw_tbl[530]? = some (z_codeW 55) := by rfl
set_option maxRecDepth 100000 in
theorem z_cw_56 : lw_tbl[549]? = some (z_codeW 56) := by rfl
theorem z_cwa_0 (m : Nat) (h1 : 0 ≤ m) (h2 : m < 20) : z_codeW m ∈ lw_tbl := by
  rcases Nat.eq_or_lt_of_le h1 with h | h1
  · rw [← h]; exact List.mem_of_getElem? z_cw_0
  rcases Nat.eq_or_lt_of_le h1 with h | h1
  · rw [← h]; exact List.mem_of_getElem? z_cw_1
  rcases Nat.eq_or_lt_of_le h1 with h | h1
  · rw [← h]; exact List.mem_of_getElem? z_cw_2
  rcases Nat.eq_or_lt_of_le h1 with h | h1
  · rw [← h]; exact List.mem_of_getElem? z_cw_3
  rcases Nat.eq_or_lt_of_le h1 with h | h1
  · rw [← h]; exact List.mem_of_getElem? z_cw_4
  rcases Nat.eq_or_lt_of_le h1 with h | h1
  · rw [← h]; exact List.mem_of_getElem? z_cw_5
  rcases Nat.eq_or_lt_of_le h1 with h | h1
  · rw [← h]; exact List.mem_of_getElem? z_cw_6
  rcases Nat.eq_or_lt_of_le h1 with h | h1
  · rw [← h]; exact List.mem_of_getElem? z_cw_7
  rcases Nat.eq_or_lt_of_le h1 with h | h1
  · rw [← h]; exact List.mem_of_getElem? z_cw_8
  rcases Nat.eq_or_lt_of_le h1 with h | h1
  · rw [← h]; exact List.mem_of_getElem? z_cw_9
  rcases Nat.eq_or_lt_of_le h1 with h | h1
  · rw [← h]; exact List.mem_of_getElem? z_cw_10
  rcases Nat.eq_or_lt_of_le h1 with h | h1
  · rw [← h]; exact List.mem_of_getElem? z_cw_11
  rcases Nat.eq_or_lt_of_le h1 with h | h1
  · rw [← h]; exact List.mem_of_getElem? z_cw_12
  rcases Nat.eq_or_lt_of_le h1 with h | h1
  · rw [← h]; exact List.mem_of_getElem? z_cw_13
  rcases Nat.eq_or_lt_of_le h1 with h | h1
  · rw [← h]; exact List.mem_of_getElem? z_cw_14
  rcases Nat.eq_or_lt_of_le h1 with h | h1
  · rw [← h]; exact List.mem_of_getElem? z_cw_15
  rcases Nat.eq_or_lt_of_le h1 with h | h1
  · rw [← h]; exact List.mem_of_getElem? z_cw_16
  rcases Nat.eq_or_lt_of_le h1 with h | h1
  · rw [← h]; exact List.mem_of_getElem? z_cw_17
  rcases Nat.eq_or_lt_of_le h1 with h | h1
  · rw [← h]; exact List.mem_of_getElem? z_cw_18
  rcases Nat.eq_or_lt_of_le h1 with h | h1
  · rw [← h]; exact List.mem_of_getElem? z_cw_19
  omega
theorem z_cwa_20 (m : Nat) (h1 : 20 ≤ m) (h2 : m < 40) : z_codeW m ∈ lw_tbl := by
  rcases Nat.eq_or_lt_of_le h1 with h | h1
  · rw [← h]; exact List.mem_of_getElem? z_cw_20
  rcases Nat.eq_or_lt_of_le h1 with h | h1
  · rw [← h]; exact List.mem_of_getElem? z_cw_21
  rcases Nat.eq_or_lt_of_le h1 with h | h1
  · rw [← h]; exact List.mem_of_getElem? z_cw_22
  rcases Nat.eq_or_lt_of_le h1 with h | h1
  · rw [← h]; exact List.mem_of_getElem? z_cw_23
  rcases Nat.eq_or_lt_of_le h1 with h | h1
  · rw [← h]; exact List.mem_of_getElem? z_cw_24
  rcases Nat.eq_or_lt_of_le h1 with h | h1
  · rw [← h]; exact List.mem_of_getElem? z_cw_25
  rcases Nat.eq_or_lt_of_le h1 with h | h1
  · rw [← h]; exact List.mem_of_getElem? z_cw_26
  rcases Nat.eq_or_lt_of_le h1 with h | h1
  · rw [← h]; exact List.mem_of_getElem? z_cw_27
  rcases Nat.eq_or_lt_of_le h1 with h | h1
  · rw [← h]; exact List.mem_of_getElem? z_cw_28
  rcases Nat.eq_or_lt_of_le h1 with h | h1
  · rw [← h]; exact List.mem_of_getElem? z_cw_29
  rcases Nat.eq_or_lt_of_le h1 with h | h1
  · rw [← h]; exact List.mem_of_getElem? z_cw_30
  rcases Nat.eq_or_lt_of_le h1 with h | h1
  · rw [← h]; exact List.mem_of_getElem? z_cw_31
  rcases Nat.eq_or_lt_of_le h1 with h | h1
  · rw [← h]; exact List.mem_of_getElem? z_cw_32
  rcases Nat.eq_or_lt_of_le h1 with h | h1
  · rw [← h]; exact List.mem_of_getElem? z_cw_33
  rcases Nat.eq_or_lt_of_le h1 with h | h1
  · rw [← h]; exact List.mem_of_getElem? z_cw_34
  rcases Nat.eq_or_lt_of_le h1 with h | h1
  · rw [← h]; exact List.mem_of_getElem? z_cw_35
  rcases Nat.eq_or_lt_of_le h1 with h | h1
  · rw [← h]; exact List.mem_of_getElem? z_cw_36
  rcases Nat.eq_or_lt_of_le h1 with h | h1
  · rw [← h]; exact List.mem_of_getElem? z_cw_37
  rcases Nat.eq_or_lt_of_le h1 with h | h1
  · rw [← h]; exact List.mem_of_getElem? z_cw_38
  rcases Nat.eq_or_lt_of_le h1 with h | h1
  · rw [← h]; exact List.mem_of_getElem? z_cw_39
  omega
theorem z_cwa_40 (m : Nat) (h1 : 40 ≤ m) (h2 : m < 57) : z_codeW m ∈ lw_tbl := by
  rcases Nat.eq_or_lt_of_le h1 with h | h1
  · rw [← h]; exact List.mem_of_getElem? z_cw_40
  rcases Nat.eq_or_lt_of_le h1 with h | h1
  · rw [← h]; exact List.mem_of_getElem? z_cw_41
  rcases Nat.eq_or_lt_of_le h1 with h | h1
  · rw [← h]; exact List.mem_of_getElem? z_cw_42
  rcases Nat.eq_or_lt_of_le h1 with h | h1
  · rw [← h]; exact List.mem_of_getElem? z_cw_43
  rcases Nat.eq_or_lt_of_le h1 with h | h1
  · rw [← h]; exact List.mem_of_getElem? z_cw_44
  rcases Nat.eq_or_lt_of_le h1 with h | h1
  · rw [← h]; exact List.mem_of_getElem? z_cw_45
  rcases Nat.eq_or_lt_of_le h1 with h | h1
  · rw [← h]; exact List.mem_of_getElem? z_cw_46
  rcases Nat.eq_or_lt_of_le h1 with h | h1
  · rw [← h]; exact List.mem_of_getElem? z_cw_47
  rcases Nat.eq_or_lt_of_le h1 with h | h1
  · rw [← h]; exact List.mem_of_getElem? z_cw_48
  rcases Nat.eq_or_lt_of_le h1 with h | h1
  · rw [← h]; exact List.mem_of_getElem? z_cw_49
  rcases Nat.eq_or_lt_of_le h1 with h | h1
  · rw [← h]; exact List.mem_of_getElem? z_cw_50
  rcases Nat.eq_or_lt_of_le h1 with h | h1
  · rw [← h]; exact List.mem_of_getElem? z_cw_51
  rcases Nat.eq_or_lt_of_le h1 with h | h1
  · rw [← h]; exact List.mem_of_getElem? z_cw_52
  rcases Nat.eq_or_lt_of_le h1 with h | h1
  · rw [← h]; exact List.mem_of_getElem? z_cw_53
  rcases Nat.eq_or_lt_of_le h1 with h | h1
  · rw [← h]; exact List.mem_of_getElem? z_cw_54
  rcases Nat.eq_or_lt_of_le h1 with h | h1
  · rw [← h]; exact List.mem_of_getElem? z_cw_55
  rcases Nat.eq_or_lt_of_le h1 with h | h1
  · rw [← h]; exact List.mem_of_getElem? z_cw_56
  omega
theorem z_cw {m : Nat} (hm : m < 57) : z_codeW m ∈ lw_tbl := by
  rcases Nat.lt_or_ge m 20 with h | h
  · exact z_cwa_0 m (by omega) h
  rcases Nat.lt_or_ge m 40 with h | h
  · exact z_cwa_20 m (by omega) h
  rcases Nat.lt_or_ge m 57 with h | h
  · exact z_cwa_40 m (by omega) h
  omega
