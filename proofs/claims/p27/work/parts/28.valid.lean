/-! PURE: valid islands; the class's hour is the model's -/
theorem wuS_i {s : Nat → Int32} {i j : Nat} : wuS s i j i = if s i = 1 then (if s j - 1 = 0 then 2 else 1) else s i := by
  unfold wuS
  split
  · simp only [upd]; rw [if_pos trivial]
  · rfl
theorem wuS_j {s : Nat → Int32} {i j : Nat} (h : j ≠ i) : wuS s i j j = if s i = 1 then s j - 1 else s j := by
  unfold wuS
  split
  · simp only [upd]; rw [if_neg h, if_pos trivial]
  · rfl
theorem wuF_p0 {s : Nat → Int32} : wuF s 16 = if s 16 = 1 then (if s 20 - 1 = 0 then 2 else 1) else s 16 := by
  unfold wuF
  rw [wuS_o (by decide) (by decide), wuS_o (by decide) (by decide), wuS_o (by decide) (by decide), wuS_i]
theorem wuF_q0 {s : Nat → Int32} : wuF s 20 = if s 16 = 1 then s 20 - 1 else s 20 := by
  unfold wuF
  rw [wuS_o (by decide) (by decide), wuS_o (by decide) (by decide), wuS_o (by decide) (by decide), wuS_j (by decide)]
theorem wuF_p1 {s : Nat → Int32} : wuF s 17 = if s 17 = 1 then (if s 21 - 1 = 0 then 2 else 1) else s 17 := by
  unfold wuF
  rw [wuS_o (by decide) (by decide), wuS_o (by decide) (by decide), wuS_i]
  simp only [wuS_o (i := 16) (j := 20) (show 17 ≠ 16 by decide) (show 17 ≠ 20 by decide), wuS_o (i := 16) (j := 20) (show 21 ≠ 16 by decide) (show 21 ≠ 20 by decide)]
theorem wuF_q1 {s : Nat → Int32} : wuF s 21 = if s 17 = 1 then s 21 - 1 else s 21 := by
  unfold wuF
  rw [wuS_o (by decide) (by decide), wuS_o (by decide) (by decide), wuS_j (by decide)]
  simp only [wuS_o (i := 16) (j := 20) (show 17 ≠ 16 by decide) (show 17 ≠ 20 by decide), wuS_o (i := 16) (j := 20) (show 21 ≠ 16 by decide) (show 21 ≠ 20 by decide)]
theorem wuF_p2 {s : Nat → Int32} : wuF s 18 = if s 18 = 1 then (if s 22 - 1 = 0 then 2 else 1) else s 18 := by
  unfold wuF
  rw [wuS_o (by decide) (by decide), wuS_i]
  simp only [wuS_o (i := 16) (j := 20) (show 18 ≠ 16 by decide) (show 18 ≠ 20 by decide), wuS_o (i := 16) (j := 20) (show 22 ≠ 16 by decide) (show 22 ≠ 20 by decide), wuS_o (i := 17) (j := 21) (show 18 ≠ 17 by decide) (show 18 ≠ 21 by decide), wuS_o (i := 17) (j := 21) (show 22 ≠ 17 by decide) (show 22 ≠ 21 by decide)]
theorem wuF_q2 {s : Nat → Int32} : wuF s 22 = if s 18 = 1 then s 22 - 1 else s 22 := by
  unfold wuF
  rw [wuS_o (by decide) (by decide), wuS_j (by decide)]
  simp only [wuS_o (i := 16) (j := 20) (show 18 ≠ 16 by decide) (show 18 ≠ 20 by decide), wuS_o (i := 16) (j := 20) (show 22 ≠ 16 by decide) (show 22 ≠ 20 by decide), wuS_o (i := 17) (j := 21) (show 18 ≠ 17 by decide) (show 18 ≠ 21 by decide), wuS_o (i := 17) (j := 21) (show 22 ≠ 17 by decide) (show 22 ≠ 21 by decide)]
theorem wuF_p3 {s : Nat → Int32} : wuF s 19 = if s 19 = 1 then (if s 23 - 1 = 0 then 2 else 1) else s 19 := by
  unfold wuF
  rw [wuS_i]
  simp only [wuS_o (i := 16) (j := 20) (show 19 ≠ 16 by decide) (show 19 ≠ 20 by decide), wuS_o (i := 16) (j := 20) (show 23 ≠ 16 by decide) (show 23 ≠ 20 by decide), wuS_o (i := 17) (j := 21) (show 19 ≠ 17 by decide) (show 19 ≠ 21 by decide), wuS_o (i := 17) (j := 21) (show 23 ≠ 17 by decide) (show 23 ≠ 21 by decide), wuS_o (i := 18) (j := 22) (show 19 ≠ 18 by decide) (show 19 ≠ 22 by decide), wuS_o (i := 18) (j := 22) (show 23 ≠ 18 by decide) (show 23 ≠ 22 by decide)]
theorem wuF_q3 {s : Nat → Int32} : wuF s 23 = if s 19 = 1 then s 23 - 1 else s 23 := by
  unfold wuF
  rw [wuS_j (by decide)]
  simp only [wuS_o (i := 16) (j := 20) (show 19 ≠ 16 by decide) (show 19 ≠ 20 by decide), wuS_o (i := 16) (j := 20) (show 23 ≠ 16 by decide) (show 23 ≠ 20 by decide), wuS_o (i := 17) (j := 21) (show 19 ≠ 17 by decide) (show 19 ≠ 21 by decide), wuS_o (i := 17) (j := 21) (show 23 ≠ 17 by decide) (show 23 ≠ 21 by decide), wuS_o (i := 18) (j := 22) (show 19 ≠ 18 by decide) (show 19 ≠ 22 by decide), wuS_o (i := 18) (j := 22) (show 23 ≠ 18 by decide) (show 23 ≠ 22 by decide)]
theorem okk_c {s w : Nat → Int32} {k : Nat} (h : okk s k) (h0 : w k = s k) (h4 : w (4 + k) = s (4 + k)) (h8 : w (8 + k) = s (8 + k)) (h12 : w (12 + k) = s (12 + k)) (h16 : w (16 + k) = if s (16 + k) = 1 then (if s (20 + k) - 1 = 0 then 2 else 1) else s (16 + k)) (h20 : w (20 + k) = if s (16 + k) = 1 then s (20 + k) - 1 else s (20 + k)) : okk w k := by
  obtain ⟨a, b, c, d, e, f, g⟩ := h
  unfold okk
  rw [h0, h4, h8, h12, h16, h20]
  refine ⟨a, b, c, d, ?_⟩
  by_cases q : s (16 + k) = 1
  · rw [if_pos q, if_pos q]
    have f1 := i_lt.mp (f q)
    rw [t0] at f1
    have e1 := i_sub (a := s (20 + k)) (b := 1) (by rw [t1]; omega) (by rw [t1]; omega)
    rw [t1] at e1
    by_cases q2 : s (20 + k) - 1 = 0
    · rw [if_pos q2, q2]
      exact ⟨⟨by decide, by decide⟩, fun z => absurd z (by decide), by decide, by decide⟩
    · rw [if_neg q2]
      have n0 : (s (20 + k) - 1).toInt ≠ 0 := fun z => q2 (Int32.toInt_inj.mp z)
      refine ⟨⟨by decide, by decide⟩, fun _ => ?_, by omega, by omega⟩
      rw [i_lt, t0]; omega
  · rw [if_neg q, if_neg q]
    exact ⟨e, f, g⟩
theorem okk_wu {s : Nat → Int32} (h : ∀ k, k < 4 → okk s k) : ∀ k, k < 4 → okk (wuF s) k := by
  intro k hk
  have hc : k = 0 ∨ k = 1 ∨ k = 2 ∨ k = 3 := by omega
  rcases hc with e | e | e | e <;> subst e
  · exact okk_c (h 0 hk) (wuF_o (by decide)) (wuF_o (by decide)) (wuF_o (by decide)) (wuF_o (by decide)) wuF_p0 wuF_q0
  · exact okk_c (h 1 hk) (wuF_o (by decide)) (wuF_o (by decide)) (wuF_o (by decide)) (wuF_o (by decide)) wuF_p1 wuF_q1
  · exact okk_c (h 2 hk) (wuF_o (by decide)) (wuF_o (by decide)) (wuF_o (by decide)) (wuF_o (by decide)) wuF_p2 wuF_q2
  · exact okk_c (h 3 hk) (wuF_o (by decide)) (wuF_o (by decide)) (wuF_o (by decide)) (wuF_o (by decide)) wuF_p3 wuF_q3
def Vs (s : Nat → Int32) (H : Nat) : Prop := (∀ k, k < 4 → okk s k) ∧ (s 34 = nI H ∧ H ≤ 48) ∧ (0 ≤ (s 35).toInt ∧ (s 35).toInt ≤ H) ∧ z_isB (s 36) = true ∧ z_isB (s 37) = true ∧ (∀ h, h < 48 → 0 ≤ (s (40 + h)).toInt ∧ (s (40 + h)).toInt ≤ 1500) ∧ (0 ≤ (s 32).toInt ∧ (s 32).toInt ≤ 300) ∧ (0 ≤ (s 33).toInt ∧ (s 33).toInt ≤ 48) ∧ s 38 = dkN s H ∧ s 39 + sfN s H = nI H ∧ (∀ h, h < H → z_isB (s (88 + 6 * h + 4)) = true)
theorem lod_at {s : Nat → Int32} {h : Nat} (hh : h < 48) : lodF s (nI h) = s (40 + h) + (if s 37 = 1 then 0 else s 32) := by
  unfold lodF
  rw [show (40 : Int32) = nI 40 from rfl, nI_add, nI_clamp (by omega)]
theorem lod_b {s : Nat → Int32} {H h : Nat} (hV : Vs s H) (hh : h < 48) : 0 ≤ (lodF s (nI h)).toInt ∧ (lodF s (nI h)).toInt ≤ 1800 := by
  obtain ⟨-, -, -, -, h37, hf, h32, -⟩ := hV
  rw [lod_at hh]
  have := hf h hh
  split
  · rw [Int32.add_zero]; omega
  · rw [i_add (by omega) (by omega)]; omega
theorem cld_eq {s : Nat → Int32} {h : Nat} (hb : z_isB (s 37) = true) (hh : h < 48) : cld s h = lodF s (nI h) := by
  rw [lod_at hh]
  unfold cld
  rcases isB_or hb with e | e <;> rw [e]
  · rw [if_pos rfl, if_neg (by decide)]
  · rw [if_neg (by decide), if_pos rfl]
theorem gAll_eq {s : Nat → Int32} {H : Nat} (hs : s 34 = nI H) (hH : H < 48) : gAll s = lodF s (nI H) := by
  unfold gAll
  rw [wuF_o (by decide), hs, lod_at hH, lod_at hH, wuF_o (by omega), wuF_o (by decide), wuF_o (by decide)]
theorem cld_wu {s : Nat → Int32} {H : Nat} (hV : Vs s H) (hH : H < 48) : cld (wuF s) H = gAll s := by
  have h37 := hV.2.2.2.2.1
  rw [gAll_eq hV.2.1.1 hH, ← cld_eq h37 hH]
  unfold cld
  rw [wuF_o (by omega), wuF_o (by decide), wuF_o (by decide)]
theorem wmv_eq {s : Nat → Int32} (hb : z_isB (s 37) = true) (h35 : 0 ≤ (s 35).toInt) : cWa s = wmv s := by
  unfold cWa wmv
  rcases isB_or hb with e | e <;> rw [e]
  · rw [if_pos rfl, if_neg (show ¬ (0 : Int32) = 1 by decide)]
    have := i_hi (s 35)
    have e1 := i_sub (a := s 35) (b := 1) (by rw [t1]; omega) (by rw [t1]; omega)
    rw [t1] at e1
    by_cases q : s 35 ≤ 0
    · rw [if_pos q, Int32.add_zero]
      rw [i_le, t0] at q
      rw [if_pos (by rw [i_lt, t0]; omega), ← Int32.toInt_inj, t0]; omega
    · rw [if_neg q]
      rw [i_le, t0] at q
      rw [if_neg (by rw [i_lt, t0]; omega), Int32.sub_eq_add_neg]
  · rw [if_neg (by decide), if_pos rfl]
theorem wmv_b {s : Nat → Int32} {H : Nat} (hV : Vs s H) (hH : H < 48) : 0 ≤ (wmv s).toInt ∧ (wmv s).toInt ≤ H + 1 := by
  obtain ⟨-, -, h35, -⟩ := hV
  unfold wmv
  split
  · rw [i_add (by rw [t1]; omega) (by rw [t1]; omega), t1]; omega
  · split
    · rw [Int32.add_zero]; omega
    · rename_i q
      rw [i_le, t0] at q
      have tm : (-1 : Int32).toInt = -1 := rfl
      rw [i_add (by rw [tm]; omega) (by rw [tm]; omega), tm]; omega
theorem dkN_c {a b : Nat → Int32} : ∀ (n : Nat), (∀ h, h < n → a (88 + 6 * h + 1) = b (88 + 6 * h + 1)) → dkN a n = dkN b n
  | 0, _ => rfl
  | n + 1, h => by
    unfold dkN
    rw [dkN_c n (fun k hk => h k (by omega)), h n (by omega)]
theorem sfN_c {a b : Nat → Int32} : ∀ (n : Nat), (∀ h, h < n → a (88 + 6 * h + 4) = b (88 + 6 * h + 4)) → sfN a n = sfN b n
  | 0, _ => rfl
  | n + 1, h => by
    unfold sfN
    rw [sfN_c n (fun k hk => h k (by omega)), h n (by omega)]
theorem gN_row {s : Nat → Int32} {H h i : Nat} (hh : s 34 = nI H) (hH : H < 48) (h1 : h ≠ H) (hi : i < 6) : goN s (88 + 6 * h + i) = s (88 + 6 * h + i) := by
  rw [gN_o hh hH (by omega) (by omega) (by omega) (by omega) (by omega), wuF_o (by omega)]
theorem Vs_go {s : Nat → Int32} {H : Nat} (hV : Vs s H) (hH : H < 48) : Vs (goN s) (H + 1) := by
  have hwb := wmv_b hV hH
  obtain ⟨hk, ⟨h34, hle⟩, h35, h36, h37, hf, h32, h33, h38, h39, hr⟩ := hV
  have o := fun (j : Nat) (a : j < 24 ∨ 32 ≤ j) (b : j < 34 ∨ 37 ≤ j) (c : j ≠ 38) (d : j ≠ 39) (e : j < 88) => gN_o h34 hH (j := j) a b c d (Or.inl (by omega))
  have o2 := fun (j : Nat) (a : 24 ≤ j) (a2 : 32 ≤ j) (b : j < 34 ∨ 37 ≤ j) (c : j ≠ 38) (d : j ≠ 39) (e : j < 88) => (o j (Or.inr a2) b c d e).trans (wuF_o (Or.inr a))
  refine ⟨fun k hk4 => ?_, ⟨gN_34 h34 hH, by omega⟩, ?_, ?_, ?_, ?_, ?_, ?_, ?_, ?_, ?_⟩
  · have q := okk_wu hk k hk4
    unfold okk at q ⊢
    rw [o k (by omega) (by omega) (by omega) (by omega) (by omega), o (4 + k) (by omega) (by omega) (by omega) (by omega) (by omega), o (8 + k) (by omega) (by omega) (by omega) (by omega) (by omega), o (12 + k) (by omega) (by omega) (by omega) (by omega) (by omega), o (16 + k) (by omega) (by omega) (by omega) (by omega) (by omega), o (20 + k) (by omega) (by omega) (by omega) (by omega) (by omega)]
    exact q
  · rw [gN_35 h34 hH]
    exact ⟨hwb.1, by omega⟩
  · rw [gN_36 h34 hH]
    split
    · exact h36
    · rfl
  · rw [o2 37 (by decide) (by decide) (by decide) (by decide) (by decide) (by decide)]; exact h37
  · intro h hh
    rw [o2 (40 + h) (by omega) (by omega) (by omega) (by omega) (by omega) (by omega)]; exact hf h hh
  · rw [o2 32 (by decide) (by decide) (by decide) (by decide) (by decide) (by decide)]; exact h32
  · rw [o2 33 (by decide) (by decide) (by decide) (by decide) (by decide) (by decide)]; exact h33
  · rw [gN_38 h34 hH, h38]
    show _ = dkN (goN s) H + (if 0 < goN s (88 + 6 * H + 1) then 1 else 0)
    rw [gN_r1 h34 hH, dkN_c H (fun h hh => gN_row h34 hH (by omega) (by decide))]
    generalize shO (wuF s) (gAll s) (gMask s) 8 = x
    by_cases q : x ≤ 0
    · rw [if_pos q, if_neg (Int32.not_lt.mpr q)]
    · rw [if_neg q, if_pos (Int32.not_le.mp q)]
  · rw [gN_39 h34 hH]
    show _ + (sfN (goN s) H + goN s (88 + 6 * H + 4)) = nI (H + 1)
    rw [gN_r4 h34 hH, sfN_c H (fun h hh => gN_row h34 hH (by omega) (by decide)), nI_succ, ← h39]
    generalize shO (wuF s) (gAll s) (gMask s) 11 = x
    by_cases q : x = 0
    · rw [if_pos q, if_pos q]; grind
    · rw [if_neg q, if_neg q]; grind
  · intro h hh
    by_cases e : h = H
    · subst e
      rw [gN_r4 h34 hH]
      split <;> rfl
    · rw [gN_row h34 hH e (by decide)]
      exact hr h (by omega)
theorem goM_s {n : Nat} {s : Nat → Int32} : goM (n + 1) s = goM n (goN s) := rfl
theorem Vs_goM : ∀ (n : Nat) {s : Nat → Int32} {H : Nat}, Vs s H → H + n ≤ 48 → Vs (goM n s) (H + n)
  | 0, s, H, h, _ => h
  | n + 1, s, H, h, hn => by
    rw [goM_s]
    have q := Vs_goM n (Vs_go h (by omega)) (by omega)
    rw [show H + (n + 1) = H + 1 + n by omega]
    exact q
/-- the class's island behind an hour -/
theorem wcF_o {s : Nat → Int32} {j : Nat} (h1 : j ≠ 35) (h2 : j ≠ 36) : wcF s j = s j := by
  unfold wcF; simp only [upd]; rw [if_neg h2, if_neg h1]
theorem wcF_35 {s : Nat → Int32} : wcF s 35 = cWa s := by
  unfold wcF; simp only [upd]; rw [if_neg (by decide), if_pos trivial]
theorem wcF_36 {s : Nat → Int32} : wcF s 36 = if s 36 = 0 then (if cWa s ≤ s 33 then 0 else 1) else 1 := by
  unfold wcF; simp only [upd]; rw [if_pos trivial]
theorem cWa_c {a b : Nat → Int32} (h35 : a 35 = b 35) (h37 : a 37 = b 37) : cWa a = cWa b := by unfold cWa; rw [h35, h37]
theorem mul0_10 {a : Int32} : a * 0 / 10 = 0 := by
  rw [Int32.mul_zero]; rfl
theorem cgo_eq {s ld sh : Nat → Int32} {H : Nat} (hV : Vs s H) (hH : H < 48) (hl : ∀ j, j < 4 → ld j = shL (wuF s) (gAll s) (gMask s) j) (h1 : sh 1 = shO (wuF s) (gAll s) (gMask s) 8) (h2 : sh 2 = shO (wuF s) (gAll s) (gMask s) 9) (h3 : sh 3 = shO (wuF s) (gAll s) (gMask s) 10) (h4 : sh 4 = shO (wuF s) (gAll s) (gMask s) 11) : ∀ j, vis j → upd (wcF (bfA (crcF (wuF s) sh H (gAll s) (gMask s)) ld)) 34 (nI H + 1) j = goN s j := by
  intro j hj
  obtain ⟨hk, ⟨h34, hle⟩, h35, h36, h37, hf, h32, h33, h38, h39, hr⟩ := hV
  rw [crcF_n, h1, h2, h3, h4]
  obtain ⟨m0, m1, m2, m3⟩ := mkF_hs (ph := fun j => wuF s (16 + j)) (w := 2)
  change hs (gMask s) 0 = decide (wuF s 16 = 2) at m0
  change hs (gMask s) 1 = decide (wuF s 17 = 2) at m1
  change hs (gMask s) 2 = decide (wuF s 18 = 2) at m2
  change hs (gMask s) 3 = decide (wuF s 19 = 2) at m3
  obtain ⟨n0, n1, n2, n3⟩ := shL_0 (s := wuF s) (all := gAll s) (m := gMask s) (mkF_m _ _)
  generalize hO1 : shO (wuF s) (gAll s) (gMask s) 8 = O1
  generalize hO2 : shO (wuF s) (gAll s) (gMask s) 9 = O2
  generalize hO3 : shO (wuF s) (gAll s) (gMask s) 10 = O3
  generalize hO4 : shO (wuF s) (gAll s) (gMask s) 11 = O4
  generalize hX : rcN (wuF s) H (gAll s) O1 O2 O3 (if O4 = 0 then 0 else 1) (gMask s) = X
  have hXo : ∀ j, (j < 88 + 6 * H ∨ 88 + 6 * H + 6 ≤ j) → X j = wuF s j := fun j h => by rw [← hX]; exact rcN_o h
  have hXs : ∀ j, (24 ≤ j ∧ j < 88) → X j = s j := fun j h => by rw [hXo j (by omega), wuF_o (by omega)]
  have hYo : ∀ j, (j < 24 ∨ 32 ≤ j) → bfA X ld j = X j := fun j h => bfA_o h
  by_cases e : j = 34
  · subst e; rw [gN_34 h34 hH, nI_succ]; rfl
  have hu : upd (wcF (bfA X ld)) 34 (nI H + 1) j = wcF (bfA X ld) j := if_neg e
  rw [hu]
  have cw : cWa (bfA X ld) = wmv s := by
    rw [cWa_c (b := s) (by rw [hYo _ (by decide), hXs _ (by decide)]) (by rw [hYo _ (by decide), hXs _ (by decide)])]
    exact wmv_eq h37 h35.1
  by_cases e35 : j = 35
  · subst e35; rw [wcF_35, gN_35 h34 hH, cw]
  by_cases e36 : j = 36
  · subst e36
    rw [wcF_36, gN_36 h34 hH, cw, hYo _ (by decide), hXs _ (by decide), hYo _ (by decide), hXs _ (by decide)]
    rcases isB_or h36 with e | e <;> rw [e]
    · rw [if_pos rfl]
    · rw [if_neg (by decide)]; split <;> rfl
  rw [wcF_o e35 e36]
  by_cases c1 : 24 ≤ j ∧ j < 32
  · have hc : j = 24 ∨ j = 25 ∨ j = 26 ∨ j = 27 ∨ j = 28 ∨ j = 29 ∨ j = 30 ∨ j = 31 := by omega
    rcases hc with e | e | e | e | e | e | e | e <;> subst e
    · rw [bfA_a0, gN_a0 h34 hH, hXo 16 (by omega), hXs 24 (by decide), hXo 8 (by omega), wuF_o (k := 8) (by decide), hl 0 (by decide)]
      by_cases q : wuF s 16 = 2
      · rw [if_pos q]
      · rw [if_neg q, n0 (by rw [m0, decide_eq_false q]), mul0_10, Int32.add_zero]
    · rw [bfA_a1, gN_a1 h34 hH, hXo 17 (by omega), hXs 25 (by decide), hXo 9 (by omega), wuF_o (k := 9) (by decide), hl 1 (by decide)]
      by_cases q : wuF s 17 = 2
      · rw [if_pos q]
      · rw [if_neg q, n1 (by rw [m1, decide_eq_false q]), mul0_10, Int32.add_zero]
    · rw [bfA_a2, gN_a2 h34 hH, hXo 18 (by omega), hXs 26 (by decide), hXo 10 (by omega), wuF_o (k := 10) (by decide), hl 2 (by decide)]
      by_cases q : wuF s 18 = 2
      · rw [if_pos q]
      · rw [if_neg q, n2 (by rw [m2, decide_eq_false q]), mul0_10, Int32.add_zero]
    · rw [bfA_a3, gN_a3 h34 hH, hXo 19 (by omega), hXs 27 (by decide), hXo 11 (by omega), wuF_o (k := 11) (by decide), hl 3 (by decide)]
      by_cases q : wuF s 19 = 2
      · rw [if_pos q]
      · rw [if_neg q, n3 (by rw [m3, decide_eq_false q]), mul0_10, Int32.add_zero]
    · rw [bfA_b0, gN_b0 h34 hH, hXo 16 (by omega), hXs 28 (by decide), m0]
      by_cases q : wuF s 16 = 2
      · rw [if_pos q, if_pos (decide_eq_true q)]
      · rw [if_neg q, if_neg (by rw [decide_eq_false q]; decide), Int32.add_zero]
    · rw [bfA_b1, gN_b1 h34 hH, hXo 17 (by omega), hXs 29 (by decide), m1]
      by_cases q : wuF s 17 = 2
      · rw [if_pos q, if_pos (decide_eq_true q)]
      · rw [if_neg q, if_neg (by rw [decide_eq_false q]; decide), Int32.add_zero]
    · rw [bfA_b2, gN_b2 h34 hH, hXo 18 (by omega), hXs 30 (by decide), m2]
      by_cases q : wuF s 18 = 2
      · rw [if_pos q, if_pos (decide_eq_true q)]
      · rw [if_neg q, if_neg (by rw [decide_eq_false q]; decide), Int32.add_zero]
    · rw [bfA_b3, gN_b3 h34 hH, hXo 19 (by omega), hXs 31 (by decide), m3]
      by_cases q : wuF s 19 = 2
      · rw [if_pos q, if_pos (decide_eq_true q)]
      · rw [if_neg q, if_neg (by rw [decide_eq_false q]; decide), Int32.add_zero]
  rw [hYo j (by omega)]
  by_cases c2 : 88 + 6 * H ≤ j ∧ j < 88 + 6 * H + 6
  · obtain ⟨i, hi, rfl⟩ : ∃ i, i < 6 ∧ j = 88 + 6 * H + i := ⟨j - (88 + 6 * H), by omega, by omega⟩
    have hc : i = 0 ∨ i = 1 ∨ i = 2 ∨ i = 3 ∨ i = 4 ∨ i = 5 := by omega
    rcases hc with e | e | e | e | e | e <;> subst e
    · rw [gN_r0 h34 hH, ← hX, rcN_0]
    · rw [gN_r1 h34 hH, ← hX, rcN_1, hO1]
    · rw [gN_r2 h34 hH, ← hX, rcN_2, hO2]
    · rw [gN_r3 h34 hH, ← hX, rcN_3, hO3]
    · rw [gN_r4 h34 hH, ← hX, rcN_4, hO4]
    · rw [gN_r5 h34 hH, ← hX, rcN_5]
  rw [hXo j (by omega), gN_o h34 hH (by omega) (by omega) hj.2.1 hj.2.2 (by omega)]

