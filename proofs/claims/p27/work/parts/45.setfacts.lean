/-! PURE: what the law's first check asks -/
section SF
variable {s : Nat → Int32} {H k : Nat}
theorem run_m {s : Nat → Int32} : runF s ∈ m16 := mkF_m _ _
theorem run_hs (hk : k < 4) : hs (runF s) (nI k) = decide (s (16 + k) = 2) := by
  obtain ⟨a, b, c, d⟩ := mkF_hs (ph := fun j => s (16 + j)) (w := 2)
  rcases (show k = 0 ∨ k = 1 ∨ k = 2 ∨ k = 3 by omega) with e | e | e | e <;> subst e
  · exact a
  · exact b
  · exact c
  · exact d
theorem run_t (hk : k < 4) (hp : s (16 + k) = 2) : hs (runF s) (nI k) = true := by rw [run_hs hk]; exact decide_eq_true hp
theorem run_n (hk : k < 4) (hp : ¬ s (16 + k) = 2) : hs (runF s) (nI k) = false := by rw [run_hs hk]; exact decide_eq_false hp
theorem run_b (hk : k < 4) (h : hs (runF s) (nI k) = true) : s (16 + k) = 2 := by rw [run_hs hk] at h; exact of_decide_eq_true h
theorem ld_ge (hV : Vs s H) (hk : k < 4) (hp : s (16 + k) = 2) : ¬ shL s (aA s) (runF s) k < s (4 + k) := by
  have q := (sh_loads hV.1 run_m (aA_b hV)).1 k hk (run_t hk hp)
  rw [Int32.lt_iff_toInt_lt]
  omega
theorem ld_le (hV : Vs s H) (hk : k < 4) (hp : s (16 + k) = 2) : ¬ s k < shL s (aA s) (runF s) k := by
  have q := (sh_loads hV.1 run_m (aA_b hV)).1 k hk (run_t hk hp)
  rw [Int32.lt_iff_toInt_lt]
  omega
theorem ld_z (hV : Vs s H) (hk : k < 4) (hp : ¬ s (16 + k) = 2) : shL s (aA s) (runF s) k = 0 := (sh_loads hV.1 run_m (aA_b hV)).2.1 k hk (run_n hk hp)
theorem wu_iff (hV : Vs s H) (hX : Xs s H) (hk : k < 4) : (if s (16 + k) = 1 then (1 : Int32) else 0) = (if s (20 + k) ≤ 0 then 0 else 1) := by
  obtain ⟨-, -, -, -, -, a, -⟩ := hV.1 k hk
  obtain ⟨b, -⟩ := hX.1 k hk
  by_cases e : s (16 + k) = 1
  · have z := Int32.lt_iff_toInt_lt.mp (a e)
    rw [if_pos e, if_neg (fun y => by
      have y' := Int32.le_iff_toInt_le.mp y
      omega)]
  · rw [if_neg e, if_pos (by rw [b e]; exact Int32.le_refl 0)]
theorem lf_le (hX : Xs s H) (hk : k < 4) : ¬ s (12 + k) < s (20 + k) := by
  obtain ⟨-, b, -⟩ := hX.1 k hk
  rw [Int32.lt_iff_toInt_lt]
  omega
theorem rh_le (hV : Vs s H) (hX : Xs s H) (hk : k < 4) : ¬ nI H < s (28 + k) := by
  obtain ⟨-, -, -, b⟩ := hX.1 k hk
  have := hV.2.1.2
  rw [Int32.lt_iff_toInt_lt, nI_toInt (by omega)]
  omega
def rnS (s : Nat → Int32) : Nat → Int32
  | 0 => 0
  | k + 1 => rnS s k + (if s (16 + k) = 2 then 1 else 0)
def wmS (s : Nat → Int32) : Nat → Int32
  | 0 => 0
  | k + 1 => wmS s k + (if s (16 + k) = 1 then 1 else 0)
def rvT (s : Nat → Int32) (k : Nat) : Int32 := if s (16 + k) = 2 then s k - shL s (aA s) (runF s) k else 0
def rvS (s : Nat → Int32) : Nat → Int32
  | 0 => 0
  | k + 1 => rvS s k + rvT s k
def cdT (s : Nat → Int32) (k : Nat) : Int32 := if s (16 + k) = 2 then s k else 0
def cdS (s : Nat → Int32) : Nat → Int32
  | 0 => 0
  | k + 1 => cdS s k + cdT s k
def ldS (s : Nat → Int32) : Nat → Int32
  | 0 => 0
  | k + 1 => ldS s k + shL s (aA s) (runF s) k
def flS (s : Nat → Int32) : Nat → Int32
  | 0 => 0
  | k + 1 => flS s k + s (24 + k)
def enT (s : Nat → Int32) (k : Nat) (e : Int32) : Int32 := if e = 0 then 0 else if s (16 + k) = 2 then (if cdS s 4 - cdT s k < aA s then 0 else 1) else 1
def enS (s : Nat → Int32) : Nat → Int32
  | 0 => if shO s (aA s) (runF s) 8 = 0 then 1 else 0
  | k + 1 => enT s k (enS s k)
theorem cdT_I (hV : Vs s H) (hk : k < 4) : (cdT s k).toInt = bI (hs (runF s) (nI k)) (s k).toInt ∧ 0 ≤ (cdT s k).toInt ∧ (cdT s k).toInt ≤ 500 := by
  have a := okk_g hV.1 hk
  unfold cdT
  by_cases e : s (16 + k) = 2
  · rw [if_pos e, run_t hk e]
    exact ⟨rfl, by omega, by omega⟩
  · rw [if_neg e, run_n hk e]
    exact ⟨rfl, by decide, by decide⟩
theorem cdS_I (hV : Vs s H) : (cdS s 4).toInt = (cdT s 0).toInt + (cdT s 1).toInt + (cdT s 2).toInt + (cdT s 3).toInt ∧ (cdS s 4).toInt = gS (runF s) s := by
  have a0 := cdT_I hV (k := 0) (by decide)
  have a1 := cdT_I hV (k := 1) (by decide)
  have a2 := cdT_I hV (k := 2) (by decide)
  have a3 := cdT_I hV (k := 3) (by decide)
  have g : gS (runF s) s = bI (hs (runF s) (nI 0)) (s 0).toInt + bI (hs (runF s) (nI 1)) (s 1).toInt + bI (hs (runF s) (nI 2)) (s 2).toInt + bI (hs (runF s) (nI 3)) (s 3).toInt := rfl
  show (0 + cdT s 0 + cdT s 1 + cdT s 2 + cdT s 3).toInt = _ ∧ (0 + cdT s 0 + cdT s 1 + cdT s 2 + cdT s 3).toInt = _
  generalize cdT s 0 = x0 at *
  generalize cdT s 1 = x1 at *
  generalize cdT s 2 = x2 at *
  generalize cdT s 3 = x3 at *
  have d0 : (0 + x0).toInt = (0 : Int32).toInt + x0.toInt := i_add (by rw [t0]; omega) (by rw [t0]; omega)
  rw [t0] at d0
  have d1 : (0 + x0 + x1).toInt = (0 + x0).toInt + x1.toInt := i_add (by omega) (by omega)
  have d2 : (0 + x0 + x1 + x2).toInt = (0 + x0 + x1).toInt + x2.toInt := i_add (by omega) (by omega)
  have d3 : (0 + x0 + x1 + x2 + x3).toInt = (0 + x0 + x1 + x2).toInt + x3.toInt := i_add (by omega) (by omega)
  omega
theorem msk_hs : m16.all (fun m => (List.range 4).all (fun k => (List.range 4).all (fun j => decide (m &&& mskV k ∈ m16) && decide (hs (m &&& mskV k) (nI j) = (hs m (nI j) && decide (j ≠ k)))))) = true := by decide +kernel
theorem msk_h {m : Int32} {j : Nat} (hm : m ∈ m16) (hk : k < 4) (hj : j < 4) : m &&& mskV k ∈ m16 ∧ hs (m &&& mskV k) (nI j) = (hs m (nI j) && decide (j ≠ k)) := by
  have q := List.all_eq_true.mp (List.all_eq_true.mp (List.all_eq_true.mp msk_hs m hm) k (List.mem_range.mpr hk)) j (List.mem_range.mpr hj)
  obtain ⟨a, b⟩ := Bool.and_eq_true_iff.mp q
  exact ⟨of_decide_eq_true a, of_decide_eq_true b⟩
theorem bI_f {x : Int} : bI false x = 0 := rfl
theorem dw_eq (hV : Vs s H) (hk : k < 4) : dwV s k = if aA s ≤ cdS s 4 - cdT s k then 0 else aA s - (cdS s 4 - cdT s k) := by
  have hm := run_m (s := s)
  refine sh_darkL hV.1 (msk_h hm hk hk).1 (aA_b hV) ?_
  have a0 := cdT_I hV (k := 0) (by decide)
  have a1 := cdT_I hV (k := 1) (by decide)
  have a2 := cdT_I hV (k := 2) (by decide)
  have a3 := cdT_I hV (k := 3) (by decide)
  have ak := cdT_I hV hk
  have c := (cdS_I hV).1
  have d : (cdS s 4 - cdT s k).toInt = (cdS s 4).toInt - (cdT s k).toInt := i_sub (by omega) (by omega)
  have g : gS (runF s &&& mskV k) s = bI (hs (runF s &&& mskV k) (nI 0)) (s 0).toInt + bI (hs (runF s &&& mskV k) (nI 1)) (s 1).toInt + bI (hs (runF s &&& mskV k) (nI 2)) (s 2).toInt + bI (hs (runF s &&& mskV k) (nI 3)) (s 3).toInt := rfl
  rw [(msk_h hm hk (j := 0) (by decide)).2, (msk_h hm hk (j := 1) (by decide)).2, (msk_h hm hk (j := 2) (by decide)).2, (msk_h hm hk (j := 3) (by decide)).2] at g
  rw [d, g, c]
  rcases (show k = 0 ∨ k = 1 ∨ k = 2 ∨ k = 3 by omega) with e | e | e | e <;> subst e <;> simp only [ne_eq, not_true_eq_false, decide_false, Bool.and_false, bI_f, Nat.reduceEqDiff, not_false_eq_true, decide_true, Bool.and_true, Nat.zero_ne_one, Nat.one_ne_zero, reduceCtorEq] <;> omega
theorem mer_ok {j : Nat} (hV : Vs s H) (hk : k < 4) (hj : j < 4) (hp : s (16 + k) = 2) (hq : s (16 + j) = 2) (hc : s (8 + k) < s (8 + j) ∨ (s (8 + k) = s (8 + j) ∧ ¬ nI j ≤ nI k)) : shL s (aA s) (runF s) j = s (4 + j) ∨ shL s (aA s) (runF s) k = s k := by
  have q := (sh_loads hV.1 run_m (aA_b hV)).2.2.1 k j hk hj (run_t hk hp) (run_t hj hq) (by
    unfold chp
    rcases hc with c | ⟨c, d⟩
    · exact Or.inl (Int32.lt_iff_toInt_lt.mp c)
    · refine Or.inr ⟨congrArg Int32.toInt c, ?_⟩
      refine Nat.lt_of_not_le fun z => d (nI_le z (by omega)))
  rcases q with q | q
  · exact Or.inl q
  · exact Or.inr (Int32.toInt_inj.mp q)
theorem rn_man : rnS s 4 = manF (runF s) := by
  show 0 + (if s 16 = 2 then (1 : Int32) else 0) + (if s 17 = 2 then 1 else 0) + (if s 18 = 2 then 1 else 0) + (if s 19 = 2 then 1 else 0) = manF (mkF (fun j => s (16 + j)) 2)
  unfold mkF mkS
  by_cases h0 : s 16 = 2 <;> by_cases h1 : s 17 = 2 <;> by_cases h2 : s 18 = 2 <;> by_cases h3 : s 19 = 2 <;> simp only [h0, h1, h2, h3, if_true, if_false] <;> decide
theorem wm_wrm : wmS s 4 = wrmN s := rfl
theorem fl_ful : flS s 4 = fulF s := by
  show 0 + s 24 + s 25 + s 26 + s 27 = s 24 + s 25 + s 26 + s 27
  rw [Int32.zero_add]
theorem rv_res (hV : Vs s H) : rvS s 4 = shO s (aA s) (runF s) 10 := by
  have x : ∀ k, k < 4 → (rvT s k).toInt = bI (hs (runF s) (nI k)) (s k).toInt - (shL s (aA s) (runF s) k).toInt ∧ 0 ≤ (rvT s k).toInt ∧ (rvT s k).toInt ≤ 500 := by
    intro k hk
    have a := okk_g hV.1 hk
    unfold rvT
    by_cases e : s (16 + k) = 2
    · have b := sh_bd hV.1 (run_m (s := s)) (aA_b hV) hk
      have q := (sh_loads hV.1 run_m (aA_b hV)).1 k hk (run_t hk e)
      rw [if_pos e, run_t hk e, i_sub (by omega) (by omega)]
      exact ⟨rfl, by omega, by omega⟩
    · rw [if_neg e, run_n hk e, ld_z hV hk e]
      exact ⟨rfl, by decide, by decide⟩
  have x0 := x 0 (by decide)
  have x1 := x 1 (by decide)
  have x2 := x 2 (by decide)
  have x3 := x 3 (by decide)
  have g : gS (runF s) s = bI (hs (runF s) (nI 0)) (s 0).toInt + bI (hs (runF s) (nI 1)) (s 1).toInt + bI (hs (runF s) (nI 2)) (s 2).toInt + bI (hs (runF s) (nI 3)) (s 3).toInt := rfl
  rw [← Int32.toInt_inj, sh_res hV.1 run_m (aA_b hV)]
  show (0 + rvT s 0 + rvT s 1 + rvT s 2 + rvT s 3).toInt = _
  generalize rvT s 0 = y0 at *
  generalize rvT s 1 = y1 at *
  generalize rvT s 2 = y2 at *
  generalize rvT s 3 = y3 at *
  have d0 : (0 + y0).toInt = (0 : Int32).toInt + y0.toInt := i_add (by rw [t0]; omega) (by rw [t0]; omega)
  rw [t0] at d0
  have d1 : (0 + y0 + y1).toInt = (0 + y0).toInt + y1.toInt := i_add (by omega) (by omega)
  have d2 : (0 + y0 + y1 + y2).toInt = (0 + y0 + y1).toInt + y2.toInt := i_add (by omega) (by omega)
  have d3 : (0 + y0 + y1 + y2 + y3).toInt = (0 + y0 + y1 + y2).toInt + y3.toInt := i_add (by omega) (by omega)
  omega
theorem ld_sum (hV : Vs s H) : ldS s 4 + shO s (aA s) (runF s) 8 = aA s + shO s (aA s) (runF s) 9 := by
  have b0 := sh_bd hV.1 (run_m (s := s)) (aA_b hV) (k := 0) (by decide)
  have b1 := sh_bd hV.1 (run_m (s := s)) (aA_b hV) (k := 1) (by decide)
  have b2 := sh_bd hV.1 (run_m (s := s)) (aA_b hV) (k := 2) (by decide)
  have b3 := sh_bd hV.1 (run_m (s := s)) (aA_b hV) (k := 3) (by decide)
  have hA := aA_b hV
  obtain ⟨-, -, -, q4, -, q6⟩ := sh_loads hV.1 (run_m (s := s)) hA
  have hg := (sLeft_I (m := runF s) hV.1 hA).2
  rw [← Int32.toInt_inj]
  show (0 + shL s (aA s) (runF s) 0 + shL s (aA s) (runF s) 1 + shL s (aA s) (runF s) 2 + shL s (aA s) (runF s) 3 + shO s (aA s) (runF s) 8).toInt = _
  generalize shL s (aA s) (runF s) 0 = y0 at *
  generalize shL s (aA s) (runF s) 1 = y1 at *
  generalize shL s (aA s) (runF s) 2 = y2 at *
  generalize shL s (aA s) (runF s) 3 = y3 at *
  generalize shO s (aA s) (runF s) 8 = y8 at *
  generalize shO s (aA s) (runF s) 9 = y9 at *
  have d0 : (0 + y0).toInt = (0 : Int32).toInt + y0.toInt := i_add (by rw [t0]; omega) (by rw [t0]; omega)
  rw [t0] at d0
  have d1 : (0 + y0 + y1).toInt = (0 + y0).toInt + y1.toInt := i_add (by omega) (by omega)
  have d2 : (0 + y0 + y1 + y2).toInt = (0 + y0 + y1).toInt + y2.toInt := i_add (by omega) (by omega)
  have d3 : (0 + y0 + y1 + y2 + y3).toInt = (0 + y0 + y1 + y2).toInt + y3.toInt := i_add (by omega) (by omega)
  have d4 : (0 + y0 + y1 + y2 + y3 + y8).toInt = (0 + y0 + y1 + y2 + y3).toInt + y8.toInt := i_add (by omega) (by omega)
  rcases q6 with ⟨a, b, c, d⟩ | ⟨a, b, c⟩
  · have d5 : (aA s + y9).toInt = (aA s).toInt + y9.toInt := i_add (by omega) (by omega)
    omega
  · rw [c, Int32.add_zero]
    omega
theorem dk_bu (hV : Vs s H) (h : ¬ shO s (aA s) (runF s) 8 = 0) : shO s (aA s) (runF s) 9 = 0 := by
  rcases sh_row hV.1 (run_m (s := s)) (aA_b hV) with q | q
  · exact absurd q h
  · exact q.2.1
theorem enS_iff : ∀ n : Nat, (enS s n = 0 ∨ enS s n = 1) ∧ (¬ enS s n = 0 ↔ (shO s (aA s) (runF s) 8 = 0 ∧ ∀ k, k < n → s (16 + k) = 2 → ¬ cdS s 4 - cdT s k < aA s))
  | 0 => by
    show ((if shO s (aA s) (runF s) 8 = 0 then (1 : Int32) else 0) = 0 ∨ _) ∧ (¬ (if shO s (aA s) (runF s) 8 = 0 then (1 : Int32) else 0) = 0 ↔ _)
    by_cases e : shO s (aA s) (runF s) 8 = 0
    · rw [if_pos e]
      exact ⟨Or.inr (if_pos e), fun _ => ⟨e, fun k hk => absurd hk (by omega)⟩, fun _ => by decide⟩
    · rw [if_neg e]
      exact ⟨Or.inl rfl, fun z => absurd rfl z, fun z => absurd z.1 e⟩
  | n + 1 => by
    obtain ⟨h1, h2⟩ := enS_iff n
    have key : enS s (n + 1) = enT s n (enS s n) := rfl
    rw [key]
    unfold enT
    by_cases e : enS s n = 0
    · rw [if_pos e]
      refine ⟨Or.inl rfl, fun z => absurd rfl z, fun z => ?_⟩
      exact absurd e (h2.mpr ⟨z.1, fun k hk => z.2 k (by omega)⟩)
    · rw [if_neg e]
      obtain ⟨g1, g2⟩ := h2.mp e
      by_cases p : s (16 + n) = 2
      · rw [if_pos p]
        by_cases c : cdS s 4 - cdT s n < aA s
        · rw [if_pos c]
          exact ⟨Or.inl rfl, fun z => absurd rfl z, fun z => absurd c (z.2 n (by omega) p)⟩
        · rw [if_neg c]
          refine ⟨Or.inr rfl, fun _ => ⟨g1, fun k hk hp => ?_⟩, fun _ => by decide⟩
          by_cases ek : k = n
          · subst ek; exact c
          · exact g2 k (by omega) hp
      · rw [if_neg p]
        refine ⟨Or.inr rfl, fun _ => ⟨g1, fun k hk hp => ?_⟩, fun _ => by decide⟩
        by_cases ek : k = n
        · subst ek; exact absurd hp p
        · exact g2 k (by omega) hp
theorem en_eq (hV : Vs s H) : (if en7 s = 1 then (1 : Int32) else 0) = enS s 4 := by
  obtain ⟨h1, h2⟩ := enS_iff (s := s) 4
  have hC : sCould (md g0 s) (runF s) = cdS s 4 := by
    rw [← Int32.toInt_inj, (sCould_I hV.1).1, (cdS_I hV).2]
  have q := sh_enN (s := s) (A := aA s) (m := runF s)
  rw [hC] at q
  have e2 : (∀ k, k < 4 → hs (runF s) (nI k) = true → ¬ cdS s 4 - s k < aA s) ↔ (∀ k, k < 4 → s (16 + k) = 2 → ¬ cdS s 4 - cdT s k < aA s) := by
    constructor
    · intro z k hk hp
      unfold cdT
      rw [if_pos hp]
      exact z k hk (run_t hk hp)
    · intro z k hk hh
      have y := z k hk (run_b hk hh)
      unfold cdT at y
      rw [if_pos (run_b hk hh)] at y
      exact y
  have e3 : ¬ shO s (aA s) (runF s) 11 = 0 ↔ ¬ enS s 4 = 0 := by
    rw [q, h2, e2]
  unfold en7
  by_cases e : shO s (aA s) (runF s) 11 = 0
  · rw [if_pos e, if_neg (by decide)]
    by_cases z : enS s 4 = 0
    · exact z.symm
    · exact absurd e (e3.mpr z)
  · rw [if_neg e, if_pos rfl]
    rcases h1 with z | z
    · exact absurd z (e3.mp e)
    · exact z.symm
end SF
