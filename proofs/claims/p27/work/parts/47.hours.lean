/-! THE LAW: the hours -/
def dkL (s : Nat → Int32) (H : Nat) : Nat → Int32
  | 0 => 0
  | n + 1 => dkL s H n + (if n < H then (if s (88 + 6 * n + 1) ≤ 0 then 0 else 1) else 0)
def unL (s : Nat → Int32) (H : Nat) : Nat → Int32
  | 0 => 0
  | n + 1 => unL s H n + (if n < H then (if s (88 + 6 * n + 4) = 0 then 1 else 0) else 0)
section HF
variable {s : Nat → Int32} {H h : Nat}
theorem dkL_o (hh : h < H) : dkL s H (h + 1) = dkL s H h + (if s (88 + 6 * h + 1) ≤ 0 then 0 else 1) := by
  show dkL s H h + (if h < H then (if s (88 + 6 * h + 1) ≤ 0 then 0 else 1) else 0) = _
  rw [if_pos hh]
theorem dkL_n (hh : ¬ h < H) : dkL s H (h + 1) = dkL s H h + 0 := by
  show dkL s H h + (if h < H then (if s (88 + 6 * h + 1) ≤ 0 then 0 else 1) else 0) = _
  rw [if_neg hh]
theorem unL_o (hh : h < H) : unL s H (h + 1) = unL s H h + (if s (88 + 6 * h + 4) = 0 then 1 else 0) := by
  show unL s H h + (if h < H then (if s (88 + 6 * h + 4) = 0 then 1 else 0) else 0) = _
  rw [if_pos hh]
theorem unL_1 (hh : h < H) (h4 : s (88 + 6 * h + 4) = 0) : unL s H (h + 1) = unL s H h + 1 := by
  rw [unL_o hh, if_pos h4]
theorem unL_n (hh : ¬ h < H) : unL s H (h + 1) = unL s H h + 0 := by
  show unL s H h + (if h < H then (if s (88 + 6 * h + 4) = 0 then 1 else 0) else 0) = _
  rw [if_neg hh]
theorem dkL_lt : ∀ n : Nat, n ≤ H → dkL s H n = dkN s n
  | 0, _ => rfl
  | n + 1, hn => by
    rw [dkL_o (by omega), dkL_lt n (by omega)]
    show _ = dkN s n + (if 0 < s (88 + 6 * n + 1) then 1 else 0)
    by_cases e : s (88 + 6 * n + 1) ≤ 0
    · rw [if_pos e, if_neg (Int32.not_lt.mpr e)]
    · rw [if_neg e, if_pos (Int32.not_le.mp e)]
theorem dkL_ge : ∀ d : Nat, dkL s H (H + d) = dkL s H H
  | 0 => rfl
  | d + 1 => by
    rw [show H + (d + 1) = H + d + 1 by omega, dkL_n (by omega), dkL_ge d, Int32.add_zero]
theorem unL_ge : ∀ d : Nat, unL s H (H + d) = unL s H H
  | 0 => rfl
  | d + 1 => by
    rw [show H + (d + 1) = H + d + 1 by omega, unL_n (by omega), unL_ge d, Int32.add_zero]
theorem Vs_e4 (hV : Vs s H) (hh : h < H) : z_isB (s (88 + 6 * h + 4)) = true := hV.2.2.2.2.2.2.2.2.2.2 h hh
theorem unL_sf (hV : Vs s H) : ∀ n : Nat, n ≤ H → unL s H n + sfN s n = nI n
  | 0, _ => rfl
  | n + 1, hn => by
    have ih := unL_sf hV n (by omega)
    rw [unL_o (by omega)]
    show unL s H n + _ + (sfN s n + s (88 + 6 * n + 4)) = nI (n + 1)
    rw [nI_succ, ← ih]
    rcases isB_or (Vs_e4 hV (show n < H by omega)) with e | e
    · rw [if_pos e, e]
      grind
    · rw [if_neg (by rw [e]; decide), e]
      grind
theorem dkL_48 (hV : Vs s H) : dkL s H 48 = s 38 := by
  have hH := hV.2.1.2
  have z := dkL_ge (s := s) (H := H) (48 - H)
  rw [show H + (48 - H) = 48 by omega, dkL_lt H (Nat.le_refl _)] at z
  rw [z, Vs_dk hV]
theorem unL_48 (hV : Vs s H) : unL s H 48 = s 39 := by
  have hH := hV.2.1.2
  have z := unL_ge (s := s) (H := H) (48 - H)
  rw [show H + (48 - H) = 48 by omega] at z
  rw [z]
  have a := unL_sf hV H (Nat.le_refl _)
  have b : s 39 + sfN s H = nI H := hV.2.2.2.2.2.2.2.2.2.1
  have c : unL s H H + sfN s H = s 39 + sfN s H := a.trans b.symm
  grind
/-- dark hours and those with enough reserve are apart -/
theorem dk_sf (hV : Vs s H) (hX : Xs s H) : ∀ n : Nat, n ≤ H → 0 ≤ (dkN s n).toInt ∧ 0 ≤ (sfN s n).toInt ∧ (dkN s n).toInt + (sfN s n).toInt ≤ n
  | 0, _ => by
    show 0 ≤ (0 : Int32).toInt ∧ 0 ≤ (0 : Int32).toInt ∧ (0 : Int32).toInt + (0 : Int32).toInt ≤ ((0 : Nat) : Int)
    decide
  | n + 1, hn => by
    have hH := hV.2.1.2
    obtain ⟨a, b, c⟩ := dk_sf hV hX n (by omega)
    have t1 : (1 : Int32).toInt = 1 := rfl
    have dk : (dkN s (n + 1)).toInt = (dkN s n).toInt + (if 0 < s (88 + 6 * n + 1) then (1 : Int32) else 0).toInt := by
      show (dkN s n + (if 0 < s (88 + 6 * n + 1) then (1 : Int32) else 0)).toInt = _
      split
      · exact i_add (by rw [t1]; omega) (by rw [t1]; omega)
      · exact i_add (by rw [t0]; omega) (by rw [t0]; omega)
    have sf : (sfN s (n + 1)).toInt = (sfN s n).toInt + (s (88 + 6 * n + 4)).toInt := by
      show (sfN s n + s (88 + 6 * n + 4)).toInt = _
      rcases isB_or (Vs_e4 hV (show n < H by omega)) with e | e <;> rw [e]
      · exact i_add (by rw [t0]; omega) (by rw [t0]; omega)
      · exact i_add (by rw [t1]; omega) (by rw [t1]; omega)
    obtain ⟨r1, r2, r3⟩ := hX.2 n (by omega)
    rw [dk, sf]
    rcases r3 with e | ⟨e, -, -⟩
    · rw [if_neg (by rw [e]; decide), t0]
      rcases isB_or (Vs_e4 hV (show n < H by omega)) with z | z <;> rw [z]
      · rw [t0]; omega
      · rw [t1]; omega
    · rw [e, t0]
      split
      · rw [t1]; omega
      · rw [t0]; omega
theorem un_ge (hV : Vs s H) (hX : Xs s H) : ¬ s 39 < s 38 := by
  have hH := hV.2.1.2
  obtain ⟨a, b, c⟩ := dk_sf hV hX H (Nat.le_refl _)
  have e : s 39 + sfN s H = nI H := hV.2.2.2.2.2.2.2.2.2.1
  have e2 : s 39 = nI H - sfN s H := by grind
  have e3 : (nI H - sfN s H).toInt = (nI H).toInt - (sfN s H).toInt := i_sub (by rw [nI_toInt (by omega)]; omega) (by rw [nI_toInt (by omega)]; omega)
  rw [Int32.lt_iff_toInt_lt, e2, e3, nI_toInt (by omega), ← Vs_dk hV]
  omega
theorem sf_n (hV : Vs s H) (hX : Xs s H) : ∃ a : Nat, sfN s H = nI a ∧ a ≤ H := by
  have hH := hV.2.1.2
  obtain ⟨a, b, c⟩ := dk_sf hV hX H (Nat.le_refl _)
  refine ⟨(sfN s H).toInt.toNat, ?_, by omega⟩
  rw [← Int32.toInt_inj, nI_toInt (by omega)]
  omega
theorem ro_l (hX : Xs s H) (hh : h < H) : ¬ s (88 + 6 * h + 0) = (-1) := by
  intro e
  have z := (hX.2 h hh).1
  rw [e] at z
  exact absurd z (by decide)
theorem ro_d (hX : Xs s H) (hh : h < H) : ¬ s (88 + 6 * h + 1) < 0 := by
  have z := (hX.2 h hh).2.1
  rw [Int32.lt_iff_toInt_lt, t0]
  omega
theorem ro_4 (hX : Xs s H) (hh : h < H) (hd : ¬ s (88 + 6 * h + 1) = 0) : s (88 + 6 * h + 4) = 0 ∧ s (88 + 6 * h + 2) = 0 ∧ s (88 + 6 * h + 3) = 0 := (hX.2 h hh).2.2.resolve_left hd
theorem sp_lo : ∀ a, a < 49 → ∀ b, b < 49 → 0 < b → a ≤ b → ¬ Op.cmpValue (FP.dcmp (FP.ddiv (FP.i2d (nI a)) (FP.i2d (nI b))) 0) .l < 0 := by decide +kernel
theorem sp_hi : ∀ a, a < 49 → ∀ b, b < 49 → 0 < b → a ≤ b → ¬ 0 < Op.cmpValue (FP.dcmp (FP.ddiv (FP.i2d (nI a)) (FP.i2d (nI b))) 4607182418800017408) .g := by decide +kernel
theorem sp_lo1 : ¬ Op.cmpValue (FP.dcmp 0x3ff0000000000000 0) .l < 0 := by decide +kernel
theorem sp_hi1 : ¬ 0 < Op.cmpValue (FP.dcmp 0x3ff0000000000000 4607182418800017408) .g := by decide +kernel
theorem sp_ex {xs : Nat → Int32} {L : Nat} {q : List (Nat → Int32)} (hV : Vs s H) (hX : Xs s H) : ∃ x : UInt64, Cw xs L m_X4_safeShare [aR 0 16] s q (aD x) s q ∧ ¬ Op.cmpValue (FP.dcmp x 0) .l < 0 ∧ ¬ 0 < Op.cmpValue (FP.dcmp x 4607182418800017408) .g := by
  have hH := hV.2.1.2
  by_cases e : H = 0
  · subst e
    exact ⟨_, q_safe0 (Vs_34 hV), sp_lo1, sp_hi1⟩
  · obtain ⟨a, ha, haH⟩ := sf_n hV hX
    exact ⟨_, q_safe hV (by omega) ha haH, sp_lo a (by omega) H (by omega) (by omega) haH, sp_hi a (by omega) H (by omega) (by omega) haH⟩
end HF
theorem hr_0 {xs : Nat → Int32} {L : Nat} {r : AV} {P : Mem → Prop} {s : Nat → Int32} {q : List (Nat → Int32)} {H : Nat} {M : Mem} (hV : Vs s H) (hX : Xs s H) (x : UInt64) (hS : Cw xs L m_X4_safeShare [aR 0 16] s q (aD x) s q) (h1 : ¬ Op.cmpValue (FP.dcmp x 0) .l < 0) (h2 : ¬ 0 < Op.cmpValue (FP.dcmp x 4607182418800017408) .g)  (h0 : Wd s q M) (K : ∀ M', Wd s q M' → Fn xs L m_L_areHoursSo (46, [some (aR 0 16), some (aI (dkL s H 0)), some (aI (unL s H 0)), some (aI (1 : Int32)), some (aI (nI 0)), none, none], [], M') r P) : Fn xs L m_L_areHoursSo (0, [some (aR 0 16), none, none, none, none, none, none], [], M) r P := by
  refine Fn_blk 6 (c' := (7, [some (aR 0 16), some (aI (0 : Int32)), some (aI (0 : Int32)), none, none, none, none], [aI (12 : Int32), aR 0 16], M)) rfl trivial ?_
  refine Fn_call (m' := m_X4_count) (as := [aR 0 16, aI (12 : Int32)]) (rr := []) (q_count_12 hV) h0 rfl rfl (fun M1 w1 => ?_)
  refine Fn_blk 2 (c' := (13, [some (aR 0 16), some (aI (0 : Int32)), some (aI (0 : Int32)), none, none, none, none], [aI (11 : Int32), aR 0 16, aI (s 39)], M1)) rfl trivial ?_
  refine Fn_call (m' := m_X4_count) (as := [aR 0 16, aI (11 : Int32)]) (rr := [aI (s 39)]) (q_count_11 hV) w1 rfl rfl (fun M2 w2 => ?_)
  refine Fn_blk 1 (c' := ((if (s 39) < (s 38) then 41 else 19), [some (aR 0 16), some (aI (0 : Int32)), some (aI (0 : Int32)), none, none, none, none], [], M2)) rfl trivial ?_
  refine Fn_else (un_ge hV hX) ?_
  refine Fn_blk 1 (c' := (20, [some (aR 0 16), some (aI (0 : Int32)), some (aI (0 : Int32)), none, none, none, none], [aR 0 16], M2)) rfl trivial ?_
  refine Fn_call (m' := m_X4_safeShare) (as := [aR 0 16]) (rr := []) (hS) w2 rfl rfl (fun M3 w3 => ?_)
  refine Fn_blk 3 (c' := ((if (Op.cmpValue (FP.dcmp x (0 : UInt64)) .l) < 0 then 41 else 28), [some (aR 0 16), some (aI (0 : Int32)), some (aI (0 : Int32)), none, none, none, none], [], M3)) rfl trivial ?_
  refine Fn_else (h1) ?_
  refine Fn_blk 1 (c' := (29, [some (aR 0 16), some (aI (0 : Int32)), some (aI (0 : Int32)), none, none, none, none], [aR 0 16], M3)) rfl trivial ?_
  refine Fn_call (m' := m_X4_safeShare) (as := [aR 0 16]) (rr := []) (hS) w3 rfl rfl (fun M4 w4 => ?_)
  refine Fn_blk 3 (c' := ((if 0 < (Op.cmpValue (FP.dcmp x (4607182418800017408 : UInt64)) .g) then 41 else 37), [some (aR 0 16), some (aI (0 : Int32)), some (aI (0 : Int32)), none, none, none, none], [], M4)) rfl trivial ?_
  refine Fn_else (h2) ?_
  refine Fn_blk 5 (c' := (46, [some (aR 0 16), some (aI (0 : Int32)), some (aI (0 : Int32)), some (aI (1 : Int32)), some (aI (0 : Int32)), none, none], [], M4)) rfl trivial ?_
  exact Fn_eq (c := (46, [some (aR 0 16), some (aI (0 : Int32)), some (aI (0 : Int32)), some (aI (1 : Int32)), some (aI (0 : Int32)), none, none], [], M4)) (c' := (46, [some (aR 0 16), some (aI (dkL s H 0)), some (aI (unL s H 0)), some (aI (1 : Int32)), some (aI (nI 0)), none, none], [], M4)) (by rfl) (K _ w4)
theorem hr_t {xs : Nat → Int32} {L : Nat} {r : AV} {P : Mem → Prop} {s : Nat → Int32} {q : List (Nat → Int32)} {H : Nat} {M : Mem} (hV : Vs s H) (hX : Xs s H) {h : Nat} (h48 : h < 48) (hh : h < H) (hd : s (88 + 6 * h + 1) = 0)  (h0 : Wd s q M) (K : ∀ M', Wd s q M' → Fn xs L m_L_areHoursSo (46, [some (aR 0 16), some (aI (dkL s H (h + 1))), some (aI (unL s H (h + 1))), some (aI (1 : Int32)), some (aI (nI (h + 1))), none, none], [], M') r P) : Fn xs L m_L_areHoursSo (46, [some (aR 0 16), some (aI (dkL s H h)), some (aI (unL s H h)), some (aI (1 : Int32)), some (aI (nI h)), none, none], [], M) r P := by
  refine Fn_blk 3 (c' := ((if (48 : Int32) ≤ (nI h) then 224 else 53), [some (aR 0 16), some (aI (dkL s H h)), some (aI (unL s H h)), some (aI (1 : Int32)), some (aI (nI h)), none, none], [], M)) rfl trivial ?_
  refine Fn_else (nI_ge (b := 48) h48 (by decide)) ?_
  refine Fn_blk 3 (c' := (57, [some (aR 0 16), some (aI (dkL s H h)), some (aI (unL s H h)), some (aI (1 : Int32)), some (aI (nI h)), none, none], [aI (0 : Int32), aR 0 16, aI (nI h)], M)) rfl trivial ?_
  refine Fn_call (m' := m_X4_count) (as := [aR 0 16, aI (0 : Int32)]) (rr := [aI (nI h)]) (q_count_0 hV) h0 rfl rfl (fun M1 w1 => ?_)
  refine Fn_blk 1 (c' := ((if (nI H) ≤ (nI h) then 67 else 63), [some (aR 0 16), some (aI (dkL s H h)), some (aI (unL s H h)), some (aI (1 : Int32)), some (aI (nI h)), none, none], [], M1)) rfl trivial ?_
  refine Fn_else (nI_ge hh (by have := hV.2.1.2; omega)) ?_
  refine Fn_blk 6 (c' := (74, [some (aR 0 16), some (aI (dkL s H h)), some (aI (unL s H h)), some (aI (1 : Int32)), some (aI (nI h)), some (aI (1 : Int32)), none], [aI (2 : Int32), aI (nI h), aR 0 16], M1)) rfl trivial ?_
  refine Fn_call (m' := m_X4_hour) (as := [aR 0 16, aI (nI h), aI (2 : Int32)]) (rr := []) (q_hour_2 hV hh) w1 rfl rfl (fun M2 w2 => ?_)
  refine Fn_blk 4 (c' := ((if (1 : Int32) = 0 then 94 else 85), [some (aR 0 16), some (aI (dkL s H h)), some (aI (unL s H h)), some (aI (1 : Int32)), some (aI (nI h)), some (aI (1 : Int32)), some (aI (s (88 + 6 * h + 1)))], [aI (dkL s H h)], M2)) rfl trivial ?_
  refine Fn_else (by decide) ?_
  refine Fn_blk 2 (c' := ((if (s (88 + 6 * h + 1)) ≤ 0 then 94 else 90), [some (aR 0 16), some (aI (dkL s H h)), some (aI (unL s H h)), some (aI (1 : Int32)), some (aI (nI h)), some (aI (1 : Int32)), some (aI (s (88 + 6 * h + 1)))], [aI (dkL s H h)], M2)) rfl trivial ?_
  refine Fn_dia (n1 := 1) (n2 := 2) (pc := 95) (x := 0) (y := 1) rfl rfl ?_
  refine Fn_blk 5 (c' := ((if (1 : Int32) = 0 then 117 else 103), [some (aR 0 16), some (aI ((dkL s H h) + (if (s (88 + 6 * h + 1)) ≤ 0 then (0 : Int32) else (1 : Int32)))), some (aI (unL s H h)), some (aI (1 : Int32)), some (aI (nI h)), some (aI (1 : Int32)), some (aI (s (88 + 6 * h + 1)))], [aI (unL s H h)], M2)) rfl trivial ?_
  refine Fn_else (by decide) ?_
  refine Fn_blk 3 (c' := (107, [some (aR 0 16), some (aI ((dkL s H h) + (if (s (88 + 6 * h + 1)) ≤ 0 then (0 : Int32) else (1 : Int32)))), some (aI (unL s H h)), some (aI (1 : Int32)), some (aI (nI h)), some (aI (1 : Int32)), some (aI (s (88 + 6 * h + 1)))], [aI (5 : Int32), aI (nI h), aR 0 16, aI (unL s H h)], M2)) rfl trivial ?_
  refine Fn_call (m' := m_X4_hour) (as := [aR 0 16, aI (nI h), aI (5 : Int32)]) (rr := [aI (unL s H h)]) (q_hour_5 hV hh) w2 rfl rfl (fun M3 w3 => ?_)
  refine Fn_blk 1 (c' := ((if (s (88 + 6 * h + 4)) = 0 then 113 else 117), [some (aR 0 16), some (aI ((dkL s H h) + (if (s (88 + 6 * h + 1)) ≤ 0 then (0 : Int32) else (1 : Int32)))), some (aI (unL s H h)), some (aI (1 : Int32)), some (aI (nI h)), some (aI (1 : Int32)), some (aI (s (88 + 6 * h + 1)))], [aI (unL s H h)], M3)) rfl trivial ?_
  refine Fn_dia (n1 := 2) (n2 := 1) (pc := 118) (x := 1) (y := 0) rfl rfl ?_
  refine Fn_blk 4 (c' := ((if (1 : Int32) = 0 then 216 else 124), [some (aR 0 16), some (aI ((dkL s H h) + (if (s (88 + 6 * h + 1)) ≤ 0 then (0 : Int32) else (1 : Int32)))), some (aI ((unL s H h) + (if (s (88 + 6 * h + 4)) = 0 then (1 : Int32) else (0 : Int32)))), some (aI (1 : Int32)), some (aI (nI h)), some (aI (1 : Int32)), some (aI (s (88 + 6 * h + 1)))], [], M3)) rfl trivial ?_
  refine Fn_else (by decide) ?_
  refine Fn_blk 4 (c' := (130, [some (aR 0 16), some (aI ((dkL s H h) + (if (s (88 + 6 * h + 1)) ≤ 0 then (0 : Int32) else (1 : Int32)))), some (aI ((unL s H h) + (if (s (88 + 6 * h + 4)) = 0 then (1 : Int32) else (0 : Int32)))), some (aI (1 : Int32)), some (aI (nI h)), some (aI (1 : Int32)), some (aI (s (88 + 6 * h + 1)))], [aI (1 : Int32), aI (nI h), aR 0 16, aI (1 : Int32)], M3)) rfl trivial ?_
  refine Fn_call (m' := m_X4_hour) (as := [aR 0 16, aI (nI h), aI (1 : Int32)]) (rr := [aI (1 : Int32)]) (q_hour_1 hV hh) w3 rfl rfl (fun M4 w4 => ?_)
  refine Fn_blk 2 (c' := ((if (s (88 + 6 * h + 0)) = (-1 : Int32) then 141 else 137), [some (aR 0 16), some (aI ((dkL s H h) + (if (s (88 + 6 * h + 1)) ≤ 0 then (0 : Int32) else (1 : Int32)))), some (aI ((unL s H h) + (if (s (88 + 6 * h + 4)) = 0 then (1 : Int32) else (0 : Int32)))), some (aI (1 : Int32)), some (aI (nI h)), some (aI (1 : Int32)), some (aI (s (88 + 6 * h + 1)))], [aI (1 : Int32)], M4)) rfl trivial ?_
  refine Fn_else (ro_l hX hh) ?_
  refine Fn_blk 3 (c' := ((if (1 : Int32) = (1 : Int32) then 145 else 216), [some (aR 0 16), some (aI ((dkL s H h) + (if (s (88 + 6 * h + 1)) ≤ 0 then (0 : Int32) else (1 : Int32)))), some (aI ((unL s H h) + (if (s (88 + 6 * h + 4)) = 0 then (1 : Int32) else (0 : Int32)))), some (aI (1 : Int32)), some (aI (nI h)), some (aI (1 : Int32)), some (aI (s (88 + 6 * h + 1)))], [], M4)) rfl trivial ?_
  refine Fn_if (by decide) ?_
  refine Fn_blk 2 (c' := ((if (1 : Int32) = 0 then 193 else 150), [some (aR 0 16), some (aI ((dkL s H h) + (if (s (88 + 6 * h + 1)) ≤ 0 then (0 : Int32) else (1 : Int32)))), some (aI ((unL s H h) + (if (s (88 + 6 * h + 4)) = 0 then (1 : Int32) else (0 : Int32)))), some (aI (1 : Int32)), some (aI (nI h)), some (aI (1 : Int32)), some (aI (s (88 + 6 * h + 1)))], [], M4)) rfl trivial ?_
  refine Fn_else (by decide) ?_
  refine Fn_blk 2 (c' := ((if (s (88 + 6 * h + 1)) < 0 then 216 else 155), [some (aR 0 16), some (aI ((dkL s H h) + (if (s (88 + 6 * h + 1)) ≤ 0 then (0 : Int32) else (1 : Int32)))), some (aI ((unL s H h) + (if (s (88 + 6 * h + 4)) = 0 then (1 : Int32) else (0 : Int32)))), some (aI (1 : Int32)), some (aI (nI h)), some (aI (1 : Int32)), some (aI (s (88 + 6 * h + 1)))], [], M4)) rfl trivial ?_
  refine Fn_else (ro_d hX hh) ?_
  refine Fn_blk 2 (c' := ((if (s (88 + 6 * h + 1)) = 0 then 212 else 160), [some (aR 0 16), some (aI ((dkL s H h) + (if (s (88 + 6 * h + 1)) ≤ 0 then (0 : Int32) else (1 : Int32)))), some (aI ((unL s H h) + (if (s (88 + 6 * h + 4)) = 0 then (1 : Int32) else (0 : Int32)))), some (aI (1 : Int32)), some (aI (nI h)), some (aI (1 : Int32)), some (aI (s (88 + 6 * h + 1)))], [], M4)) rfl trivial ?_
  refine Fn_if (hd) ?_
  refine Fn_blk 5 (c' := (46, [some (aR 0 16), some (aI ((dkL s H h) + (if (s (88 + 6 * h + 1)) ≤ 0 then (0 : Int32) else (1 : Int32)))), some (aI ((unL s H h) + (if (s (88 + 6 * h + 4)) = 0 then (1 : Int32) else (0 : Int32)))), some (aI (1 : Int32)), some (aI ((nI h) + (1 : Int32))), some (aI (1 : Int32)), some (aI (s (88 + 6 * h + 1)))], [], M4)) rfl trivial ?_
  refine Fn_fgt [true, true, true, true, true, false, false] ?_
  exact Fn_eq (c := (46, [some (aR 0 16), some (aI ((dkL s H h) + (if (s (88 + 6 * h + 1)) ≤ 0 then (0 : Int32) else (1 : Int32)))), some (aI ((unL s H h) + (if (s (88 + 6 * h + 4)) = 0 then (1 : Int32) else (0 : Int32)))), some (aI (1 : Int32)), some (aI ((nI h) + (1 : Int32))), none, none], [], M4)) (c' := (46, [some (aR 0 16), some (aI (dkL s H (h + 1))), some (aI (unL s H (h + 1))), some (aI (1 : Int32)), some (aI (nI (h + 1))), none, none], [], M4)) (by rw [nI_succ, dkL_o hh, unL_o hh]) (K _ w4)
theorem hr_n {xs : Nat → Int32} {L : Nat} {r : AV} {P : Mem → Prop} {s : Nat → Int32} {q : List (Nat → Int32)} {H : Nat} {M : Mem} (hV : Vs s H) (hX : Xs s H) {h : Nat} (h48 : h < 48) (hh : h < H) (hd : ¬ s (88 + 6 * h + 1) = 0)  (h0 : Wd s q M) (K : ∀ M', Wd s q M' → Fn xs L m_L_areHoursSo (46, [some (aR 0 16), some (aI (dkL s H (h + 1))), some (aI (unL s H (h + 1))), some (aI (1 : Int32)), some (aI (nI (h + 1))), none, none], [], M') r P) : Fn xs L m_L_areHoursSo (46, [some (aR 0 16), some (aI (dkL s H h)), some (aI (unL s H h)), some (aI (1 : Int32)), some (aI (nI h)), none, none], [], M) r P := by
  refine Fn_blk 3 (c' := ((if (48 : Int32) ≤ (nI h) then 224 else 53), [some (aR 0 16), some (aI (dkL s H h)), some (aI (unL s H h)), some (aI (1 : Int32)), some (aI (nI h)), none, none], [], M)) rfl trivial ?_
  refine Fn_else (nI_ge (b := 48) h48 (by decide)) ?_
  refine Fn_blk 3 (c' := (57, [some (aR 0 16), some (aI (dkL s H h)), some (aI (unL s H h)), some (aI (1 : Int32)), some (aI (nI h)), none, none], [aI (0 : Int32), aR 0 16, aI (nI h)], M)) rfl trivial ?_
  refine Fn_call (m' := m_X4_count) (as := [aR 0 16, aI (0 : Int32)]) (rr := [aI (nI h)]) (q_count_0 hV) h0 rfl rfl (fun M1 w1 => ?_)
  refine Fn_blk 1 (c' := ((if (nI H) ≤ (nI h) then 67 else 63), [some (aR 0 16), some (aI (dkL s H h)), some (aI (unL s H h)), some (aI (1 : Int32)), some (aI (nI h)), none, none], [], M1)) rfl trivial ?_
  refine Fn_else (nI_ge hh (by have := hV.2.1.2; omega)) ?_
  refine Fn_blk 6 (c' := (74, [some (aR 0 16), some (aI (dkL s H h)), some (aI (unL s H h)), some (aI (1 : Int32)), some (aI (nI h)), some (aI (1 : Int32)), none], [aI (2 : Int32), aI (nI h), aR 0 16], M1)) rfl trivial ?_
  refine Fn_call (m' := m_X4_hour) (as := [aR 0 16, aI (nI h), aI (2 : Int32)]) (rr := []) (q_hour_2 hV hh) w1 rfl rfl (fun M2 w2 => ?_)
  refine Fn_blk 4 (c' := ((if (1 : Int32) = 0 then 94 else 85), [some (aR 0 16), some (aI (dkL s H h)), some (aI (unL s H h)), some (aI (1 : Int32)), some (aI (nI h)), some (aI (1 : Int32)), some (aI (s (88 + 6 * h + 1)))], [aI (dkL s H h)], M2)) rfl trivial ?_
  refine Fn_else (by decide) ?_
  refine Fn_blk 2 (c' := ((if (s (88 + 6 * h + 1)) ≤ 0 then 94 else 90), [some (aR 0 16), some (aI (dkL s H h)), some (aI (unL s H h)), some (aI (1 : Int32)), some (aI (nI h)), some (aI (1 : Int32)), some (aI (s (88 + 6 * h + 1)))], [aI (dkL s H h)], M2)) rfl trivial ?_
  refine Fn_dia (n1 := 1) (n2 := 2) (pc := 95) (x := 0) (y := 1) rfl rfl ?_
  refine Fn_blk 5 (c' := ((if (1 : Int32) = 0 then 117 else 103), [some (aR 0 16), some (aI ((dkL s H h) + (if (s (88 + 6 * h + 1)) ≤ 0 then (0 : Int32) else (1 : Int32)))), some (aI (unL s H h)), some (aI (1 : Int32)), some (aI (nI h)), some (aI (1 : Int32)), some (aI (s (88 + 6 * h + 1)))], [aI (unL s H h)], M2)) rfl trivial ?_
  refine Fn_else (by decide) ?_
  refine Fn_blk 3 (c' := (107, [some (aR 0 16), some (aI ((dkL s H h) + (if (s (88 + 6 * h + 1)) ≤ 0 then (0 : Int32) else (1 : Int32)))), some (aI (unL s H h)), some (aI (1 : Int32)), some (aI (nI h)), some (aI (1 : Int32)), some (aI (s (88 + 6 * h + 1)))], [aI (5 : Int32), aI (nI h), aR 0 16, aI (unL s H h)], M2)) rfl trivial ?_
  refine Fn_call (m' := m_X4_hour) (as := [aR 0 16, aI (nI h), aI (5 : Int32)]) (rr := [aI (unL s H h)]) (q_hour_5 hV hh) w2 rfl rfl (fun M3 w3 => ?_)
  refine Fn_blk 1 (c' := ((if (s (88 + 6 * h + 4)) = 0 then 113 else 117), [some (aR 0 16), some (aI ((dkL s H h) + (if (s (88 + 6 * h + 1)) ≤ 0 then (0 : Int32) else (1 : Int32)))), some (aI (unL s H h)), some (aI (1 : Int32)), some (aI (nI h)), some (aI (1 : Int32)), some (aI (s (88 + 6 * h + 1)))], [aI (unL s H h)], M3)) rfl trivial ?_
  refine Fn_if ((ro_4 hX hh hd).1) ?_
  refine Fn_blk 6 (c' := ((if (1 : Int32) = 0 then 216 else 124), [some (aR 0 16), some (aI ((dkL s H h) + (if (s (88 + 6 * h + 1)) ≤ 0 then (0 : Int32) else (1 : Int32)))), some (aI ((unL s H h) + (1 : Int32))), some (aI (1 : Int32)), some (aI (nI h)), some (aI (1 : Int32)), some (aI (s (88 + 6 * h + 1)))], [], M3)) rfl trivial ?_
  refine Fn_else (by decide) ?_
  refine Fn_blk 4 (c' := (130, [some (aR 0 16), some (aI ((dkL s H h) + (if (s (88 + 6 * h + 1)) ≤ 0 then (0 : Int32) else (1 : Int32)))), some (aI ((unL s H h) + (1 : Int32))), some (aI (1 : Int32)), some (aI (nI h)), some (aI (1 : Int32)), some (aI (s (88 + 6 * h + 1)))], [aI (1 : Int32), aI (nI h), aR 0 16, aI (1 : Int32)], M3)) rfl trivial ?_
  refine Fn_call (m' := m_X4_hour) (as := [aR 0 16, aI (nI h), aI (1 : Int32)]) (rr := [aI (1 : Int32)]) (q_hour_1 hV hh) w3 rfl rfl (fun M4 w4 => ?_)
  refine Fn_blk 2 (c' := ((if (s (88 + 6 * h + 0)) = (-1 : Int32) then 141 else 137), [some (aR 0 16), some (aI ((dkL s H h) + (if (s (88 + 6 * h + 1)) ≤ 0 then (0 : Int32) else (1 : Int32)))), some (aI ((unL s H h) + (1 : Int32))), some (aI (1 : Int32)), some (aI (nI h)), some (aI (1 : Int32)), some (aI (s (88 + 6 * h + 1)))], [aI (1 : Int32)], M4)) rfl trivial ?_
  refine Fn_else (ro_l hX hh) ?_
  refine Fn_blk 3 (c' := ((if (1 : Int32) = (1 : Int32) then 145 else 216), [some (aR 0 16), some (aI ((dkL s H h) + (if (s (88 + 6 * h + 1)) ≤ 0 then (0 : Int32) else (1 : Int32)))), some (aI ((unL s H h) + (1 : Int32))), some (aI (1 : Int32)), some (aI (nI h)), some (aI (1 : Int32)), some (aI (s (88 + 6 * h + 1)))], [], M4)) rfl trivial ?_
  refine Fn_if (by decide) ?_
  refine Fn_blk 2 (c' := ((if (1 : Int32) = 0 then 193 else 150), [some (aR 0 16), some (aI ((dkL s H h) + (if (s (88 + 6 * h + 1)) ≤ 0 then (0 : Int32) else (1 : Int32)))), some (aI ((unL s H h) + (1 : Int32))), some (aI (1 : Int32)), some (aI (nI h)), some (aI (1 : Int32)), some (aI (s (88 + 6 * h + 1)))], [], M4)) rfl trivial ?_
  refine Fn_else (by decide) ?_
  refine Fn_blk 2 (c' := ((if (s (88 + 6 * h + 1)) < 0 then 216 else 155), [some (aR 0 16), some (aI ((dkL s H h) + (if (s (88 + 6 * h + 1)) ≤ 0 then (0 : Int32) else (1 : Int32)))), some (aI ((unL s H h) + (1 : Int32))), some (aI (1 : Int32)), some (aI (nI h)), some (aI (1 : Int32)), some (aI (s (88 + 6 * h + 1)))], [], M4)) rfl trivial ?_
  refine Fn_else (ro_d hX hh) ?_
  refine Fn_blk 2 (c' := ((if (s (88 + 6 * h + 1)) = 0 then 212 else 160), [some (aR 0 16), some (aI ((dkL s H h) + (if (s (88 + 6 * h + 1)) ≤ 0 then (0 : Int32) else (1 : Int32)))), some (aI ((unL s H h) + (1 : Int32))), some (aI (1 : Int32)), some (aI (nI h)), some (aI (1 : Int32)), some (aI (s (88 + 6 * h + 1)))], [], M4)) rfl trivial ?_
  refine Fn_else (hd) ?_
  refine Fn_blk 3 (c' := (164, [some (aR 0 16), some (aI ((dkL s H h) + (if (s (88 + 6 * h + 1)) ≤ 0 then (0 : Int32) else (1 : Int32)))), some (aI ((unL s H h) + (1 : Int32))), some (aI (1 : Int32)), some (aI (nI h)), some (aI (1 : Int32)), some (aI (s (88 + 6 * h + 1)))], [aI (5 : Int32), aI (nI h), aR 0 16], M4)) rfl trivial ?_
  refine Fn_call (m' := m_X4_hour) (as := [aR 0 16, aI (nI h), aI (5 : Int32)]) (rr := []) (q_hour_5 hV hh) w4 rfl rfl (fun M5 w5 => ?_)
  refine Fn_blk 1 (c' := ((if (s (88 + 6 * h + 4)) = 0 then 170 else 216), [some (aR 0 16), some (aI ((dkL s H h) + (if (s (88 + 6 * h + 1)) ≤ 0 then (0 : Int32) else (1 : Int32)))), some (aI ((unL s H h) + (1 : Int32))), some (aI (1 : Int32)), some (aI (nI h)), some (aI (1 : Int32)), some (aI (s (88 + 6 * h + 1)))], [], M5)) rfl trivial ?_
  refine Fn_if ((ro_4 hX hh hd).1) ?_
  refine Fn_blk 3 (c' := (174, [some (aR 0 16), some (aI ((dkL s H h) + (if (s (88 + 6 * h + 1)) ≤ 0 then (0 : Int32) else (1 : Int32)))), some (aI ((unL s H h) + (1 : Int32))), some (aI (1 : Int32)), some (aI (nI h)), some (aI (1 : Int32)), some (aI (s (88 + 6 * h + 1)))], [aI (3 : Int32), aI (nI h), aR 0 16], M5)) rfl trivial ?_
  refine Fn_call (m' := m_X4_hour) (as := [aR 0 16, aI (nI h), aI (3 : Int32)]) (rr := []) (q_hour_3 hV hh) w5 rfl rfl (fun M6 w6 => ?_)
  refine Fn_blk 1 (c' := ((if (s (88 + 6 * h + 2)) = 0 then 180 else 216), [some (aR 0 16), some (aI ((dkL s H h) + (if (s (88 + 6 * h + 1)) ≤ 0 then (0 : Int32) else (1 : Int32)))), some (aI ((unL s H h) + (1 : Int32))), some (aI (1 : Int32)), some (aI (nI h)), some (aI (1 : Int32)), some (aI (s (88 + 6 * h + 1)))], [], M6)) rfl trivial ?_
  refine Fn_if ((ro_4 hX hh hd).2.1) ?_
  refine Fn_blk 3 (c' := (184, [some (aR 0 16), some (aI ((dkL s H h) + (if (s (88 + 6 * h + 1)) ≤ 0 then (0 : Int32) else (1 : Int32)))), some (aI ((unL s H h) + (1 : Int32))), some (aI (1 : Int32)), some (aI (nI h)), some (aI (1 : Int32)), some (aI (s (88 + 6 * h + 1)))], [aI (4 : Int32), aI (nI h), aR 0 16], M6)) rfl trivial ?_
  refine Fn_call (m' := m_X4_hour) (as := [aR 0 16, aI (nI h), aI (4 : Int32)]) (rr := []) (q_hour_4 hV hh) w6 rfl rfl (fun M7 w7 => ?_)
  refine Fn_blk 1 (c' := ((if (s (88 + 6 * h + 3)) = 0 then 190 else 216), [some (aR 0 16), some (aI ((dkL s H h) + (if (s (88 + 6 * h + 1)) ≤ 0 then (0 : Int32) else (1 : Int32)))), some (aI ((unL s H h) + (1 : Int32))), some (aI (1 : Int32)), some (aI (nI h)), some (aI (1 : Int32)), some (aI (s (88 + 6 * h + 1)))], [], M7)) rfl trivial ?_
  refine Fn_if ((ro_4 hX hh hd).2.2) ?_
  refine Fn_blk 6 (c' := (46, [some (aR 0 16), some (aI ((dkL s H h) + (if (s (88 + 6 * h + 1)) ≤ 0 then (0 : Int32) else (1 : Int32)))), some (aI ((unL s H h) + (1 : Int32))), some (aI (1 : Int32)), some (aI ((nI h) + (1 : Int32))), some (aI (1 : Int32)), some (aI (s (88 + 6 * h + 1)))], [], M7)) rfl trivial ?_
  refine Fn_fgt [true, true, true, true, true, false, false] ?_
  exact Fn_eq (c := (46, [some (aR 0 16), some (aI ((dkL s H h) + (if (s (88 + 6 * h + 1)) ≤ 0 then (0 : Int32) else (1 : Int32)))), some (aI ((unL s H h) + (1 : Int32))), some (aI (1 : Int32)), some (aI ((nI h) + (1 : Int32))), none, none], [], M7)) (c' := (46, [some (aR 0 16), some (aI (dkL s H (h + 1))), some (aI (unL s H (h + 1))), some (aI (1 : Int32)), some (aI (nI (h + 1))), none, none], [], M7)) (by rw [nI_succ, dkL_o hh, unL_1 hh (ro_4 hX hh hd).1]) (K _ w7)
theorem hr_x {xs : Nat → Int32} {L : Nat} {r : AV} {P : Mem → Prop} {s : Nat → Int32} {q : List (Nat → Int32)} {H : Nat} {M : Mem} (hV : Vs s H) (hX : Xs s H) {h : Nat} (h48 : h < 48) (hh : ¬ h < H)  (h0 : Wd s q M) (K : ∀ M', Wd s q M' → Fn xs L m_L_areHoursSo (46, [some (aR 0 16), some (aI (dkL s H (h + 1))), some (aI (unL s H (h + 1))), some (aI (1 : Int32)), some (aI (nI (h + 1))), none, none], [], M') r P) : Fn xs L m_L_areHoursSo (46, [some (aR 0 16), some (aI (dkL s H h)), some (aI (unL s H h)), some (aI (1 : Int32)), some (aI (nI h)), none, none], [], M) r P := by
  refine Fn_blk 3 (c' := ((if (48 : Int32) ≤ (nI h) then 224 else 53), [some (aR 0 16), some (aI (dkL s H h)), some (aI (unL s H h)), some (aI (1 : Int32)), some (aI (nI h)), none, none], [], M)) rfl trivial ?_
  refine Fn_else (nI_ge (b := 48) h48 (by decide)) ?_
  refine Fn_blk 3 (c' := (57, [some (aR 0 16), some (aI (dkL s H h)), some (aI (unL s H h)), some (aI (1 : Int32)), some (aI (nI h)), none, none], [aI (0 : Int32), aR 0 16, aI (nI h)], M)) rfl trivial ?_
  refine Fn_call (m' := m_X4_count) (as := [aR 0 16, aI (0 : Int32)]) (rr := [aI (nI h)]) (q_count_0 hV) h0 rfl rfl (fun M1 w1 => ?_)
  refine Fn_blk 1 (c' := ((if (nI H) ≤ (nI h) then 67 else 63), [some (aR 0 16), some (aI (dkL s H h)), some (aI (unL s H h)), some (aI (1 : Int32)), some (aI (nI h)), none, none], [], M1)) rfl trivial ?_
  refine Fn_if (nI_le (by omega) (by omega)) ?_
  refine Fn_blk 5 (c' := (74, [some (aR 0 16), some (aI (dkL s H h)), some (aI (unL s H h)), some (aI (1 : Int32)), some (aI (nI h)), some (aI (0 : Int32)), none], [aI (2 : Int32), aI (nI h), aR 0 16], M1)) rfl trivial ?_
  refine Fn_call (m' := m_X4_hour) (as := [aR 0 16, aI (nI h), aI (2 : Int32)]) (rr := []) (q_hourN_2 hV hh h48) w1 rfl rfl (fun M2 w2 => ?_)
  refine Fn_blk 4 (c' := ((if (0 : Int32) = 0 then 94 else 85), [some (aR 0 16), some (aI (dkL s H h)), some (aI (unL s H h)), some (aI (1 : Int32)), some (aI (nI h)), some (aI (0 : Int32)), some (aI (-1 : Int32))], [aI (dkL s H h)], M2)) rfl trivial ?_
  refine Fn_if (by decide) ?_
  refine Fn_blk 6 (c' := ((if (0 : Int32) = 0 then 117 else 103), [some (aR 0 16), some (aI ((dkL s H h) + (0 : Int32))), some (aI (unL s H h)), some (aI (1 : Int32)), some (aI (nI h)), some (aI (0 : Int32)), some (aI (-1 : Int32))], [aI (unL s H h)], M2)) rfl trivial ?_
  refine Fn_if (by decide) ?_
  refine Fn_blk 5 (c' := ((if (1 : Int32) = 0 then 216 else 124), [some (aR 0 16), some (aI ((dkL s H h) + (0 : Int32))), some (aI ((unL s H h) + (0 : Int32))), some (aI (1 : Int32)), some (aI (nI h)), some (aI (0 : Int32)), some (aI (-1 : Int32))], [], M2)) rfl trivial ?_
  refine Fn_else (by decide) ?_
  refine Fn_blk 4 (c' := (130, [some (aR 0 16), some (aI ((dkL s H h) + (0 : Int32))), some (aI ((unL s H h) + (0 : Int32))), some (aI (1 : Int32)), some (aI (nI h)), some (aI (0 : Int32)), some (aI (-1 : Int32))], [aI (1 : Int32), aI (nI h), aR 0 16, aI (0 : Int32)], M2)) rfl trivial ?_
  refine Fn_call (m' := m_X4_hour) (as := [aR 0 16, aI (nI h), aI (1 : Int32)]) (rr := [aI (0 : Int32)]) (q_hourN_1 hV hh h48) w2 rfl rfl (fun M3 w3 => ?_)
  refine Fn_blk 2 (c' := ((if (-1 : Int32) = (-1 : Int32) then 141 else 137), [some (aR 0 16), some (aI ((dkL s H h) + (0 : Int32))), some (aI ((unL s H h) + (0 : Int32))), some (aI (1 : Int32)), some (aI (nI h)), some (aI (0 : Int32)), some (aI (-1 : Int32))], [aI (0 : Int32)], M3)) rfl trivial ?_
  refine Fn_if (by decide) ?_
  refine Fn_blk 2 (c' := ((if (0 : Int32) = (0 : Int32) then 145 else 216), [some (aR 0 16), some (aI ((dkL s H h) + (0 : Int32))), some (aI ((unL s H h) + (0 : Int32))), some (aI (1 : Int32)), some (aI (nI h)), some (aI (0 : Int32)), some (aI (-1 : Int32))], [], M3)) rfl trivial ?_
  refine Fn_if (by decide) ?_
  refine Fn_blk 2 (c' := ((if (0 : Int32) = 0 then 193 else 150), [some (aR 0 16), some (aI ((dkL s H h) + (0 : Int32))), some (aI ((unL s H h) + (0 : Int32))), some (aI (1 : Int32)), some (aI (nI h)), some (aI (0 : Int32)), some (aI (-1 : Int32))], [], M3)) rfl trivial ?_
  refine Fn_if (by decide) ?_
  refine Fn_blk 3 (c' := ((if (-1 : Int32) = (-1 : Int32) then 199 else 216), [some (aR 0 16), some (aI ((dkL s H h) + (0 : Int32))), some (aI ((unL s H h) + (0 : Int32))), some (aI (1 : Int32)), some (aI (nI h)), some (aI (0 : Int32)), some (aI (-1 : Int32))], [], M3)) rfl trivial ?_
  refine Fn_if (by decide) ?_
  refine Fn_blk 3 (c' := (204, [some (aR 0 16), some (aI ((dkL s H h) + (0 : Int32))), some (aI ((unL s H h) + (0 : Int32))), some (aI (1 : Int32)), some (aI (nI h)), some (aI (0 : Int32)), some (aI (-1 : Int32))], [aI (6 : Int32), aI (nI h), aR 0 16], M3)) rfl trivial ?_
  refine Fn_call (m' := m_X4_hour) (as := [aR 0 16, aI (nI h), aI (6 : Int32)]) (rr := []) (q_hourN_6 hV hh h48) w3 rfl rfl (fun M4 w4 => ?_)
  refine Fn_blk 2 (c' := ((if (-1 : Int32) = (-1 : Int32) then 212 else 216), [some (aR 0 16), some (aI ((dkL s H h) + (0 : Int32))), some (aI ((unL s H h) + (0 : Int32))), some (aI (1 : Int32)), some (aI (nI h)), some (aI (0 : Int32)), some (aI (-1 : Int32))], [], M4)) rfl trivial ?_
  refine Fn_if (by decide) ?_
  refine Fn_blk 5 (c' := (46, [some (aR 0 16), some (aI ((dkL s H h) + (0 : Int32))), some (aI ((unL s H h) + (0 : Int32))), some (aI (1 : Int32)), some (aI ((nI h) + (1 : Int32))), some (aI (0 : Int32)), some (aI (-1 : Int32))], [], M4)) rfl trivial ?_
  refine Fn_fgt [true, true, true, true, true, false, false] ?_
  exact Fn_eq (c := (46, [some (aR 0 16), some (aI ((dkL s H h) + (0 : Int32))), some (aI ((unL s H h) + (0 : Int32))), some (aI (1 : Int32)), some (aI ((nI h) + (1 : Int32))), none, none], [], M4)) (c' := (46, [some (aR 0 16), some (aI (dkL s H (h + 1))), some (aI (unL s H (h + 1))), some (aI (1 : Int32)), some (aI (nI (h + 1))), none, none], [], M4)) (by rw [nI_succ, dkL_n hh, unL_n hh]) (K _ w4)
theorem hr_e {xs : Nat → Int32} {L : Nat} {s : Nat → Int32} {q : List (Nat → Int32)} {H : Nat} {M : Mem} (hV : Vs s H)  (h0 : Wd s q M) : Fn xs L m_L_areHoursSo (46, [some (aR 0 16), some (aI (dkL s H 48)), some (aI (unL s H 48)), some (aI (1 : Int32)), some (aI (nI 48)), none, none], [], M) (aI (1 : Int32)) (Wd s q) := by
  refine Fn_blk 3 (c' := ((if (48 : Int32) ≤ (nI 48) then 224 else 53), [some (aR 0 16), some (aI (dkL s H 48)), some (aI (unL s H 48)), some (aI (1 : Int32)), some (aI (nI 48)), none, none], [], M)) rfl trivial ?_
  refine Fn_if (by decide) ?_
  refine Fn_blk 2 (c' := ((if (1 : Int32) = 0 then 252 else 228), [some (aR 0 16), some (aI (dkL s H 48)), some (aI (unL s H 48)), some (aI (1 : Int32)), some (aI (nI 48)), none, none], [], M)) rfl trivial ?_
  refine Fn_else (by decide) ?_
  refine Fn_blk 3 (c' := (232, [some (aR 0 16), some (aI (dkL s H 48)), some (aI (unL s H 48)), some (aI (1 : Int32)), some (aI (nI 48)), none, none], [aI (11 : Int32), aR 0 16, aI (dkL s H 48)], M)) rfl trivial ?_
  refine Fn_call (m' := m_X4_count) (as := [aR 0 16, aI (11 : Int32)]) (rr := [aI (dkL s H 48)]) (q_count_11 hV) h0 rfl rfl (fun M1 w1 => ?_)
  refine Fn_blk 1 (c' := ((if (dkL s H 48) = (s 38) then 238 else 252), [some (aR 0 16), some (aI (dkL s H 48)), some (aI (unL s H 48)), some (aI (1 : Int32)), some (aI (nI 48)), none, none], [], M1)) rfl trivial ?_
  refine Fn_if (dkL_48 hV) ?_
  refine Fn_blk 3 (c' := (242, [some (aR 0 16), some (aI (dkL s H 48)), some (aI (unL s H 48)), some (aI (1 : Int32)), some (aI (nI 48)), none, none], [aI (12 : Int32), aR 0 16, aI (unL s H 48)], M1)) rfl trivial ?_
  refine Fn_call (m' := m_X4_count) (as := [aR 0 16, aI (12 : Int32)]) (rr := [aI (unL s H 48)]) (q_count_12 hV) w1 rfl rfl (fun M2 w2 => ?_)
  refine Fn_blk 1 (c' := ((if (unL s H 48) = (s 39) then 248 else 252), [some (aR 0 16), some (aI (dkL s H 48)), some (aI (unL s H 48)), some (aI (1 : Int32)), some (aI (nI 48)), none, none], [], M2)) rfl trivial ?_
  refine Fn_if (unL_48 hV) ?_
  refine Fn_blk 2 (c' := (253, [some (aR 0 16), some (aI (dkL s H 48)), some (aI (unL s H 48)), some (aI (1 : Int32)), some (aI (nI 48)), none, none], [aI (1 : Int32)], M2)) rfl trivial ?_
  exact Fn_zret rfl rfl rfl (by rfl) w2
theorem hr_all {xs : Nat → Int32} {L : Nat} {s : Nat → Int32} {q : List (Nat → Int32)} {H : Nat} (hV : Vs s H) (hX : Xs s H) : ∀ (d h : Nat) (M : Mem), h + d = 48 → Wd s q M → Fn xs L m_L_areHoursSo (46, [some (aR 0 16), some (aI (dkL s H h)), some (aI (unL s H h)), some (aI (1 : Int32)), some (aI (nI h)), none, none], [], M) (aI 1) (Wd s q)
  | 0, h, M, hd, h0 => by
    have e : h = 48 := hd
    subst e
    exact hr_e hV h0
  | d + 1, h, M, hd, h0 => by
    have K : ∀ M', Wd s q M' → _ := fun M' w => hr_all (xs := xs) (L := L) hV hX d (h + 1) M' (by omega) w
    by_cases hh : h < H
    · by_cases hz : s (88 + 6 * h + 1) = 0
      · exact hr_t hV hX (by omega) hh hz h0 K
      · exact hr_n hV hX (by omega) hh hz h0 K
    · exact hr_x hV hX (by omega) hh h0 K
/-- the law's second check comes out true -/
theorem q_hours {xs : Nat → Int32} {L : Nat} {s : Nat → Int32} {q : List (Nat → Int32)} {H : Nat} (hV : Vs s H) (hX : Xs s H) : Cw xs L m_L_areHoursSo [aR 0 16] s q (aI 1) s q := by
  intro M h0
  show Fn xs L m_L_areHoursSo (0, [some (aR 0 16), none, none, none, none, none, none], [], M) (aI 1) (Wd s q)
  obtain ⟨x, hS, h1, h2⟩ := sp_ex (xs := xs) (L := L) (q := q) hV hX
  exact hr_0 hV hX x hS h1 h2 h0 (fun M0 w0 => hr_all hV hX 48 0 M0 rfl w0)
