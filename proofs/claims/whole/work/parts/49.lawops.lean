/-! THE LAW: a step of its loop -/
theorem lgE {x y : Int64} (h : x = y) : lg_cmp x y = 0 := by
  subst h
  unfold lg_cmp
  rw [if_neg (by rw [gt_iff_lt, Int64.lt_iff_toInt_lt]; omega), if_pos rfl]
theorem nI_6 (i : Nat) : nI i + 6 = nI (i + 6) := nI_add i 6
theorem lw_in {L i : Nat} (hi : i + 6 ≤ L) (hL : L < 2 ^ 31) : ¬ (Int32.ofNat L - 6 < nI i) := by
  obtain ⟨d, rfl⟩ : ∃ d, L = d + 6 := ⟨L - 6, by omega⟩
  rw [show Int32.ofNat (d + 6) = nI d + nI 6 from (nI_add d 6).symm, show (nI d + nI 6 - 6 : Int32) = nI d by rw [show nI 6 = (6 : Int32) from rfl]; grind, Int32.lt_iff_toInt_lt, nI_toInt (by omega), nI_toInt (by omega)]
  omega
theorem lw_out {L i : Nat} (hi : ¬ i + 6 ≤ L) (hiL : i ≤ L) (hL : L < 2 ^ 31) : Int32.ofNat L - 6 < nI i := by
  have e : (Int32.ofNat L - 6 : Int32).toInt = (L : Int) - 6 := by
    rw [Int32.toInt_sub, show (Int32.ofNat L).toInt = (L : Int) from nI_toInt hL, show (6 : Int32).toInt = 6 from rfl]
    exact Int.bmod_eq_of_le (by omega) (by omega)
  rw [Int32.lt_iff_toInt_lt, e, nI_toInt (by omega)]
  omega
theorem and31 (x : Int32) : ∃ k, k < 32 ∧ x &&& 31 = nI k := by
  refine ⟨(x.toBitVec &&& 31#32).toNat, ?_, ?_⟩
  · have h : (x.toBitVec &&& 31#32).toNat ≤ 31 := by
      rw [BitVec.toNat_and]
      exact Nat.and_le_right
    omega
  · apply Int32.toBitVec_inj.mp
    show x.toBitVec &&& 31#32 = _
    rw [show (nI (x.toBitVec &&& 31#32).toNat).toBitVec = BitVec.ofNat 32 (x.toBitVec &&& 31#32).toNat from rfl, BitVec.ofNat_toNat, BitVec.setWidth_eq]
theorem lx1 {i L : Nat} (hi : i + 6 ≤ L) (hL : L < 2 ^ 31) : (nI i + (1 : Int32)).toNatClampNeg = i + 1 := by
  rw [show (1 : Int32) = nI 1 from rfl, nI_add, nI_clamp (by omega)]
theorem ly1 {i L : Nat} (hi : i + 6 ≤ L) (hL : L < 2 ^ 31) : z_inb (nI i + (1 : Int32)) L = true := by
  rw [show (1 : Int32) = nI 1 from rfl, nI_add]
  exact inb_nI (by omega) hL
theorem lx2 {i L : Nat} (hi : i + 6 ≤ L) (hL : L < 2 ^ 31) : (nI i + (2 : Int32)).toNatClampNeg = i + 2 := by
  rw [show (2 : Int32) = nI 2 from rfl, nI_add, nI_clamp (by omega)]
theorem ly2 {i L : Nat} (hi : i + 6 ≤ L) (hL : L < 2 ^ 31) : z_inb (nI i + (2 : Int32)) L = true := by
  rw [show (2 : Int32) = nI 2 from rfl, nI_add]
  exact inb_nI (by omega) hL
theorem lx3 {i L : Nat} (hi : i + 6 ≤ L) (hL : L < 2 ^ 31) : (nI i + (3 : Int32)).toNatClampNeg = i + 3 := by
  rw [show (3 : Int32) = nI 3 from rfl, nI_add, nI_clamp (by omega)]
theorem ly3 {i L : Nat} (hi : i + 6 ≤ L) (hL : L < 2 ^ 31) : z_inb (nI i + (3 : Int32)) L = true := by
  rw [show (3 : Int32) = nI 3 from rfl, nI_add]
  exact inb_nI (by omega) hL
theorem lx4 {i L : Nat} (hi : i + 6 ≤ L) (hL : L < 2 ^ 31) : (nI i + (4 : Int32)).toNatClampNeg = i + 4 := by
  rw [show (4 : Int32) = nI 4 from rfl, nI_add, nI_clamp (by omega)]
theorem ly4 {i L : Nat} (hi : i + 6 ≤ L) (hL : L < 2 ^ 31) : z_inb (nI i + (4 : Int32)) L = true := by
  rw [show (4 : Int32) = nI 4 from rfl, nI_add]
  exact inb_nI (by omega) hL
theorem lx5 {i L : Nat} (hi : i + 6 ≤ L) (hL : L < 2 ^ 31) : (nI i + (5 : Int32)).toNatClampNeg = i + 5 := by
  rw [show (5 : Int32) = nI 5 from rfl, nI_add, nI_clamp (by omega)]
theorem ly5 {i L : Nat} (hi : i + 6 ≤ L) (hL : L < 2 ^ 31) : z_inb (nI i + (5 : Int32)) L = true := by
  rw [show (5 : Int32) = nI 5 from rfl, nI_add]
  exact inb_nI (by omega) hL
theorem lw_rate {xs : Nat → Int32} {L : Nat} {o : z_Rs} {M' : Mem} {k1 kk : Nat} (i : Nat) (p1 p2 p3 p4 p5 e r : Int32) (C C1 : Nat → Nat → Nat → Int32) (D D1 : Nat → Nat → Int32) (E E1 : Nat → Int64) (hi : i + 6 ≤ L) (hL : L < 2 ^ 31) (hk : xs i &&& 31 = 0) (hp1 : xs (i + 1) = p1) (hp2 : xs (i + 2) = p2) (hp3 : xs (i + 3) = p3) (hp4 : xs (i + 4) = p4) (hp5 : xs (i + 5) = p5) (hW : z_Mt xs L m_L_rate [aR 0 16, aI p1, aI p2, aI p3, aI p4, aI p5, aR 0 40] (C, D, E) (.inl (some (aI e))) (C1, D, E1) k1) (hM : z_Mt xs L m_X5_rate [aR 0 32, aI p1, aI p2, aI p3, aI p4, aI p5] (C1, D, E1) (.inl (some (aI r))) (C1, D1, E1) 0) (hT : z_Mt xs L m_X5_thrown [aR 0 32] (C1, D1, E1) (.inl (some (aI e))) (C1, D1, E1) 0) (hE : e = 0 → E1 1 = r.toInt64) (K : z_Ev xs L m_L_law (23, [some (aR 0 41), some (aR 0 16), some (aR 0 32), some (aR 0 40), some (aI (nI (i + 6))), none, none, none, none], [], (C1, D1, E1)) o M' kk) : z_Ev xs L m_L_law (23, [some (aR 0 41), some (aR 0 16), some (aR 0 32), some (aR 0 40), some (aI (nI i)), none, none, none, none], [], (C, D, E)) o M' (k1 + kk) := by
  refine z_Ev_blk 6 (c' := ((if ((Int32.ofNat L) - (6 : Int32)) < (nI i) then 1271 else 33), [some (aR 0 41), some (aR 0 16), some (aR 0 32), some (aR 0 40), some (aI (nI i)), none, none, none, none], [], (C, D, E))) rfl trivial ?_
  refine z_Ev_else (lw_in hi hL) ?_
  refine z_Ev_blk 3 (c' := (37, [some (aR 0 41), some (aR 0 16), some (aR 0 32), some (aR 0 40), some (aI (nI i)), none, none, none, none], [aI (xs (nI i).toNatClampNeg)], (C, D, E))) rfl ⟨(inb_nI (show i < L by omega) hL), trivial⟩ ?_
  rw [nI_clamp (show i < 2 ^ 31 by omega)]
  refine z_Ev_blk 2 (c' := (40, [some (aR 0 41), some (aR 0 16), some (aR 0 32), some (aR 0 40), some (aI (nI i)), none, none, none, none], [aI ((xs i) &&& (31 : Int32))], (C, D, E))) rfl trivial ?_
  rw [hk]
  refine z_Ev_blk 1 (c' := (152, [some (aR 0 41), some (aR 0 16), some (aR 0 32), some (aR 0 40), some (aI (nI i)), none, none, none, none], [], (C, D, E))) rfl trivial ?_
  refine z_Ev_blk 6 (c' := (159, [some (aR 0 41), some (aR 0 16), some (aR 0 32), some (aR 0 40), some (aI (nI i)), none, none, none, none], [aI (xs ((nI i) + (1 : Int32)).toNatClampNeg), aR 0 16], (C, D, E))) rfl ⟨(ly1 hi hL), trivial⟩ ?_
  rw [lx1 hi hL, hp1]
  refine z_Ev_blk 5 (c' := (165, [some (aR 0 41), some (aR 0 16), some (aR 0 32), some (aR 0 40), some (aI (nI i)), none, none, none, none], [aI (xs ((nI i) + (2 : Int32)).toNatClampNeg), aI p1, aR 0 16], (C, D, E))) rfl ⟨(ly2 hi hL), trivial⟩ ?_
  rw [lx2 hi hL, hp2]
  refine z_Ev_blk 5 (c' := (171, [some (aR 0 41), some (aR 0 16), some (aR 0 32), some (aR 0 40), some (aI (nI i)), none, none, none, none], [aI (xs ((nI i) + (3 : Int32)).toNatClampNeg), aI p2, aI p1, aR 0 16], (C, D, E))) rfl ⟨(ly3 hi hL), trivial⟩ ?_
  rw [lx3 hi hL, hp3]
  refine z_Ev_blk 5 (c' := (177, [some (aR 0 41), some (aR 0 16), some (aR 0 32), some (aR 0 40), some (aI (nI i)), none, none, none, none], [aI (xs ((nI i) + (4 : Int32)).toNatClampNeg), aI p3, aI p2, aI p1, aR 0 16], (C, D, E))) rfl ⟨(ly4 hi hL), trivial⟩ ?_
  rw [lx4 hi hL, hp4]
  refine z_Ev_blk 5 (c' := (183, [some (aR 0 41), some (aR 0 16), some (aR 0 32), some (aR 0 40), some (aI (nI i)), none, none, none, none], [aI (xs ((nI i) + (5 : Int32)).toNatClampNeg), aI p4, aI p3, aI p2, aI p1, aR 0 16], (C, D, E))) rfl ⟨(ly5 hi hL), trivial⟩ ?_
  rw [lx5 hi hL, hp5]
  refine z_Ev_blk 1 (c' := (184, [some (aR 0 41), some (aR 0 16), some (aR 0 32), some (aR 0 40), some (aI (nI i)), none, none, none, none], [aR 0 40, aI p5, aI p4, aI p3, aI p2, aI p1, aR 0 16], (C, D, E))) rfl trivial ?_
  refine z_Ev_call (m' := m_L_rate) (as := [aR 0 16, aI p1, aI p2, aI p3, aI p4, aI p5, aR 0 40]) (r := []) (k1 := k1) (k2 := kk) hW rfl rfl ?_
  refine z_Ev_blk 7 (c' := (196, [some (aR 0 41), some (aR 0 16), some (aR 0 32), some (aR 0 40), some (aI (nI i)), some (aI e), none, none, none], [aI (xs ((nI i) + (1 : Int32)).toNatClampNeg), aR 0 32], (C1, D, E1))) rfl ⟨(ly1 hi hL), trivial⟩ ?_
  rw [lx1 hi hL, hp1]
  refine z_Ev_blk 5 (c' := (202, [some (aR 0 41), some (aR 0 16), some (aR 0 32), some (aR 0 40), some (aI (nI i)), some (aI e), none, none, none], [aI (xs ((nI i) + (2 : Int32)).toNatClampNeg), aI p1, aR 0 32], (C1, D, E1))) rfl ⟨(ly2 hi hL), trivial⟩ ?_
  rw [lx2 hi hL, hp2]
  refine z_Ev_blk 5 (c' := (208, [some (aR 0 41), some (aR 0 16), some (aR 0 32), some (aR 0 40), some (aI (nI i)), some (aI e), none, none, none], [aI (xs ((nI i) + (3 : Int32)).toNatClampNeg), aI p2, aI p1, aR 0 32], (C1, D, E1))) rfl ⟨(ly3 hi hL), trivial⟩ ?_
  rw [lx3 hi hL, hp3]
  refine z_Ev_blk 5 (c' := (214, [some (aR 0 41), some (aR 0 16), some (aR 0 32), some (aR 0 40), some (aI (nI i)), some (aI e), none, none, none], [aI (xs ((nI i) + (4 : Int32)).toNatClampNeg), aI p3, aI p2, aI p1, aR 0 32], (C1, D, E1))) rfl ⟨(ly4 hi hL), trivial⟩ ?_
  rw [lx4 hi hL, hp4]
  refine z_Ev_blk 5 (c' := (220, [some (aR 0 41), some (aR 0 16), some (aR 0 32), some (aR 0 40), some (aI (nI i)), some (aI e), none, none, none], [aI (xs ((nI i) + (5 : Int32)).toNatClampNeg), aI p4, aI p3, aI p2, aI p1, aR 0 32], (C1, D, E1))) rfl ⟨(ly5 hi hL), trivial⟩ ?_
  rw [lx5 hi hL, hp5]
  refine z_Ev_call0 (m' := m_X5_rate) (as := [aR 0 32, aI p1, aI p2, aI p3, aI p4, aI p5]) (r := []) (hM) rfl rfl ?_
  refine z_Ev_blk 2 (c' := (226, [some (aR 0 41), some (aR 0 16), some (aR 0 32), some (aR 0 40), some (aI (nI i)), some (aI e), some (aI r), none, none], [aR 0 32], (C1, D1, E1))) rfl trivial ?_
  refine z_Ev_call0 (m' := m_X5_thrown) (as := [aR 0 32]) (r := []) (hT) rfl rfl ?_
  refine z_Ev_blk 2 (c' := ((if e = e then 236 else 234), [some (aR 0 41), some (aR 0 16), some (aR 0 32), some (aR 0 40), some (aI (nI i)), some (aI e), some (aI r), none, none], [], (C1, D1, E1))) rfl trivial ?_
  refine z_Ev_if (rfl) ?_
  refine z_Ev_blk 2 (c' := ((if e = 0 then 241 else 253), [some (aR 0 41), some (aR 0 16), some (aR 0 32), some (aR 0 40), some (aI (nI i)), some (aI e), some (aI r), none, none], [], (C1, D1, E1))) rfl trivial ?_
  refine z_Ev_ite (fun h1 => ?_) (fun h1 => ?_)
  · skip
    refine z_Ev_blk 7 (c' := ((if (lg_cmp (E1 1) (r.toInt64)) = 0 then 253 else 251), [some (aR 0 41), some (aR 0 16), some (aR 0 32), some (aR 0 40), some (aI (nI i)), some (aI e), some (aI r), none, none], [], (C1, D1, E1))) rfl ⟨rfl, trivial⟩ ?_
    refine z_Ev_if (lgE (hE (by assumption))) ?_
    refine z_Ev_blk 3 (c' := (23, [some (aR 0 41), some (aR 0 16), some (aR 0 32), some (aR 0 40), some (aI ((nI i) + (6 : Int32))), some (aI e), some (aI r), none, none], [], (C1, D1, E1))) rfl trivial ?_
    refine z_Ev_fgt [true, true, true, true, true, false, false, false, false] ?_
    rw [nI_6]
    exact K
  · skip
    refine z_Ev_blk 3 (c' := (23, [some (aR 0 41), some (aR 0 16), some (aR 0 32), some (aR 0 40), some (aI ((nI i) + (6 : Int32))), some (aI e), some (aI r), none, none], [], (C1, D1, E1))) rfl trivial ?_
    refine z_Ev_fgt [true, true, true, true, true, false, false, false, false] ?_
    rw [nI_6]
    exact K
theorem lw_start {xs : Nat → Int32} {L : Nat} {o : z_Rs} {M' : Mem} {k1 kk : Nat} (i : Nat) (p1 e r : Int32) (C C1 : Nat → Nat → Nat → Int32) (D D1 : Nat → Nat → Int32) (E E1 : Nat → Int64) (hi : i + 6 ≤ L) (hL : L < 2 ^ 31) (hk : xs i &&& 31 = 1) (hp1 : xs (i + 1) = p1) (hW : z_Mt xs L m_L_start [aR 0 16, aI p1, aR 0 40] (C, D, E) (.inl (some (aI e))) (C1, D, E1) k1) (hM : z_Mt xs L m_X5_start [aR 0 32, aI p1] (C1, D, E1) (.inl (some (aI r))) (C1, D1, E1) 0) (hT : z_Mt xs L m_X5_thrown [aR 0 32] (C1, D1, E1) (.inl (some (aI e))) (C1, D1, E1) 0) (hE : e = 0 → E1 1 = r.toInt64) (K : z_Ev xs L m_L_law (23, [some (aR 0 41), some (aR 0 16), some (aR 0 32), some (aR 0 40), some (aI (nI (i + 6))), none, none, none, none], [], (C1, D1, E1)) o M' kk) : z_Ev xs L m_L_law (23, [some (aR 0 41), some (aR 0 16), some (aR 0 32), some (aR 0 40), some (aI (nI i)), none, none, none, none], [], (C, D, E)) o M' (k1 + kk) := by
  refine z_Ev_blk 6 (c' := ((if ((Int32.ofNat L) - (6 : Int32)) < (nI i) then 1271 else 33), [some (aR 0 41), some (aR 0 16), some (aR 0 32), some (aR 0 40), some (aI (nI i)), none, none, none, none], [], (C, D, E))) rfl trivial ?_
  refine z_Ev_else (lw_in hi hL) ?_
  refine z_Ev_blk 3 (c' := (37, [some (aR 0 41), some (aR 0 16), some (aR 0 32), some (aR 0 40), some (aI (nI i)), none, none, none, none], [aI (xs (nI i).toNatClampNeg)], (C, D, E))) rfl ⟨(inb_nI (show i < L by omega) hL), trivial⟩ ?_
  rw [nI_clamp (show i < 2 ^ 31 by omega)]
  refine z_Ev_blk 2 (c' := (40, [some (aR 0 41), some (aR 0 16), some (aR 0 32), some (aR 0 40), some (aI (nI i)), none, none, none, none], [aI ((xs i) &&& (31 : Int32))], (C, D, E))) rfl trivial ?_
  rw [hk]
  refine z_Ev_blk 1 (c' := (256, [some (aR 0 41), some (aR 0 16), some (aR 0 32), some (aR 0 40), some (aI (nI i)), none, none, none, none], [], (C, D, E))) rfl trivial ?_
  refine z_Ev_blk 6 (c' := (263, [some (aR 0 41), some (aR 0 16), some (aR 0 32), some (aR 0 40), some (aI (nI i)), none, none, none, none], [aI (xs ((nI i) + (1 : Int32)).toNatClampNeg), aR 0 16], (C, D, E))) rfl ⟨(ly1 hi hL), trivial⟩ ?_
  rw [lx1 hi hL, hp1]
  refine z_Ev_blk 1 (c' := (264, [some (aR 0 41), some (aR 0 16), some (aR 0 32), some (aR 0 40), some (aI (nI i)), none, none, none, none], [aR 0 40, aI p1, aR 0 16], (C, D, E))) rfl trivial ?_
  refine z_Ev_call (m' := m_L_start) (as := [aR 0 16, aI p1, aR 0 40]) (r := []) (k1 := k1) (k2 := kk) hW rfl rfl ?_
  refine z_Ev_blk 7 (c' := (276, [some (aR 0 41), some (aR 0 16), some (aR 0 32), some (aR 0 40), some (aI (nI i)), some (aI e), none, none, none], [aI (xs ((nI i) + (1 : Int32)).toNatClampNeg), aR 0 32], (C1, D, E1))) rfl ⟨(ly1 hi hL), trivial⟩ ?_
  rw [lx1 hi hL, hp1]
  refine z_Ev_call0 (m' := m_X5_start) (as := [aR 0 32, aI p1]) (r := []) (hM) rfl rfl ?_
  refine z_Ev_blk 2 (c' := (282, [some (aR 0 41), some (aR 0 16), some (aR 0 32), some (aR 0 40), some (aI (nI i)), some (aI e), some (aI r), none, none], [aR 0 32], (C1, D1, E1))) rfl trivial ?_
  refine z_Ev_call0 (m' := m_X5_thrown) (as := [aR 0 32]) (r := []) (hT) rfl rfl ?_
  refine z_Ev_blk 2 (c' := ((if e = e then 292 else 290), [some (aR 0 41), some (aR 0 16), some (aR 0 32), some (aR 0 40), some (aI (nI i)), some (aI e), some (aI r), none, none], [], (C1, D1, E1))) rfl trivial ?_
  refine z_Ev_if (rfl) ?_
  refine z_Ev_blk 2 (c' := ((if e = 0 then 297 else 309), [some (aR 0 41), some (aR 0 16), some (aR 0 32), some (aR 0 40), some (aI (nI i)), some (aI e), some (aI r), none, none], [], (C1, D1, E1))) rfl trivial ?_
  refine z_Ev_ite (fun h1 => ?_) (fun h1 => ?_)
  · skip
    refine z_Ev_blk 7 (c' := ((if (lg_cmp (E1 1) (r.toInt64)) = 0 then 309 else 307), [some (aR 0 41), some (aR 0 16), some (aR 0 32), some (aR 0 40), some (aI (nI i)), some (aI e), some (aI r), none, none], [], (C1, D1, E1))) rfl ⟨rfl, trivial⟩ ?_
    refine z_Ev_if (lgE (hE (by assumption))) ?_
    refine z_Ev_blk 3 (c' := (23, [some (aR 0 41), some (aR 0 16), some (aR 0 32), some (aR 0 40), some (aI ((nI i) + (6 : Int32))), some (aI e), some (aI r), none, none], [], (C1, D1, E1))) rfl trivial ?_
    refine z_Ev_fgt [true, true, true, true, true, false, false, false, false] ?_
    rw [nI_6]
    exact K
  · skip
    refine z_Ev_blk 3 (c' := (23, [some (aR 0 41), some (aR 0 16), some (aR 0 32), some (aR 0 40), some (aI ((nI i) + (6 : Int32))), some (aI e), some (aI r), none, none], [], (C1, D1, E1))) rfl trivial ?_
    refine z_Ev_fgt [true, true, true, true, true, false, false, false, false] ?_
    rw [nI_6]
    exact K
theorem lw_stop {xs : Nat → Int32} {L : Nat} {o : z_Rs} {M' : Mem} {k1 kk : Nat} (i : Nat) (p1 e r : Int32) (C C1 : Nat → Nat → Nat → Int32) (D D1 : Nat → Nat → Int32) (E E1 : Nat → Int64) (hi : i + 6 ≤ L) (hL : L < 2 ^ 31) (hk : xs i &&& 31 = 2) (hp1 : xs (i + 1) = p1) (hW : z_Mt xs L m_L_stop [aR 0 16, aI p1, aR 0 40] (C, D, E) (.inl (some (aI e))) (C1, D, E1) k1) (hM : z_Mt xs L m_X5_stop [aR 0 32, aI p1] (C1, D, E1) (.inl (some (aI r))) (C1, D1, E1) 0) (hT : z_Mt xs L m_X5_thrown [aR 0 32] (C1, D1, E1) (.inl (some (aI e))) (C1, D1, E1) 0) (hE : e = 0 → E1 1 = r.toInt64) (K : z_Ev xs L m_L_law (23, [some (aR 0 41), some (aR 0 16), some (aR 0 32), some (aR 0 40), some (aI (nI (i + 6))), none, none, none, none], [], (C1, D1, E1)) o M' kk) : z_Ev xs L m_L_law (23, [some (aR 0 41), some (aR 0 16), some (aR 0 32), some (aR 0 40), some (aI (nI i)), none, none, none, none], [], (C, D, E)) o M' (k1 + kk) := by
  refine z_Ev_blk 6 (c' := ((if ((Int32.ofNat L) - (6 : Int32)) < (nI i) then 1271 else 33), [some (aR 0 41), some (aR 0 16), some (aR 0 32), some (aR 0 40), some (aI (nI i)), none, none, none, none], [], (C, D, E))) rfl trivial ?_
  refine z_Ev_else (lw_in hi hL) ?_
  refine z_Ev_blk 3 (c' := (37, [some (aR 0 41), some (aR 0 16), some (aR 0 32), some (aR 0 40), some (aI (nI i)), none, none, none, none], [aI (xs (nI i).toNatClampNeg)], (C, D, E))) rfl ⟨(inb_nI (show i < L by omega) hL), trivial⟩ ?_
  rw [nI_clamp (show i < 2 ^ 31 by omega)]
  refine z_Ev_blk 2 (c' := (40, [some (aR 0 41), some (aR 0 16), some (aR 0 32), some (aR 0 40), some (aI (nI i)), none, none, none, none], [aI ((xs i) &&& (31 : Int32))], (C, D, E))) rfl trivial ?_
  rw [hk]
  refine z_Ev_blk 1 (c' := (312, [some (aR 0 41), some (aR 0 16), some (aR 0 32), some (aR 0 40), some (aI (nI i)), none, none, none, none], [], (C, D, E))) rfl trivial ?_
  refine z_Ev_blk 6 (c' := (319, [some (aR 0 41), some (aR 0 16), some (aR 0 32), some (aR 0 40), some (aI (nI i)), none, none, none, none], [aI (xs ((nI i) + (1 : Int32)).toNatClampNeg), aR 0 16], (C, D, E))) rfl ⟨(ly1 hi hL), trivial⟩ ?_
  rw [lx1 hi hL, hp1]
  refine z_Ev_blk 1 (c' := (320, [some (aR 0 41), some (aR 0 16), some (aR 0 32), some (aR 0 40), some (aI (nI i)), none, none, none, none], [aR 0 40, aI p1, aR 0 16], (C, D, E))) rfl trivial ?_
  refine z_Ev_call (m' := m_L_stop) (as := [aR 0 16, aI p1, aR 0 40]) (r := []) (k1 := k1) (k2 := kk) hW rfl rfl ?_
  refine z_Ev_blk 7 (c' := (332, [some (aR 0 41), some (aR 0 16), some (aR 0 32), some (aR 0 40), some (aI (nI i)), some (aI e), none, none, none], [aI (xs ((nI i) + (1 : Int32)).toNatClampNeg), aR 0 32], (C1, D, E1))) rfl ⟨(ly1 hi hL), trivial⟩ ?_
  rw [lx1 hi hL, hp1]
  refine z_Ev_call0 (m' := m_X5_stop) (as := [aR 0 32, aI p1]) (r := []) (hM) rfl rfl ?_
  refine z_Ev_blk 2 (c' := (338, [some (aR 0 41), some (aR 0 16), some (aR 0 32), some (aR 0 40), some (aI (nI i)), some (aI e), some (aI r), none, none], [aR 0 32], (C1, D1, E1))) rfl trivial ?_
  refine z_Ev_call0 (m' := m_X5_thrown) (as := [aR 0 32]) (r := []) (hT) rfl rfl ?_
  refine z_Ev_blk 2 (c' := ((if e = e then 348 else 346), [some (aR 0 41), some (aR 0 16), some (aR 0 32), some (aR 0 40), some (aI (nI i)), some (aI e), some (aI r), none, none], [], (C1, D1, E1))) rfl trivial ?_
  refine z_Ev_if (rfl) ?_
  refine z_Ev_blk 2 (c' := ((if e = 0 then 353 else 365), [some (aR 0 41), some (aR 0 16), some (aR 0 32), some (aR 0 40), some (aI (nI i)), some (aI e), some (aI r), none, none], [], (C1, D1, E1))) rfl trivial ?_
  refine z_Ev_ite (fun h1 => ?_) (fun h1 => ?_)
  · skip
    refine z_Ev_blk 7 (c' := ((if (lg_cmp (E1 1) (r.toInt64)) = 0 then 365 else 363), [some (aR 0 41), some (aR 0 16), some (aR 0 32), some (aR 0 40), some (aI (nI i)), some (aI e), some (aI r), none, none], [], (C1, D1, E1))) rfl ⟨rfl, trivial⟩ ?_
    refine z_Ev_if (lgE (hE (by assumption))) ?_
    refine z_Ev_blk 3 (c' := (23, [some (aR 0 41), some (aR 0 16), some (aR 0 32), some (aR 0 40), some (aI ((nI i) + (6 : Int32))), some (aI e), some (aI r), none, none], [], (C1, D1, E1))) rfl trivial ?_
    refine z_Ev_fgt [true, true, true, true, true, false, false, false, false] ?_
    rw [nI_6]
    exact K
  · skip
    refine z_Ev_blk 3 (c' := (23, [some (aR 0 41), some (aR 0 16), some (aR 0 32), some (aR 0 40), some (aI ((nI i) + (6 : Int32))), some (aI e), some (aI r), none, none], [], (C1, D1, E1))) rfl trivial ?_
    refine z_Ev_fgt [true, true, true, true, true, false, false, false, false] ?_
    rw [nI_6]
    exact K
theorem lw_lose {xs : Nat → Int32} {L : Nat} {o : z_Rs} {M' : Mem} {k1 kk : Nat} (i : Nat) (p1 e r : Int32) (C C1 : Nat → Nat → Nat → Int32) (D D1 : Nat → Nat → Int32) (E E1 : Nat → Int64) (hi : i + 6 ≤ L) (hL : L < 2 ^ 31) (hk : xs i &&& 31 = 3) (hp1 : xs (i + 1) = p1) (hW : z_Mt xs L m_L_lose [aR 0 16, aI p1, aR 0 40] (C, D, E) (.inl (some (aI e))) (C1, D, E1) k1) (hM : z_Mt xs L m_X5_lose [aR 0 32, aI p1] (C1, D, E1) (.inl (some (aI r))) (C1, D1, E1) 0) (hT : z_Mt xs L m_X5_thrown [aR 0 32] (C1, D1, E1) (.inl (some (aI e))) (C1, D1, E1) 0) (hE : e = 0 → E1 1 = r.toInt64) (K : z_Ev xs L m_L_law (23, [some (aR 0 41), some (aR 0 16), some (aR 0 32), some (aR 0 40), some (aI (nI (i + 6))), none, none, none, none], [], (C1, D1, E1)) o M' kk) : z_Ev xs L m_L_law (23, [some (aR 0 41), some (aR 0 16), some (aR 0 32), some (aR 0 40), some (aI (nI i)), none, none, none, none], [], (C, D, E)) o M' (k1 + kk) := by
  refine z_Ev_blk 6 (c' := ((if ((Int32.ofNat L) - (6 : Int32)) < (nI i) then 1271 else 33), [some (aR 0 41), some (aR 0 16), some (aR 0 32), some (aR 0 40), some (aI (nI i)), none, none, none, none], [], (C, D, E))) rfl trivial ?_
  refine z_Ev_else (lw_in hi hL) ?_
  refine z_Ev_blk 3 (c' := (37, [some (aR 0 41), some (aR 0 16), some (aR 0 32), some (aR 0 40), some (aI (nI i)), none, none, none, none], [aI (xs (nI i).toNatClampNeg)], (C, D, E))) rfl ⟨(inb_nI (show i < L by omega) hL), trivial⟩ ?_
  rw [nI_clamp (show i < 2 ^ 31 by omega)]
  refine z_Ev_blk 2 (c' := (40, [some (aR 0 41), some (aR 0 16), some (aR 0 32), some (aR 0 40), some (aI (nI i)), none, none, none, none], [aI ((xs i) &&& (31 : Int32))], (C, D, E))) rfl trivial ?_
  rw [hk]
  refine z_Ev_blk 1 (c' := (368, [some (aR 0 41), some (aR 0 16), some (aR 0 32), some (aR 0 40), some (aI (nI i)), none, none, none, none], [], (C, D, E))) rfl trivial ?_
  refine z_Ev_blk 6 (c' := (375, [some (aR 0 41), some (aR 0 16), some (aR 0 32), some (aR 0 40), some (aI (nI i)), none, none, none, none], [aI (xs ((nI i) + (1 : Int32)).toNatClampNeg), aR 0 16], (C, D, E))) rfl ⟨(ly1 hi hL), trivial⟩ ?_
  rw [lx1 hi hL, hp1]
  refine z_Ev_blk 1 (c' := (376, [some (aR 0 41), some (aR 0 16), some (aR 0 32), some (aR 0 40), some (aI (nI i)), none, none, none, none], [aR 0 40, aI p1, aR 0 16], (C, D, E))) rfl trivial ?_
  refine z_Ev_call (m' := m_L_lose) (as := [aR 0 16, aI p1, aR 0 40]) (r := []) (k1 := k1) (k2 := kk) hW rfl rfl ?_
  refine z_Ev_blk 7 (c' := (388, [some (aR 0 41), some (aR 0 16), some (aR 0 32), some (aR 0 40), some (aI (nI i)), some (aI e), none, none, none], [aI (xs ((nI i) + (1 : Int32)).toNatClampNeg), aR 0 32], (C1, D, E1))) rfl ⟨(ly1 hi hL), trivial⟩ ?_
  rw [lx1 hi hL, hp1]
  refine z_Ev_call0 (m' := m_X5_lose) (as := [aR 0 32, aI p1]) (r := []) (hM) rfl rfl ?_
  refine z_Ev_blk 2 (c' := (394, [some (aR 0 41), some (aR 0 16), some (aR 0 32), some (aR 0 40), some (aI (nI i)), some (aI e), some (aI r), none, none], [aR 0 32], (C1, D1, E1))) rfl trivial ?_
  refine z_Ev_call0 (m' := m_X5_thrown) (as := [aR 0 32]) (r := []) (hT) rfl rfl ?_
  refine z_Ev_blk 2 (c' := ((if e = e then 404 else 402), [some (aR 0 41), some (aR 0 16), some (aR 0 32), some (aR 0 40), some (aI (nI i)), some (aI e), some (aI r), none, none], [], (C1, D1, E1))) rfl trivial ?_
  refine z_Ev_if (rfl) ?_
  refine z_Ev_blk 2 (c' := ((if e = 0 then 409 else 421), [some (aR 0 41), some (aR 0 16), some (aR 0 32), some (aR 0 40), some (aI (nI i)), some (aI e), some (aI r), none, none], [], (C1, D1, E1))) rfl trivial ?_
  refine z_Ev_ite (fun h1 => ?_) (fun h1 => ?_)
  · skip
    refine z_Ev_blk 7 (c' := ((if (lg_cmp (E1 1) (r.toInt64)) = 0 then 421 else 419), [some (aR 0 41), some (aR 0 16), some (aR 0 32), some (aR 0 40), some (aI (nI i)), some (aI e), some (aI r), none, none], [], (C1, D1, E1))) rfl ⟨rfl, trivial⟩ ?_
    refine z_Ev_if (lgE (hE (by assumption))) ?_
    refine z_Ev_blk 3 (c' := (23, [some (aR 0 41), some (aR 0 16), some (aR 0 32), some (aR 0 40), some (aI ((nI i) + (6 : Int32))), some (aI e), some (aI r), none, none], [], (C1, D1, E1))) rfl trivial ?_
    refine z_Ev_fgt [true, true, true, true, true, false, false, false, false] ?_
    rw [nI_6]
    exact K
  · skip
    refine z_Ev_blk 3 (c' := (23, [some (aR 0 41), some (aR 0 16), some (aR 0 32), some (aR 0 40), some (aI ((nI i) + (6 : Int32))), some (aI e), some (aI r), none, none], [], (C1, D1, E1))) rfl trivial ?_
    refine z_Ev_fgt [true, true, true, true, true, false, false, false, false] ?_
    rw [nI_6]
    exact K
theorem lw_shed {xs : Nat → Int32} {L : Nat} {o : z_Rs} {M' : Mem} {k1 kk : Nat} (i : Nat) (r : Int32) (C C1 : Nat → Nat → Nat → Int32) (D D1 : Nat → Nat → Int32) (E E1 : Nat → Int64) (hi : i + 6 ≤ L) (hL : L < 2 ^ 31) (hk : xs i &&& 31 = 4) (hW : z_Mt xs L m_X4_shed [aR 0 16] (C, D, E) (.inl (some (aI r))) (C1, D, E1) k1) (hM : z_Mt xs L m_X5_shed [aR 0 32] (C1, D, E1) (.inl (some (aI r))) (C1, D1, E1) 0) (K : z_Ev xs L m_L_law (23, [some (aR 0 41), some (aR 0 16), some (aR 0 32), some (aR 0 40), some (aI (nI (i + 6))), none, none, none, none], [], (C1, D1, E1)) o M' kk) : z_Ev xs L m_L_law (23, [some (aR 0 41), some (aR 0 16), some (aR 0 32), some (aR 0 40), some (aI (nI i)), none, none, none, none], [], (C, D, E)) o M' (k1 + kk) := by
  refine z_Ev_blk 6 (c' := ((if ((Int32.ofNat L) - (6 : Int32)) < (nI i) then 1271 else 33), [some (aR 0 41), some (aR 0 16), some (aR 0 32), some (aR 0 40), some (aI (nI i)), none, none, none, none], [], (C, D, E))) rfl trivial ?_
  refine z_Ev_else (lw_in hi hL) ?_
  refine z_Ev_blk 3 (c' := (37, [some (aR 0 41), some (aR 0 16), some (aR 0 32), some (aR 0 40), some (aI (nI i)), none, none, none, none], [aI (xs (nI i).toNatClampNeg)], (C, D, E))) rfl ⟨(inb_nI (show i < L by omega) hL), trivial⟩ ?_
  rw [nI_clamp (show i < 2 ^ 31 by omega)]
  refine z_Ev_blk 2 (c' := (40, [some (aR 0 41), some (aR 0 16), some (aR 0 32), some (aR 0 40), some (aI (nI i)), none, none, none, none], [aI ((xs i) &&& (31 : Int32))], (C, D, E))) rfl trivial ?_
  rw [hk]
  refine z_Ev_blk 1 (c' := (424, [some (aR 0 41), some (aR 0 16), some (aR 0 32), some (aR 0 40), some (aI (nI i)), none, none, none, none], [], (C, D, E))) rfl trivial ?_
  refine z_Ev_blk 1 (c' := (425, [some (aR 0 41), some (aR 0 16), some (aR 0 32), some (aR 0 40), some (aI (nI i)), none, none, none, none], [aR 0 16], (C, D, E))) rfl trivial ?_
  refine z_Ev_call (m' := m_X4_shed) (as := [aR 0 16]) (r := []) (k1 := k1) (k2 := kk) hW rfl rfl ?_
  refine z_Ev_blk 1 (c' := (429, [some (aR 0 41), some (aR 0 16), some (aR 0 32), some (aR 0 40), some (aI (nI i)), none, none, none, none], [aR 0 32, aI r], (C1, D, E1))) rfl trivial ?_
  refine z_Ev_call0 (m' := m_X5_shed) (as := [aR 0 32]) (r := [aI r]) (hM) rfl rfl ?_
  refine z_Ev_blk 1 (c' := ((if r = r then 1265 else 435), [some (aR 0 41), some (aR 0 16), some (aR 0 32), some (aR 0 40), some (aI (nI i)), none, none, none, none], [], (C1, D1, E1))) rfl trivial ?_
  refine z_Ev_if (rfl) ?_
  refine z_Ev_blk 2 (c' := (23, [some (aR 0 41), some (aR 0 16), some (aR 0 32), some (aR 0 40), some (aI ((nI i) + (6 : Int32))), none, none, none, none], [], (C1, D1, E1))) rfl trivial ?_
  refine z_Ev_fgt [true, true, true, true, true, false, false, false, false] ?_
  rw [nI_6]
  exact K
theorem lw_forecast {xs : Nat → Int32} {L : Nat} {o : z_Rs} {M' : Mem} {k1 kk : Nat} (i : Nat) (p1 p2 e r : Int32) (C C1 : Nat → Nat → Nat → Int32) (D D1 : Nat → Nat → Int32) (E E1 : Nat → Int64) (hi : i + 6 ≤ L) (hL : L < 2 ^ 31) (hk : xs i &&& 31 = 5) (hp1 : xs (i + 1) = p1) (hp2 : xs (i + 2) = p2) (hW : z_Mt xs L m_L_forecast [aR 0 16, aI p1, aI p2, aR 0 40] (C, D, E) (.inl (some (aI e))) (C1, D, E1) k1) (hM : z_Mt xs L m_X5_forecast [aR 0 32, aI p1, aI p2] (C1, D, E1) (.inl (some (aI r))) (C1, D1, E1) 0) (hT : z_Mt xs L m_X5_thrown [aR 0 32] (C1, D1, E1) (.inl (some (aI e))) (C1, D1, E1) 0) (hE : e = 0 → E1 1 = r.toInt64) (K : z_Ev xs L m_L_law (23, [some (aR 0 41), some (aR 0 16), some (aR 0 32), some (aR 0 40), some (aI (nI (i + 6))), none, none, none, none], [], (C1, D1, E1)) o M' kk) : z_Ev xs L m_L_law (23, [some (aR 0 41), some (aR 0 16), some (aR 0 32), some (aR 0 40), some (aI (nI i)), none, none, none, none], [], (C, D, E)) o M' (k1 + kk) := by
  refine z_Ev_blk 6 (c' := ((if ((Int32.ofNat L) - (6 : Int32)) < (nI i) then 1271 else 33), [some (aR 0 41), some (aR 0 16), some (aR 0 32), some (aR 0 40), some (aI (nI i)), none, none, none, none], [], (C, D, E))) rfl trivial ?_
  refine z_Ev_else (lw_in hi hL) ?_
  refine z_Ev_blk 3 (c' := (37, [some (aR 0 41), some (aR 0 16), some (aR 0 32), some (aR 0 40), some (aI (nI i)), none, none, none, none], [aI (xs (nI i).toNatClampNeg)], (C, D, E))) rfl ⟨(inb_nI (show i < L by omega) hL), trivial⟩ ?_
  rw [nI_clamp (show i < 2 ^ 31 by omega)]
  refine z_Ev_blk 2 (c' := (40, [some (aR 0 41), some (aR 0 16), some (aR 0 32), some (aR 0 40), some (aI (nI i)), none, none, none, none], [aI ((xs i) &&& (31 : Int32))], (C, D, E))) rfl trivial ?_
  rw [hk]
  refine z_Ev_blk 1 (c' := (437, [some (aR 0 41), some (aR 0 16), some (aR 0 32), some (aR 0 40), some (aI (nI i)), none, none, none, none], [], (C, D, E))) rfl trivial ?_
  refine z_Ev_blk 6 (c' := (444, [some (aR 0 41), some (aR 0 16), some (aR 0 32), some (aR 0 40), some (aI (nI i)), none, none, none, none], [aI (xs ((nI i) + (1 : Int32)).toNatClampNeg), aR 0 16], (C, D, E))) rfl ⟨(ly1 hi hL), trivial⟩ ?_
  rw [lx1 hi hL, hp1]
  refine z_Ev_blk 5 (c' := (450, [some (aR 0 41), some (aR 0 16), some (aR 0 32), some (aR 0 40), some (aI (nI i)), none, none, none, none], [aI (xs ((nI i) + (2 : Int32)).toNatClampNeg), aI p1, aR 0 16], (C, D, E))) rfl ⟨(ly2 hi hL), trivial⟩ ?_
  rw [lx2 hi hL, hp2]
  refine z_Ev_blk 1 (c' := (451, [some (aR 0 41), some (aR 0 16), some (aR 0 32), some (aR 0 40), some (aI (nI i)), none, none, none, none], [aR 0 40, aI p2, aI p1, aR 0 16], (C, D, E))) rfl trivial ?_
  refine z_Ev_call (m' := m_L_forecast) (as := [aR 0 16, aI p1, aI p2, aR 0 40]) (r := []) (k1 := k1) (k2 := kk) hW rfl rfl ?_
  refine z_Ev_blk 7 (c' := (463, [some (aR 0 41), some (aR 0 16), some (aR 0 32), some (aR 0 40), some (aI (nI i)), some (aI e), none, none, none], [aI (xs ((nI i) + (1 : Int32)).toNatClampNeg), aR 0 32], (C1, D, E1))) rfl ⟨(ly1 hi hL), trivial⟩ ?_
  rw [lx1 hi hL, hp1]
  refine z_Ev_blk 5 (c' := (469, [some (aR 0 41), some (aR 0 16), some (aR 0 32), some (aR 0 40), some (aI (nI i)), some (aI e), none, none, none], [aI (xs ((nI i) + (2 : Int32)).toNatClampNeg), aI p1, aR 0 32], (C1, D, E1))) rfl ⟨(ly2 hi hL), trivial⟩ ?_
  rw [lx2 hi hL, hp2]
  refine z_Ev_call0 (m' := m_X5_forecast) (as := [aR 0 32, aI p1, aI p2]) (r := []) (hM) rfl rfl ?_
  refine z_Ev_blk 2 (c' := (475, [some (aR 0 41), some (aR 0 16), some (aR 0 32), some (aR 0 40), some (aI (nI i)), some (aI e), some (aI r), none, none], [aR 0 32], (C1, D1, E1))) rfl trivial ?_
  refine z_Ev_call0 (m' := m_X5_thrown) (as := [aR 0 32]) (r := []) (hT) rfl rfl ?_
  refine z_Ev_blk 2 (c' := ((if e = e then 485 else 483), [some (aR 0 41), some (aR 0 16), some (aR 0 32), some (aR 0 40), some (aI (nI i)), some (aI e), some (aI r), none, none], [], (C1, D1, E1))) rfl trivial ?_
  refine z_Ev_if (rfl) ?_
  refine z_Ev_blk 2 (c' := ((if e = 0 then 490 else 502), [some (aR 0 41), some (aR 0 16), some (aR 0 32), some (aR 0 40), some (aI (nI i)), some (aI e), some (aI r), none, none], [], (C1, D1, E1))) rfl trivial ?_
  refine z_Ev_ite (fun h1 => ?_) (fun h1 => ?_)
  · skip
    refine z_Ev_blk 7 (c' := ((if (lg_cmp (E1 1) (r.toInt64)) = 0 then 502 else 500), [some (aR 0 41), some (aR 0 16), some (aR 0 32), some (aR 0 40), some (aI (nI i)), some (aI e), some (aI r), none, none], [], (C1, D1, E1))) rfl ⟨rfl, trivial⟩ ?_
    refine z_Ev_if (lgE (hE (by assumption))) ?_
    refine z_Ev_blk 3 (c' := (23, [some (aR 0 41), some (aR 0 16), some (aR 0 32), some (aR 0 40), some (aI ((nI i) + (6 : Int32))), some (aI e), some (aI r), none, none], [], (C1, D1, E1))) rfl trivial ?_
    refine z_Ev_fgt [true, true, true, true, true, false, false, false, false] ?_
    rw [nI_6]
    exact K
  · skip
    refine z_Ev_blk 3 (c' := (23, [some (aR 0 41), some (aR 0 16), some (aR 0 32), some (aR 0 40), some (aI ((nI i) + (6 : Int32))), some (aI e), some (aI r), none, none], [], (C1, D1, E1))) rfl trivial ?_
    refine z_Ev_fgt [true, true, true, true, true, false, false, false, false] ?_
    rw [nI_6]
    exact K
theorem lw_pass {xs : Nat → Int32} {L : Nat} {o : z_Rs} {M' : Mem} {k1 kk : Nat} (i : Nat) (p1 e r : Int32) (C C1 : Nat → Nat → Nat → Int32) (D D1 : Nat → Nat → Int32) (E E1 : Nat → Int64) (hi : i + 6 ≤ L) (hL : L < 2 ^ 31) (hk : xs i &&& 31 = 6) (hp1 : xs (i + 1) = p1) (hW : z_Mt xs L m_L_pass [aR 0 16, aI p1, aR 0 40] (C, D, E) (.inl (some (aI e))) (C1, D, E1) k1) (hM : z_Mt xs L m_X5_pass [aR 0 32, aI p1] (C1, D, E1) (.inl (some (aI r))) (C1, D1, E1) 0) (hT : z_Mt xs L m_X5_thrown [aR 0 32] (C1, D1, E1) (.inl (some (aI e))) (C1, D1, E1) 0) (hE : e = 0 → E1 1 = r.toInt64) (K : z_Ev xs L m_L_law (23, [some (aR 0 41), some (aR 0 16), some (aR 0 32), some (aR 0 40), some (aI (nI (i + 6))), none, none, none, none], [], (C1, D1, E1)) o M' kk) : z_Ev xs L m_L_law (23, [some (aR 0 41), some (aR 0 16), some (aR 0 32), some (aR 0 40), some (aI (nI i)), none, none, none, none], [], (C, D, E)) o M' (k1 + kk) := by
  refine z_Ev_blk 6 (c' := ((if ((Int32.ofNat L) - (6 : Int32)) < (nI i) then 1271 else 33), [some (aR 0 41), some (aR 0 16), some (aR 0 32), some (aR 0 40), some (aI (nI i)), none, none, none, none], [], (C, D, E))) rfl trivial ?_
  refine z_Ev_else (lw_in hi hL) ?_
  refine z_Ev_blk 3 (c' := (37, [some (aR 0 41), some (aR 0 16), some (aR 0 32), some (aR 0 40), some (aI (nI i)), none, none, none, none], [aI (xs (nI i).toNatClampNeg)], (C, D, E))) rfl ⟨(inb_nI (show i < L by omega) hL), trivial⟩ ?_
  rw [nI_clamp (show i < 2 ^ 31 by omega)]
  refine z_Ev_blk 2 (c' := (40, [some (aR 0 41), some (aR 0 16), some (aR 0 32), some (aR 0 40), some (aI (nI i)), none, none, none, none], [aI ((xs i) &&& (31 : Int32))], (C, D, E))) rfl trivial ?_
  rw [hk]
  refine z_Ev_blk 1 (c' := (505, [some (aR 0 41), some (aR 0 16), some (aR 0 32), some (aR 0 40), some (aI (nI i)), none, none, none, none], [], (C, D, E))) rfl trivial ?_
  refine z_Ev_blk 6 (c' := (512, [some (aR 0 41), some (aR 0 16), some (aR 0 32), some (aR 0 40), some (aI (nI i)), none, none, none, none], [aI (xs ((nI i) + (1 : Int32)).toNatClampNeg), aR 0 16], (C, D, E))) rfl ⟨(ly1 hi hL), trivial⟩ ?_
  rw [lx1 hi hL, hp1]
  refine z_Ev_blk 1 (c' := (513, [some (aR 0 41), some (aR 0 16), some (aR 0 32), some (aR 0 40), some (aI (nI i)), none, none, none, none], [aR 0 40, aI p1, aR 0 16], (C, D, E))) rfl trivial ?_
  refine z_Ev_call (m' := m_L_pass) (as := [aR 0 16, aI p1, aR 0 40]) (r := []) (k1 := k1) (k2 := kk) hW rfl rfl ?_
  refine z_Ev_blk 7 (c' := (525, [some (aR 0 41), some (aR 0 16), some (aR 0 32), some (aR 0 40), some (aI (nI i)), some (aI e), none, none, none], [aI (xs ((nI i) + (1 : Int32)).toNatClampNeg), aR 0 32], (C1, D, E1))) rfl ⟨(ly1 hi hL), trivial⟩ ?_
  rw [lx1 hi hL, hp1]
  refine z_Ev_call0 (m' := m_X5_pass) (as := [aR 0 32, aI p1]) (r := []) (hM) rfl rfl ?_
  refine z_Ev_blk 2 (c' := (531, [some (aR 0 41), some (aR 0 16), some (aR 0 32), some (aR 0 40), some (aI (nI i)), some (aI e), some (aI r), none, none], [aR 0 32], (C1, D1, E1))) rfl trivial ?_
  refine z_Ev_call0 (m' := m_X5_thrown) (as := [aR 0 32]) (r := []) (hT) rfl rfl ?_
  refine z_Ev_blk 2 (c' := ((if e = e then 541 else 539), [some (aR 0 41), some (aR 0 16), some (aR 0 32), some (aR 0 40), some (aI (nI i)), some (aI e), some (aI r), none, none], [], (C1, D1, E1))) rfl trivial ?_
  refine z_Ev_if (rfl) ?_
  refine z_Ev_blk 2 (c' := ((if e = 0 then 546 else 558), [some (aR 0 41), some (aR 0 16), some (aR 0 32), some (aR 0 40), some (aI (nI i)), some (aI e), some (aI r), none, none], [], (C1, D1, E1))) rfl trivial ?_
  refine z_Ev_ite (fun h1 => ?_) (fun h1 => ?_)
  · skip
    refine z_Ev_blk 7 (c' := ((if (lg_cmp (E1 1) (r.toInt64)) = 0 then 558 else 556), [some (aR 0 41), some (aR 0 16), some (aR 0 32), some (aR 0 40), some (aI (nI i)), some (aI e), some (aI r), none, none], [], (C1, D1, E1))) rfl ⟨rfl, trivial⟩ ?_
    refine z_Ev_if (lgE (hE (by assumption))) ?_
    refine z_Ev_blk 3 (c' := (23, [some (aR 0 41), some (aR 0 16), some (aR 0 32), some (aR 0 40), some (aI ((nI i) + (6 : Int32))), some (aI e), some (aI r), none, none], [], (C1, D1, E1))) rfl trivial ?_
    refine z_Ev_fgt [true, true, true, true, true, false, false, false, false] ?_
    rw [nI_6]
    exact K
  · skip
    refine z_Ev_blk 3 (c' := (23, [some (aR 0 41), some (aR 0 16), some (aR 0 32), some (aR 0 40), some (aI ((nI i) + (6 : Int32))), some (aI e), some (aI r), none, none], [], (C1, D1, E1))) rfl trivial ?_
    refine z_Ev_fgt [true, true, true, true, true, false, false, false, false] ?_
    rw [nI_6]
    exact K
theorem lw_set {xs : Nat → Int32} {L : Nat} {o : z_Rs} {M' : Mem} {k1 kk : Nat} (i : Nat) (p1 p2 e r : Int32) (C C1 : Nat → Nat → Nat → Int32) (D D1 : Nat → Nat → Int32) (E E1 : Nat → Int64) (hi : i + 6 ≤ L) (hL : L < 2 ^ 31) (hk : xs i &&& 31 = 7) (hp1 : xs (i + 1) = p1) (hp2 : xs (i + 2) = p2) (hW : z_Mt xs L m_L_set [aR 0 16, aI p1, aI p2, aR 0 40] (C, D, E) (.inl (some (aI e))) (C1, D, E1) k1) (hM : z_Mt xs L m_X5_set [aR 0 32, aI p1, aI p2] (C1, D, E1) (.inl (some (aI r))) (C1, D1, E1) 0) (hT : z_Mt xs L m_X5_thrown [aR 0 32] (C1, D1, E1) (.inl (some (aI e))) (C1, D1, E1) 0) (hE : e = 0 → E1 1 = r.toInt64) (K : z_Ev xs L m_L_law (23, [some (aR 0 41), some (aR 0 16), some (aR 0 32), some (aR 0 40), some (aI (nI (i + 6))), none, none, none, none], [], (C1, D1, E1)) o M' kk) : z_Ev xs L m_L_law (23, [some (aR 0 41), some (aR 0 16), some (aR 0 32), some (aR 0 40), some (aI (nI i)), none, none, none, none], [], (C, D, E)) o M' (k1 + kk) := by
  refine z_Ev_blk 6 (c' := ((if ((Int32.ofNat L) - (6 : Int32)) < (nI i) then 1271 else 33), [some (aR 0 41), some (aR 0 16), some (aR 0 32), some (aR 0 40), some (aI (nI i)), none, none, none, none], [], (C, D, E))) rfl trivial ?_
  refine z_Ev_else (lw_in hi hL) ?_
  refine z_Ev_blk 3 (c' := (37, [some (aR 0 41), some (aR 0 16), some (aR 0 32), some (aR 0 40), some (aI (nI i)), none, none, none, none], [aI (xs (nI i).toNatClampNeg)], (C, D, E))) rfl ⟨(inb_nI (show i < L by omega) hL), trivial⟩ ?_
  rw [nI_clamp (show i < 2 ^ 31 by omega)]
  refine z_Ev_blk 2 (c' := (40, [some (aR 0 41), some (aR 0 16), some (aR 0 32), some (aR 0 40), some (aI (nI i)), none, none, none, none], [aI ((xs i) &&& (31 : Int32))], (C, D, E))) rfl trivial ?_
  rw [hk]
  refine z_Ev_blk 1 (c' := (561, [some (aR 0 41), some (aR 0 16), some (aR 0 32), some (aR 0 40), some (aI (nI i)), none, none, none, none], [], (C, D, E))) rfl trivial ?_
  refine z_Ev_blk 6 (c' := (568, [some (aR 0 41), some (aR 0 16), some (aR 0 32), some (aR 0 40), some (aI (nI i)), none, none, none, none], [aI (xs ((nI i) + (1 : Int32)).toNatClampNeg), aR 0 16], (C, D, E))) rfl ⟨(ly1 hi hL), trivial⟩ ?_
  rw [lx1 hi hL, hp1]
  refine z_Ev_blk 5 (c' := (574, [some (aR 0 41), some (aR 0 16), some (aR 0 32), some (aR 0 40), some (aI (nI i)), none, none, none, none], [aI (xs ((nI i) + (2 : Int32)).toNatClampNeg), aI p1, aR 0 16], (C, D, E))) rfl ⟨(ly2 hi hL), trivial⟩ ?_
  rw [lx2 hi hL, hp2]
  refine z_Ev_blk 1 (c' := (575, [some (aR 0 41), some (aR 0 16), some (aR 0 32), some (aR 0 40), some (aI (nI i)), none, none, none, none], [aR 0 40, aI p2, aI p1, aR 0 16], (C, D, E))) rfl trivial ?_
  refine z_Ev_call (m' := m_L_set) (as := [aR 0 16, aI p1, aI p2, aR 0 40]) (r := []) (k1 := k1) (k2 := kk) hW rfl rfl ?_
  refine z_Ev_blk 7 (c' := (587, [some (aR 0 41), some (aR 0 16), some (aR 0 32), some (aR 0 40), some (aI (nI i)), some (aI e), none, none, none], [aI (xs ((nI i) + (1 : Int32)).toNatClampNeg), aR 0 32], (C1, D, E1))) rfl ⟨(ly1 hi hL), trivial⟩ ?_
  rw [lx1 hi hL, hp1]
  refine z_Ev_blk 5 (c' := (593, [some (aR 0 41), some (aR 0 16), some (aR 0 32), some (aR 0 40), some (aI (nI i)), some (aI e), none, none, none], [aI (xs ((nI i) + (2 : Int32)).toNatClampNeg), aI p1, aR 0 32], (C1, D, E1))) rfl ⟨(ly2 hi hL), trivial⟩ ?_
  rw [lx2 hi hL, hp2]
  refine z_Ev_call0 (m' := m_X5_set) (as := [aR 0 32, aI p1, aI p2]) (r := []) (hM) rfl rfl ?_
  refine z_Ev_blk 2 (c' := (599, [some (aR 0 41), some (aR 0 16), some (aR 0 32), some (aR 0 40), some (aI (nI i)), some (aI e), some (aI r), none, none], [aR 0 32], (C1, D1, E1))) rfl trivial ?_
  refine z_Ev_call0 (m' := m_X5_thrown) (as := [aR 0 32]) (r := []) (hT) rfl rfl ?_
  refine z_Ev_blk 2 (c' := ((if e = e then 609 else 607), [some (aR 0 41), some (aR 0 16), some (aR 0 32), some (aR 0 40), some (aI (nI i)), some (aI e), some (aI r), none, none], [], (C1, D1, E1))) rfl trivial ?_
  refine z_Ev_if (rfl) ?_
  refine z_Ev_blk 2 (c' := ((if e = 0 then 614 else 626), [some (aR 0 41), some (aR 0 16), some (aR 0 32), some (aR 0 40), some (aI (nI i)), some (aI e), some (aI r), none, none], [], (C1, D1, E1))) rfl trivial ?_
  refine z_Ev_ite (fun h1 => ?_) (fun h1 => ?_)
  · skip
    refine z_Ev_blk 7 (c' := ((if (lg_cmp (E1 1) (r.toInt64)) = 0 then 626 else 624), [some (aR 0 41), some (aR 0 16), some (aR 0 32), some (aR 0 40), some (aI (nI i)), some (aI e), some (aI r), none, none], [], (C1, D1, E1))) rfl ⟨rfl, trivial⟩ ?_
    refine z_Ev_if (lgE (hE (by assumption))) ?_
    refine z_Ev_blk 3 (c' := (23, [some (aR 0 41), some (aR 0 16), some (aR 0 32), some (aR 0 40), some (aI ((nI i) + (6 : Int32))), some (aI e), some (aI r), none, none], [], (C1, D1, E1))) rfl trivial ?_
    refine z_Ev_fgt [true, true, true, true, true, false, false, false, false] ?_
    rw [nI_6]
    exact K
  · skip
    refine z_Ev_blk 3 (c' := (23, [some (aR 0 41), some (aR 0 16), some (aR 0 32), some (aR 0 40), some (aI ((nI i) + (6 : Int32))), some (aI e), some (aI r), none, none], [], (C1, D1, E1))) rfl trivial ?_
    refine z_Ev_fgt [true, true, true, true, true, false, false, false, false] ?_
    rw [nI_6]
    exact K
theorem lw_append {xs : Nat → Int32} {L : Nat} {o : z_Rs} {M' : Mem} {k1 kk : Nat} (i : Nat) (p1 e r : Int32) (C C1 : Nat → Nat → Nat → Int32) (D D1 : Nat → Nat → Int32) (E E1 : Nat → Int64) (hi : i + 6 ≤ L) (hL : L < 2 ^ 31) (hk : xs i &&& 31 = 8) (hp1 : xs (i + 1) = p1) (hW : z_Mt xs L m_L_append [aR 0 16, aI p1, aR 0 40] (C, D, E) (.inl (some (aI e))) (C1, D, E1) k1) (hM : z_Mt xs L m_X5_append [aR 0 32, aI p1] (C1, D, E1) (.inl (some (aI r))) (C1, D1, E1) 0) (hT : z_Mt xs L m_X5_thrown [aR 0 32] (C1, D1, E1) (.inl (some (aI e))) (C1, D1, E1) 0) (hE : e = 0 → E1 1 = r.toInt64) (K : z_Ev xs L m_L_law (23, [some (aR 0 41), some (aR 0 16), some (aR 0 32), some (aR 0 40), some (aI (nI (i + 6))), none, none, none, none], [], (C1, D1, E1)) o M' kk) : z_Ev xs L m_L_law (23, [some (aR 0 41), some (aR 0 16), some (aR 0 32), some (aR 0 40), some (aI (nI i)), none, none, none, none], [], (C, D, E)) o M' (k1 + kk) := by
  refine z_Ev_blk 6 (c' := ((if ((Int32.ofNat L) - (6 : Int32)) < (nI i) then 1271 else 33), [some (aR 0 41), some (aR 0 16), some (aR 0 32), some (aR 0 40), some (aI (nI i)), none, none, none, none], [], (C, D, E))) rfl trivial ?_
  refine z_Ev_else (lw_in hi hL) ?_
  refine z_Ev_blk 3 (c' := (37, [some (aR 0 41), some (aR 0 16), some (aR 0 32), some (aR 0 40), some (aI (nI i)), none, none, none, none], [aI (xs (nI i).toNatClampNeg)], (C, D, E))) rfl ⟨(inb_nI (show i < L by omega) hL), trivial⟩ ?_
  rw [nI_clamp (show i < 2 ^ 31 by omega)]
  refine z_Ev_blk 2 (c' := (40, [some (aR 0 41), some (aR 0 16), some (aR 0 32), some (aR 0 40), some (aI (nI i)), none, none, none, none], [aI ((xs i) &&& (31 : Int32))], (C, D, E))) rfl trivial ?_
  rw [hk]
  refine z_Ev_blk 1 (c' := (629, [some (aR 0 41), some (aR 0 16), some (aR 0 32), some (aR 0 40), some (aI (nI i)), none, none, none, none], [], (C, D, E))) rfl trivial ?_
  refine z_Ev_blk 6 (c' := (636, [some (aR 0 41), some (aR 0 16), some (aR 0 32), some (aR 0 40), some (aI (nI i)), none, none, none, none], [aI (xs ((nI i) + (1 : Int32)).toNatClampNeg), aR 0 16], (C, D, E))) rfl ⟨(ly1 hi hL), trivial⟩ ?_
  rw [lx1 hi hL, hp1]
  refine z_Ev_blk 1 (c' := (637, [some (aR 0 41), some (aR 0 16), some (aR 0 32), some (aR 0 40), some (aI (nI i)), none, none, none, none], [aR 0 40, aI p1, aR 0 16], (C, D, E))) rfl trivial ?_
  refine z_Ev_call (m' := m_L_append) (as := [aR 0 16, aI p1, aR 0 40]) (r := []) (k1 := k1) (k2 := kk) hW rfl rfl ?_
  refine z_Ev_blk 7 (c' := (649, [some (aR 0 41), some (aR 0 16), some (aR 0 32), some (aR 0 40), some (aI (nI i)), some (aI e), none, none, none], [aI (xs ((nI i) + (1 : Int32)).toNatClampNeg), aR 0 32], (C1, D, E1))) rfl ⟨(ly1 hi hL), trivial⟩ ?_
  rw [lx1 hi hL, hp1]
  refine z_Ev_call0 (m' := m_X5_append) (as := [aR 0 32, aI p1]) (r := []) (hM) rfl rfl ?_
  refine z_Ev_blk 2 (c' := (655, [some (aR 0 41), some (aR 0 16), some (aR 0 32), some (aR 0 40), some (aI (nI i)), some (aI e), some (aI r), none, none], [aR 0 32], (C1, D1, E1))) rfl trivial ?_
  refine z_Ev_call0 (m' := m_X5_thrown) (as := [aR 0 32]) (r := []) (hT) rfl rfl ?_
  refine z_Ev_blk 2 (c' := ((if e = e then 665 else 663), [some (aR 0 41), some (aR 0 16), some (aR 0 32), some (aR 0 40), some (aI (nI i)), some (aI e), some (aI r), none, none], [], (C1, D1, E1))) rfl trivial ?_
  refine z_Ev_if (rfl) ?_
  refine z_Ev_blk 2 (c' := ((if e = 0 then 670 else 682), [some (aR 0 41), some (aR 0 16), some (aR 0 32), some (aR 0 40), some (aI (nI i)), some (aI e), some (aI r), none, none], [], (C1, D1, E1))) rfl trivial ?_
  refine z_Ev_ite (fun h1 => ?_) (fun h1 => ?_)
  · skip
    refine z_Ev_blk 7 (c' := ((if (lg_cmp (E1 1) (r.toInt64)) = 0 then 682 else 680), [some (aR 0 41), some (aR 0 16), some (aR 0 32), some (aR 0 40), some (aI (nI i)), some (aI e), some (aI r), none, none], [], (C1, D1, E1))) rfl ⟨rfl, trivial⟩ ?_
    refine z_Ev_if (lgE (hE (by assumption))) ?_
    refine z_Ev_blk 3 (c' := (23, [some (aR 0 41), some (aR 0 16), some (aR 0 32), some (aR 0 40), some (aI ((nI i) + (6 : Int32))), some (aI e), some (aI r), none, none], [], (C1, D1, E1))) rfl trivial ?_
    refine z_Ev_fgt [true, true, true, true, true, false, false, false, false] ?_
    rw [nI_6]
    exact K
  · skip
    refine z_Ev_blk 3 (c' := (23, [some (aR 0 41), some (aR 0 16), some (aR 0 32), some (aR 0 40), some (aI ((nI i) + (6 : Int32))), some (aI e), some (aI r), none, none], [], (C1, D1, E1))) rfl trivial ?_
    refine z_Ev_fgt [true, true, true, true, true, false, false, false, false] ?_
    rw [nI_6]
    exact K
theorem lw_clearBuffer {xs : Nat → Int32} {L : Nat} {o : z_Rs} {M' : Mem} {k1 kk : Nat} (i : Nat) (r : Int32) (C C1 : Nat → Nat → Nat → Int32) (D D1 : Nat → Nat → Int32) (E E1 : Nat → Int64) (hi : i + 6 ≤ L) (hL : L < 2 ^ 31) (hk : xs i &&& 31 = 9) (hW : z_Mt xs L m_X4_clearBuffer [aR 0 16] (C, D, E) (.inl (some (aI r))) (C1, D, E1) k1) (hM : z_Mt xs L m_X5_clearBuffer [aR 0 32] (C1, D, E1) (.inl (some (aI r))) (C1, D1, E1) 0) (K : z_Ev xs L m_L_law (23, [some (aR 0 41), some (aR 0 16), some (aR 0 32), some (aR 0 40), some (aI (nI (i + 6))), none, none, none, none], [], (C1, D1, E1)) o M' kk) : z_Ev xs L m_L_law (23, [some (aR 0 41), some (aR 0 16), some (aR 0 32), some (aR 0 40), some (aI (nI i)), none, none, none, none], [], (C, D, E)) o M' (k1 + kk) := by
  refine z_Ev_blk 6 (c' := ((if ((Int32.ofNat L) - (6 : Int32)) < (nI i) then 1271 else 33), [some (aR 0 41), some (aR 0 16), some (aR 0 32), some (aR 0 40), some (aI (nI i)), none, none, none, none], [], (C, D, E))) rfl trivial ?_
  refine z_Ev_else (lw_in hi hL) ?_
  refine z_Ev_blk 3 (c' := (37, [some (aR 0 41), some (aR 0 16), some (aR 0 32), some (aR 0 40), some (aI (nI i)), none, none, none, none], [aI (xs (nI i).toNatClampNeg)], (C, D, E))) rfl ⟨(inb_nI (show i < L by omega) hL), trivial⟩ ?_
  rw [nI_clamp (show i < 2 ^ 31 by omega)]
  refine z_Ev_blk 2 (c' := (40, [some (aR 0 41), some (aR 0 16), some (aR 0 32), some (aR 0 40), some (aI (nI i)), none, none, none, none], [aI ((xs i) &&& (31 : Int32))], (C, D, E))) rfl trivial ?_
  rw [hk]
  refine z_Ev_blk 1 (c' := (685, [some (aR 0 41), some (aR 0 16), some (aR 0 32), some (aR 0 40), some (aI (nI i)), none, none, none, none], [], (C, D, E))) rfl trivial ?_
  refine z_Ev_blk 1 (c' := (686, [some (aR 0 41), some (aR 0 16), some (aR 0 32), some (aR 0 40), some (aI (nI i)), none, none, none, none], [aR 0 16], (C, D, E))) rfl trivial ?_
  refine z_Ev_call (m' := m_X4_clearBuffer) (as := [aR 0 16]) (r := []) (k1 := k1) (k2 := kk) hW rfl rfl ?_
  refine z_Ev_blk 1 (c' := (690, [some (aR 0 41), some (aR 0 16), some (aR 0 32), some (aR 0 40), some (aI (nI i)), none, none, none, none], [aR 0 32, aI r], (C1, D, E1))) rfl trivial ?_
  refine z_Ev_call0 (m' := m_X5_clearBuffer) (as := [aR 0 32]) (r := [aI r]) (hM) rfl rfl ?_
  refine z_Ev_blk 1 (c' := ((if r = r then 1265 else 696), [some (aR 0 41), some (aR 0 16), some (aR 0 32), some (aR 0 40), some (aI (nI i)), none, none, none, none], [], (C1, D1, E1))) rfl trivial ?_
  refine z_Ev_if (rfl) ?_
  refine z_Ev_blk 2 (c' := (23, [some (aR 0 41), some (aR 0 16), some (aR 0 32), some (aR 0 40), some (aI ((nI i) + (6 : Int32))), none, none, none, none], [], (C1, D1, E1))) rfl trivial ?_
  refine z_Ev_fgt [true, true, true, true, true, false, false, false, false] ?_
  rw [nI_6]
  exact K
theorem lw_firstError {xs : Nat → Int32} {L : Nat} {o : z_Rs} {M' : Mem} {k1 kk : Nat} (i : Nat) (r : Int32) (C C1 : Nat → Nat → Nat → Int32) (D D1 : Nat → Nat → Int32) (E E1 : Nat → Int64) (hi : i + 6 ≤ L) (hL : L < 2 ^ 31) (hk : xs i &&& 31 = 10) (hW : z_Mt xs L m_X4_firstError [aR 0 16] (C, D, E) (.inl (some (aI r))) (C1, D, E1) k1) (hM : z_Mt xs L m_X5_firstError [aR 0 32] (C1, D, E1) (.inl (some (aI r))) (C1, D1, E1) 0) (K : z_Ev xs L m_L_law (23, [some (aR 0 41), some (aR 0 16), some (aR 0 32), some (aR 0 40), some (aI (nI (i + 6))), none, none, none, none], [], (C1, D1, E1)) o M' kk) : z_Ev xs L m_L_law (23, [some (aR 0 41), some (aR 0 16), some (aR 0 32), some (aR 0 40), some (aI (nI i)), none, none, none, none], [], (C, D, E)) o M' (k1 + kk) := by
  refine z_Ev_blk 6 (c' := ((if ((Int32.ofNat L) - (6 : Int32)) < (nI i) then 1271 else 33), [some (aR 0 41), some (aR 0 16), some (aR 0 32), some (aR 0 40), some (aI (nI i)), none, none, none, none], [], (C, D, E))) rfl trivial ?_
  refine z_Ev_else (lw_in hi hL) ?_
  refine z_Ev_blk 3 (c' := (37, [some (aR 0 41), some (aR 0 16), some (aR 0 32), some (aR 0 40), some (aI (nI i)), none, none, none, none], [aI (xs (nI i).toNatClampNeg)], (C, D, E))) rfl ⟨(inb_nI (show i < L by omega) hL), trivial⟩ ?_
  rw [nI_clamp (show i < 2 ^ 31 by omega)]
  refine z_Ev_blk 2 (c' := (40, [some (aR 0 41), some (aR 0 16), some (aR 0 32), some (aR 0 40), some (aI (nI i)), none, none, none, none], [aI ((xs i) &&& (31 : Int32))], (C, D, E))) rfl trivial ?_
  rw [hk]
  refine z_Ev_blk 1 (c' := (698, [some (aR 0 41), some (aR 0 16), some (aR 0 32), some (aR 0 40), some (aI (nI i)), none, none, none, none], [], (C, D, E))) rfl trivial ?_
  refine z_Ev_blk 1 (c' := (699, [some (aR 0 41), some (aR 0 16), some (aR 0 32), some (aR 0 40), some (aI (nI i)), none, none, none, none], [aR 0 16], (C, D, E))) rfl trivial ?_
  refine z_Ev_call (m' := m_X4_firstError) (as := [aR 0 16]) (r := []) (k1 := k1) (k2 := kk) hW rfl rfl ?_
  refine z_Ev_blk 1 (c' := (703, [some (aR 0 41), some (aR 0 16), some (aR 0 32), some (aR 0 40), some (aI (nI i)), none, none, none, none], [aR 0 32, aI r], (C1, D, E1))) rfl trivial ?_
  refine z_Ev_call0 (m' := m_X5_firstError) (as := [aR 0 32]) (r := [aI r]) (hM) rfl rfl ?_
  refine z_Ev_blk 1 (c' := ((if r = r then 1265 else 709), [some (aR 0 41), some (aR 0 16), some (aR 0 32), some (aR 0 40), some (aI (nI i)), none, none, none, none], [], (C1, D1, E1))) rfl trivial ?_
  refine z_Ev_if (rfl) ?_
  refine z_Ev_blk 2 (c' := (23, [some (aR 0 41), some (aR 0 16), some (aR 0 32), some (aR 0 40), some (aI ((nI i) + (6 : Int32))), none, none, none, none], [], (C1, D1, E1))) rfl trivial ?_
  refine z_Ev_fgt [true, true, true, true, true, false, false, false, false] ?_
  rw [nI_6]
  exact K
theorem lw_run {xs : Nat → Int32} {L : Nat} {o : z_Rs} {M' : Mem} {k1 kk : Nat} (i : Nat) (e r : Int32) (C C1 : Nat → Nat → Nat → Int32) (D D1 : Nat → Nat → Int32) (E E1 : Nat → Int64) (hi : i + 6 ≤ L) (hL : L < 2 ^ 31) (hk : xs i &&& 31 = 11)  (hW : z_Mt xs L m_L_run [aR 0 16, aR 0 40] (C, D, E) (.inl (some (aI e))) (C1, D, E1) k1) (hM : z_Mt xs L m_X5_run [aR 0 32] (C1, D, E1) (.inl (some (aI r))) (C1, D1, E1) 0) (hT : z_Mt xs L m_X5_thrown [aR 0 32] (C1, D1, E1) (.inl (some (aI e))) (C1, D1, E1) 0) (hE : e = 0 → E1 1 = r.toInt64) (K : z_Ev xs L m_L_law (23, [some (aR 0 41), some (aR 0 16), some (aR 0 32), some (aR 0 40), some (aI (nI (i + 6))), none, none, none, none], [], (C1, D1, E1)) o M' kk) : z_Ev xs L m_L_law (23, [some (aR 0 41), some (aR 0 16), some (aR 0 32), some (aR 0 40), some (aI (nI i)), none, none, none, none], [], (C, D, E)) o M' (k1 + kk) := by
  refine z_Ev_blk 6 (c' := ((if ((Int32.ofNat L) - (6 : Int32)) < (nI i) then 1271 else 33), [some (aR 0 41), some (aR 0 16), some (aR 0 32), some (aR 0 40), some (aI (nI i)), none, none, none, none], [], (C, D, E))) rfl trivial ?_
  refine z_Ev_else (lw_in hi hL) ?_
  refine z_Ev_blk 3 (c' := (37, [some (aR 0 41), some (aR 0 16), some (aR 0 32), some (aR 0 40), some (aI (nI i)), none, none, none, none], [aI (xs (nI i).toNatClampNeg)], (C, D, E))) rfl ⟨(inb_nI (show i < L by omega) hL), trivial⟩ ?_
  rw [nI_clamp (show i < 2 ^ 31 by omega)]
  refine z_Ev_blk 2 (c' := (40, [some (aR 0 41), some (aR 0 16), some (aR 0 32), some (aR 0 40), some (aI (nI i)), none, none, none, none], [aI ((xs i) &&& (31 : Int32))], (C, D, E))) rfl trivial ?_
  rw [hk]
  refine z_Ev_blk 1 (c' := (711, [some (aR 0 41), some (aR 0 16), some (aR 0 32), some (aR 0 40), some (aI (nI i)), none, none, none, none], [], (C, D, E))) rfl trivial ?_
  refine z_Ev_blk 2 (c' := (713, [some (aR 0 41), some (aR 0 16), some (aR 0 32), some (aR 0 40), some (aI (nI i)), none, none, none, none], [aR 0 40, aR 0 16], (C, D, E))) rfl trivial ?_
  refine z_Ev_call (m' := m_L_run) (as := [aR 0 16, aR 0 40]) (r := []) (k1 := k1) (k2 := kk) hW rfl rfl ?_
  refine z_Ev_blk 2 (c' := (719, [some (aR 0 41), some (aR 0 16), some (aR 0 32), some (aR 0 40), some (aI (nI i)), some (aI e), none, none, none], [aR 0 32], (C1, D, E1))) rfl trivial ?_
  refine z_Ev_call0 (m' := m_X5_run) (as := [aR 0 32]) (r := []) (hM) rfl rfl ?_
  refine z_Ev_blk 2 (c' := (725, [some (aR 0 41), some (aR 0 16), some (aR 0 32), some (aR 0 40), some (aI (nI i)), some (aI e), some (aI r), none, none], [aR 0 32], (C1, D1, E1))) rfl trivial ?_
  refine z_Ev_call0 (m' := m_X5_thrown) (as := [aR 0 32]) (r := []) (hT) rfl rfl ?_
  refine z_Ev_blk 2 (c' := ((if e = e then 735 else 733), [some (aR 0 41), some (aR 0 16), some (aR 0 32), some (aR 0 40), some (aI (nI i)), some (aI e), some (aI r), none, none], [], (C1, D1, E1))) rfl trivial ?_
  refine z_Ev_if (rfl) ?_
  refine z_Ev_blk 2 (c' := ((if e = 0 then 740 else 752), [some (aR 0 41), some (aR 0 16), some (aR 0 32), some (aR 0 40), some (aI (nI i)), some (aI e), some (aI r), none, none], [], (C1, D1, E1))) rfl trivial ?_
  refine z_Ev_ite (fun h1 => ?_) (fun h1 => ?_)
  · skip
    refine z_Ev_blk 7 (c' := ((if (lg_cmp (E1 1) (r.toInt64)) = 0 then 752 else 750), [some (aR 0 41), some (aR 0 16), some (aR 0 32), some (aR 0 40), some (aI (nI i)), some (aI e), some (aI r), none, none], [], (C1, D1, E1))) rfl ⟨rfl, trivial⟩ ?_
    refine z_Ev_if (lgE (hE (by assumption))) ?_
    refine z_Ev_blk 3 (c' := (23, [some (aR 0 41), some (aR 0 16), some (aR 0 32), some (aR 0 40), some (aI ((nI i) + (6 : Int32))), some (aI e), some (aI r), none, none], [], (C1, D1, E1))) rfl trivial ?_
    refine z_Ev_fgt [true, true, true, true, true, false, false, false, false] ?_
    rw [nI_6]
    exact K
  · skip
    refine z_Ev_blk 3 (c' := (23, [some (aR 0 41), some (aR 0 16), some (aR 0 32), some (aR 0 40), some (aI ((nI i) + (6 : Int32))), some (aI e), some (aI r), none, none], [], (C1, D1, E1))) rfl trivial ?_
    refine z_Ev_fgt [true, true, true, true, true, false, false, false, false] ?_
    rw [nI_6]
    exact K
theorem lw_undo {xs : Nat → Int32} {L : Nat} {o : z_Rs} {M' : Mem} {k1 kk : Nat} (i : Nat) (e r : Int32) (C C1 : Nat → Nat → Nat → Int32) (D D1 : Nat → Nat → Int32) (E E1 : Nat → Int64) (hi : i + 6 ≤ L) (hL : L < 2 ^ 31) (hk : xs i &&& 31 = 12)  (hW : z_Mt xs L m_L_undo [aR 0 16, aR 0 40] (C, D, E) (.inl (some (aI e))) (C1, D, E1) k1) (hM : z_Mt xs L m_X5_undo [aR 0 32] (C1, D, E1) (.inl (some (aI r))) (C1, D1, E1) 0) (hT : z_Mt xs L m_X5_thrown [aR 0 32] (C1, D1, E1) (.inl (some (aI e))) (C1, D1, E1) 0) (hE : e = 0 → E1 1 = r.toInt64) (K : z_Ev xs L m_L_law (23, [some (aR 0 41), some (aR 0 16), some (aR 0 32), some (aR 0 40), some (aI (nI (i + 6))), none, none, none, none], [], (C1, D1, E1)) o M' kk) : z_Ev xs L m_L_law (23, [some (aR 0 41), some (aR 0 16), some (aR 0 32), some (aR 0 40), some (aI (nI i)), none, none, none, none], [], (C, D, E)) o M' (k1 + kk) := by
  refine z_Ev_blk 6 (c' := ((if ((Int32.ofNat L) - (6 : Int32)) < (nI i) then 1271 else 33), [some (aR 0 41), some (aR 0 16), some (aR 0 32), some (aR 0 40), some (aI (nI i)), none, none, none, none], [], (C, D, E))) rfl trivial ?_
  refine z_Ev_else (lw_in hi hL) ?_
  refine z_Ev_blk 3 (c' := (37, [some (aR 0 41), some (aR 0 16), some (aR 0 32), some (aR 0 40), some (aI (nI i)), none, none, none, none], [aI (xs (nI i).toNatClampNeg)], (C, D, E))) rfl ⟨(inb_nI (show i < L by omega) hL), trivial⟩ ?_
  rw [nI_clamp (show i < 2 ^ 31 by omega)]
  refine z_Ev_blk 2 (c' := (40, [some (aR 0 41), some (aR 0 16), some (aR 0 32), some (aR 0 40), some (aI (nI i)), none, none, none, none], [aI ((xs i) &&& (31 : Int32))], (C, D, E))) rfl trivial ?_
  rw [hk]
  refine z_Ev_blk 1 (c' := (755, [some (aR 0 41), some (aR 0 16), some (aR 0 32), some (aR 0 40), some (aI (nI i)), none, none, none, none], [], (C, D, E))) rfl trivial ?_
  refine z_Ev_blk 2 (c' := (757, [some (aR 0 41), some (aR 0 16), some (aR 0 32), some (aR 0 40), some (aI (nI i)), none, none, none, none], [aR 0 40, aR 0 16], (C, D, E))) rfl trivial ?_
  refine z_Ev_call (m' := m_L_undo) (as := [aR 0 16, aR 0 40]) (r := []) (k1 := k1) (k2 := kk) hW rfl rfl ?_
  refine z_Ev_blk 2 (c' := (763, [some (aR 0 41), some (aR 0 16), some (aR 0 32), some (aR 0 40), some (aI (nI i)), some (aI e), none, none, none], [aR 0 32], (C1, D, E1))) rfl trivial ?_
  refine z_Ev_call0 (m' := m_X5_undo) (as := [aR 0 32]) (r := []) (hM) rfl rfl ?_
  refine z_Ev_blk 2 (c' := (769, [some (aR 0 41), some (aR 0 16), some (aR 0 32), some (aR 0 40), some (aI (nI i)), some (aI e), some (aI r), none, none], [aR 0 32], (C1, D1, E1))) rfl trivial ?_
  refine z_Ev_call0 (m' := m_X5_thrown) (as := [aR 0 32]) (r := []) (hT) rfl rfl ?_
  refine z_Ev_blk 2 (c' := ((if e = e then 779 else 777), [some (aR 0 41), some (aR 0 16), some (aR 0 32), some (aR 0 40), some (aI (nI i)), some (aI e), some (aI r), none, none], [], (C1, D1, E1))) rfl trivial ?_
  refine z_Ev_if (rfl) ?_
  refine z_Ev_blk 2 (c' := ((if e = 0 then 784 else 796), [some (aR 0 41), some (aR 0 16), some (aR 0 32), some (aR 0 40), some (aI (nI i)), some (aI e), some (aI r), none, none], [], (C1, D1, E1))) rfl trivial ?_
  refine z_Ev_ite (fun h1 => ?_) (fun h1 => ?_)
  · skip
    refine z_Ev_blk 7 (c' := ((if (lg_cmp (E1 1) (r.toInt64)) = 0 then 796 else 794), [some (aR 0 41), some (aR 0 16), some (aR 0 32), some (aR 0 40), some (aI (nI i)), some (aI e), some (aI r), none, none], [], (C1, D1, E1))) rfl ⟨rfl, trivial⟩ ?_
    refine z_Ev_if (lgE (hE (by assumption))) ?_
    refine z_Ev_blk 3 (c' := (23, [some (aR 0 41), some (aR 0 16), some (aR 0 32), some (aR 0 40), some (aI ((nI i) + (6 : Int32))), some (aI e), some (aI r), none, none], [], (C1, D1, E1))) rfl trivial ?_
    refine z_Ev_fgt [true, true, true, true, true, false, false, false, false] ?_
    rw [nI_6]
    exact K
  · skip
    refine z_Ev_blk 3 (c' := (23, [some (aR 0 41), some (aR 0 16), some (aR 0 32), some (aR 0 40), some (aI ((nI i) + (6 : Int32))), some (aI e), some (aI r), none, none], [], (C1, D1, E1))) rfl trivial ?_
    refine z_Ev_fgt [true, true, true, true, true, false, false, false, false] ?_
    rw [nI_6]
    exact K
theorem lw_setOf {xs : Nat → Int32} {L : Nat} {o : z_Rs} {M' : Mem} {k1 kk : Nat} (i : Nat) (p1 p2 e r : Int32) (C C1 : Nat → Nat → Nat → Int32) (D D1 : Nat → Nat → Int32) (E E1 : Nat → Int64) (hi : i + 6 ≤ L) (hL : L < 2 ^ 31) (hk : xs i &&& 31 = 13) (hp1 : xs (i + 1) = p1) (hp2 : xs (i + 2) = p2) (hW : z_Mt xs L m_L_setOf [aR 0 16, aI p1, aI p2, aR 0 40] (C, D, E) (.inl (some (aI e))) (C1, D, E1) k1) (hM : z_Mt xs L m_X5_setOf [aR 0 32, aI p1, aI p2] (C1, D, E1) (.inl (some (aI r))) (C1, D1, E1) 0) (hT : z_Mt xs L m_X5_thrown [aR 0 32] (C1, D1, E1) (.inl (some (aI e))) (C1, D1, E1) 0) (hE : e = 0 → E1 1 = r.toInt64) (K : z_Ev xs L m_L_law (23, [some (aR 0 41), some (aR 0 16), some (aR 0 32), some (aR 0 40), some (aI (nI (i + 6))), none, none, none, none], [], (C1, D1, E1)) o M' kk) : z_Ev xs L m_L_law (23, [some (aR 0 41), some (aR 0 16), some (aR 0 32), some (aR 0 40), some (aI (nI i)), none, none, none, none], [], (C, D, E)) o M' (k1 + kk) := by
  refine z_Ev_blk 6 (c' := ((if ((Int32.ofNat L) - (6 : Int32)) < (nI i) then 1271 else 33), [some (aR 0 41), some (aR 0 16), some (aR 0 32), some (aR 0 40), some (aI (nI i)), none, none, none, none], [], (C, D, E))) rfl trivial ?_
  refine z_Ev_else (lw_in hi hL) ?_
  refine z_Ev_blk 3 (c' := (37, [some (aR 0 41), some (aR 0 16), some (aR 0 32), some (aR 0 40), some (aI (nI i)), none, none, none, none], [aI (xs (nI i).toNatClampNeg)], (C, D, E))) rfl ⟨(inb_nI (show i < L by omega) hL), trivial⟩ ?_
  rw [nI_clamp (show i < 2 ^ 31 by omega)]
  refine z_Ev_blk 2 (c' := (40, [some (aR 0 41), some (aR 0 16), some (aR 0 32), some (aR 0 40), some (aI (nI i)), none, none, none, none], [aI ((xs i) &&& (31 : Int32))], (C, D, E))) rfl trivial ?_
  rw [hk]
  refine z_Ev_blk 1 (c' := (799, [some (aR 0 41), some (aR 0 16), some (aR 0 32), some (aR 0 40), some (aI (nI i)), none, none, none, none], [], (C, D, E))) rfl trivial ?_
  refine z_Ev_blk 6 (c' := (806, [some (aR 0 41), some (aR 0 16), some (aR 0 32), some (aR 0 40), some (aI (nI i)), none, none, none, none], [aI (xs ((nI i) + (1 : Int32)).toNatClampNeg), aR 0 16], (C, D, E))) rfl ⟨(ly1 hi hL), trivial⟩ ?_
  rw [lx1 hi hL, hp1]
  refine z_Ev_blk 5 (c' := (812, [some (aR 0 41), some (aR 0 16), some (aR 0 32), some (aR 0 40), some (aI (nI i)), none, none, none, none], [aI (xs ((nI i) + (2 : Int32)).toNatClampNeg), aI p1, aR 0 16], (C, D, E))) rfl ⟨(ly2 hi hL), trivial⟩ ?_
  rw [lx2 hi hL, hp2]
  refine z_Ev_blk 1 (c' := (813, [some (aR 0 41), some (aR 0 16), some (aR 0 32), some (aR 0 40), some (aI (nI i)), none, none, none, none], [aR 0 40, aI p2, aI p1, aR 0 16], (C, D, E))) rfl trivial ?_
  refine z_Ev_call (m' := m_L_setOf) (as := [aR 0 16, aI p1, aI p2, aR 0 40]) (r := []) (k1 := k1) (k2 := kk) hW rfl rfl ?_
  refine z_Ev_blk 7 (c' := (825, [some (aR 0 41), some (aR 0 16), some (aR 0 32), some (aR 0 40), some (aI (nI i)), some (aI e), none, none, none], [aI (xs ((nI i) + (1 : Int32)).toNatClampNeg), aR 0 32], (C1, D, E1))) rfl ⟨(ly1 hi hL), trivial⟩ ?_
  rw [lx1 hi hL, hp1]
  refine z_Ev_blk 5 (c' := (831, [some (aR 0 41), some (aR 0 16), some (aR 0 32), some (aR 0 40), some (aI (nI i)), some (aI e), none, none, none], [aI (xs ((nI i) + (2 : Int32)).toNatClampNeg), aI p1, aR 0 32], (C1, D, E1))) rfl ⟨(ly2 hi hL), trivial⟩ ?_
  rw [lx2 hi hL, hp2]
  refine z_Ev_call0 (m' := m_X5_setOf) (as := [aR 0 32, aI p1, aI p2]) (r := []) (hM) rfl rfl ?_
  refine z_Ev_blk 2 (c' := (837, [some (aR 0 41), some (aR 0 16), some (aR 0 32), some (aR 0 40), some (aI (nI i)), some (aI e), some (aI r), none, none], [aR 0 32], (C1, D1, E1))) rfl trivial ?_
  refine z_Ev_call0 (m' := m_X5_thrown) (as := [aR 0 32]) (r := []) (hT) rfl rfl ?_
  refine z_Ev_blk 2 (c' := ((if e = e then 847 else 845), [some (aR 0 41), some (aR 0 16), some (aR 0 32), some (aR 0 40), some (aI (nI i)), some (aI e), some (aI r), none, none], [], (C1, D1, E1))) rfl trivial ?_
  refine z_Ev_if (rfl) ?_
  refine z_Ev_blk 2 (c' := ((if e = 0 then 852 else 864), [some (aR 0 41), some (aR 0 16), some (aR 0 32), some (aR 0 40), some (aI (nI i)), some (aI e), some (aI r), none, none], [], (C1, D1, E1))) rfl trivial ?_
  refine z_Ev_ite (fun h1 => ?_) (fun h1 => ?_)
  · skip
    refine z_Ev_blk 7 (c' := ((if (lg_cmp (E1 1) (r.toInt64)) = 0 then 864 else 862), [some (aR 0 41), some (aR 0 16), some (aR 0 32), some (aR 0 40), some (aI (nI i)), some (aI e), some (aI r), none, none], [], (C1, D1, E1))) rfl ⟨rfl, trivial⟩ ?_
    refine z_Ev_if (lgE (hE (by assumption))) ?_
    refine z_Ev_blk 3 (c' := (23, [some (aR 0 41), some (aR 0 16), some (aR 0 32), some (aR 0 40), some (aI ((nI i) + (6 : Int32))), some (aI e), some (aI r), none, none], [], (C1, D1, E1))) rfl trivial ?_
    refine z_Ev_fgt [true, true, true, true, true, false, false, false, false] ?_
    rw [nI_6]
    exact K
  · skip
    refine z_Ev_blk 3 (c' := (23, [some (aR 0 41), some (aR 0 16), some (aR 0 32), some (aR 0 40), some (aI ((nI i) + (6 : Int32))), some (aI e), some (aI r), none, none], [], (C1, D1, E1))) rfl trivial ?_
    refine z_Ev_fgt [true, true, true, true, true, false, false, false, false] ?_
    rw [nI_6]
    exact K
theorem lw_hour {xs : Nat → Int32} {L : Nat} {o : z_Rs} {M' : Mem} {k1 kk : Nat} (i : Nat) (p1 p2 e r : Int32) (C C1 : Nat → Nat → Nat → Int32) (D D1 : Nat → Nat → Int32) (E E1 : Nat → Int64) (hi : i + 6 ≤ L) (hL : L < 2 ^ 31) (hk : xs i &&& 31 = 14) (hp1 : xs (i + 1) = p1) (hp2 : xs (i + 2) = p2) (hW : z_Mt xs L m_L_hour [aR 0 16, aI p1, aI p2, aR 0 40] (C, D, E) (.inl (some (aI e))) (C1, D, E1) k1) (hM : z_Mt xs L m_X5_hour [aR 0 32, aI p1, aI p2] (C1, D, E1) (.inl (some (aI r))) (C1, D1, E1) 0) (hT : z_Mt xs L m_X5_thrown [aR 0 32] (C1, D1, E1) (.inl (some (aI e))) (C1, D1, E1) 0) (hE : e = 0 → E1 1 = r.toInt64) (K : z_Ev xs L m_L_law (23, [some (aR 0 41), some (aR 0 16), some (aR 0 32), some (aR 0 40), some (aI (nI (i + 6))), none, none, none, none], [], (C1, D1, E1)) o M' kk) : z_Ev xs L m_L_law (23, [some (aR 0 41), some (aR 0 16), some (aR 0 32), some (aR 0 40), some (aI (nI i)), none, none, none, none], [], (C, D, E)) o M' (k1 + kk) := by
  refine z_Ev_blk 6 (c' := ((if ((Int32.ofNat L) - (6 : Int32)) < (nI i) then 1271 else 33), [some (aR 0 41), some (aR 0 16), some (aR 0 32), some (aR 0 40), some (aI (nI i)), none, none, none, none], [], (C, D, E))) rfl trivial ?_
  refine z_Ev_else (lw_in hi hL) ?_
  refine z_Ev_blk 3 (c' := (37, [some (aR 0 41), some (aR 0 16), some (aR 0 32), some (aR 0 40), some (aI (nI i)), none, none, none, none], [aI (xs (nI i).toNatClampNeg)], (C, D, E))) rfl ⟨(inb_nI (show i < L by omega) hL), trivial⟩ ?_
  rw [nI_clamp (show i < 2 ^ 31 by omega)]
  refine z_Ev_blk 2 (c' := (40, [some (aR 0 41), some (aR 0 16), some (aR 0 32), some (aR 0 40), some (aI (nI i)), none, none, none, none], [aI ((xs i) &&& (31 : Int32))], (C, D, E))) rfl trivial ?_
  rw [hk]
  refine z_Ev_blk 1 (c' := (867, [some (aR 0 41), some (aR 0 16), some (aR 0 32), some (aR 0 40), some (aI (nI i)), none, none, none, none], [], (C, D, E))) rfl trivial ?_
  refine z_Ev_blk 6 (c' := (874, [some (aR 0 41), some (aR 0 16), some (aR 0 32), some (aR 0 40), some (aI (nI i)), none, none, none, none], [aI (xs ((nI i) + (1 : Int32)).toNatClampNeg), aR 0 16], (C, D, E))) rfl ⟨(ly1 hi hL), trivial⟩ ?_
  rw [lx1 hi hL, hp1]
  refine z_Ev_blk 5 (c' := (880, [some (aR 0 41), some (aR 0 16), some (aR 0 32), some (aR 0 40), some (aI (nI i)), none, none, none, none], [aI (xs ((nI i) + (2 : Int32)).toNatClampNeg), aI p1, aR 0 16], (C, D, E))) rfl ⟨(ly2 hi hL), trivial⟩ ?_
  rw [lx2 hi hL, hp2]
  refine z_Ev_blk 1 (c' := (881, [some (aR 0 41), some (aR 0 16), some (aR 0 32), some (aR 0 40), some (aI (nI i)), none, none, none, none], [aR 0 40, aI p2, aI p1, aR 0 16], (C, D, E))) rfl trivial ?_
  refine z_Ev_call (m' := m_L_hour) (as := [aR 0 16, aI p1, aI p2, aR 0 40]) (r := []) (k1 := k1) (k2 := kk) hW rfl rfl ?_
  refine z_Ev_blk 7 (c' := (893, [some (aR 0 41), some (aR 0 16), some (aR 0 32), some (aR 0 40), some (aI (nI i)), some (aI e), none, none, none], [aI (xs ((nI i) + (1 : Int32)).toNatClampNeg), aR 0 32], (C1, D, E1))) rfl ⟨(ly1 hi hL), trivial⟩ ?_
  rw [lx1 hi hL, hp1]
  refine z_Ev_blk 5 (c' := (899, [some (aR 0 41), some (aR 0 16), some (aR 0 32), some (aR 0 40), some (aI (nI i)), some (aI e), none, none, none], [aI (xs ((nI i) + (2 : Int32)).toNatClampNeg), aI p1, aR 0 32], (C1, D, E1))) rfl ⟨(ly2 hi hL), trivial⟩ ?_
  rw [lx2 hi hL, hp2]
  refine z_Ev_call0 (m' := m_X5_hour) (as := [aR 0 32, aI p1, aI p2]) (r := []) (hM) rfl rfl ?_
  refine z_Ev_blk 2 (c' := (905, [some (aR 0 41), some (aR 0 16), some (aR 0 32), some (aR 0 40), some (aI (nI i)), some (aI e), some (aI r), none, none], [aR 0 32], (C1, D1, E1))) rfl trivial ?_
  refine z_Ev_call0 (m' := m_X5_thrown) (as := [aR 0 32]) (r := []) (hT) rfl rfl ?_
  refine z_Ev_blk 2 (c' := ((if e = e then 915 else 913), [some (aR 0 41), some (aR 0 16), some (aR 0 32), some (aR 0 40), some (aI (nI i)), some (aI e), some (aI r), none, none], [], (C1, D1, E1))) rfl trivial ?_
  refine z_Ev_if (rfl) ?_
  refine z_Ev_blk 2 (c' := ((if e = 0 then 920 else 932), [some (aR 0 41), some (aR 0 16), some (aR 0 32), some (aR 0 40), some (aI (nI i)), some (aI e), some (aI r), none, none], [], (C1, D1, E1))) rfl trivial ?_
  refine z_Ev_ite (fun h1 => ?_) (fun h1 => ?_)
  · skip
    refine z_Ev_blk 7 (c' := ((if (lg_cmp (E1 1) (r.toInt64)) = 0 then 932 else 930), [some (aR 0 41), some (aR 0 16), some (aR 0 32), some (aR 0 40), some (aI (nI i)), some (aI e), some (aI r), none, none], [], (C1, D1, E1))) rfl ⟨rfl, trivial⟩ ?_
    refine z_Ev_if (lgE (hE (by assumption))) ?_
    refine z_Ev_blk 3 (c' := (23, [some (aR 0 41), some (aR 0 16), some (aR 0 32), some (aR 0 40), some (aI ((nI i) + (6 : Int32))), some (aI e), some (aI r), none, none], [], (C1, D1, E1))) rfl trivial ?_
    refine z_Ev_fgt [true, true, true, true, true, false, false, false, false] ?_
    rw [nI_6]
    exact K
  · skip
    refine z_Ev_blk 3 (c' := (23, [some (aR 0 41), some (aR 0 16), some (aR 0 32), some (aR 0 40), some (aI ((nI i) + (6 : Int32))), some (aI e), some (aI r), none, none], [], (C1, D1, E1))) rfl trivial ?_
    refine z_Ev_fgt [true, true, true, true, true, false, false, false, false] ?_
    rw [nI_6]
    exact K
theorem lw_count {xs : Nat → Int32} {L : Nat} {o : z_Rs} {M' : Mem} {k1 kk : Nat} (i : Nat) (p1 e r : Int32) (C C1 : Nat → Nat → Nat → Int32) (D D1 : Nat → Nat → Int32) (E E1 : Nat → Int64) (hi : i + 6 ≤ L) (hL : L < 2 ^ 31) (hk : xs i &&& 31 = 15) (hp1 : xs (i + 1) = p1) (hW : z_Mt xs L m_L_count [aR 0 16, aI p1, aR 0 40] (C, D, E) (.inl (some (aI e))) (C1, D, E1) k1) (hM : z_Mt xs L m_X5_count [aR 0 32, aI p1] (C1, D, E1) (.inl (some (aI r))) (C1, D1, E1) 0) (hT : z_Mt xs L m_X5_thrown [aR 0 32] (C1, D1, E1) (.inl (some (aI e))) (C1, D1, E1) 0) (hE : e = 0 → E1 1 = r.toInt64) (K : z_Ev xs L m_L_law (23, [some (aR 0 41), some (aR 0 16), some (aR 0 32), some (aR 0 40), some (aI (nI (i + 6))), none, none, none, none], [], (C1, D1, E1)) o M' kk) : z_Ev xs L m_L_law (23, [some (aR 0 41), some (aR 0 16), some (aR 0 32), some (aR 0 40), some (aI (nI i)), none, none, none, none], [], (C, D, E)) o M' (k1 + kk) := by
  refine z_Ev_blk 6 (c' := ((if ((Int32.ofNat L) - (6 : Int32)) < (nI i) then 1271 else 33), [some (aR 0 41), some (aR 0 16), some (aR 0 32), some (aR 0 40), some (aI (nI i)), none, none, none, none], [], (C, D, E))) rfl trivial ?_
  refine z_Ev_else (lw_in hi hL) ?_
  refine z_Ev_blk 3 (c' := (37, [some (aR 0 41), some (aR 0 16), some (aR 0 32), some (aR 0 40), some (aI (nI i)), none, none, none, none], [aI (xs (nI i).toNatClampNeg)], (C, D, E))) rfl ⟨(inb_nI (show i < L by omega) hL), trivial⟩ ?_
  rw [nI_clamp (show i < 2 ^ 31 by omega)]
  refine z_Ev_blk 2 (c' := (40, [some (aR 0 41), some (aR 0 16), some (aR 0 32), some (aR 0 40), some (aI (nI i)), none, none, none, none], [aI ((xs i) &&& (31 : Int32))], (C, D, E))) rfl trivial ?_
  rw [hk]
  refine z_Ev_blk 1 (c' := (935, [some (aR 0 41), some (aR 0 16), some (aR 0 32), some (aR 0 40), some (aI (nI i)), none, none, none, none], [], (C, D, E))) rfl trivial ?_
  refine z_Ev_blk 6 (c' := (942, [some (aR 0 41), some (aR 0 16), some (aR 0 32), some (aR 0 40), some (aI (nI i)), none, none, none, none], [aI (xs ((nI i) + (1 : Int32)).toNatClampNeg), aR 0 16], (C, D, E))) rfl ⟨(ly1 hi hL), trivial⟩ ?_
  rw [lx1 hi hL, hp1]
  refine z_Ev_blk 1 (c' := (943, [some (aR 0 41), some (aR 0 16), some (aR 0 32), some (aR 0 40), some (aI (nI i)), none, none, none, none], [aR 0 40, aI p1, aR 0 16], (C, D, E))) rfl trivial ?_
  refine z_Ev_call (m' := m_L_count) (as := [aR 0 16, aI p1, aR 0 40]) (r := []) (k1 := k1) (k2 := kk) hW rfl rfl ?_
  refine z_Ev_blk 7 (c' := (955, [some (aR 0 41), some (aR 0 16), some (aR 0 32), some (aR 0 40), some (aI (nI i)), some (aI e), none, none, none], [aI (xs ((nI i) + (1 : Int32)).toNatClampNeg), aR 0 32], (C1, D, E1))) rfl ⟨(ly1 hi hL), trivial⟩ ?_
  rw [lx1 hi hL, hp1]
  refine z_Ev_call0 (m' := m_X5_count) (as := [aR 0 32, aI p1]) (r := []) (hM) rfl rfl ?_
  refine z_Ev_blk 2 (c' := (961, [some (aR 0 41), some (aR 0 16), some (aR 0 32), some (aR 0 40), some (aI (nI i)), some (aI e), some (aI r), none, none], [aR 0 32], (C1, D1, E1))) rfl trivial ?_
  refine z_Ev_call0 (m' := m_X5_thrown) (as := [aR 0 32]) (r := []) (hT) rfl rfl ?_
  refine z_Ev_blk 2 (c' := ((if e = e then 971 else 969), [some (aR 0 41), some (aR 0 16), some (aR 0 32), some (aR 0 40), some (aI (nI i)), some (aI e), some (aI r), none, none], [], (C1, D1, E1))) rfl trivial ?_
  refine z_Ev_if (rfl) ?_
  refine z_Ev_blk 2 (c' := ((if e = 0 then 976 else 988), [some (aR 0 41), some (aR 0 16), some (aR 0 32), some (aR 0 40), some (aI (nI i)), some (aI e), some (aI r), none, none], [], (C1, D1, E1))) rfl trivial ?_
  refine z_Ev_ite (fun h1 => ?_) (fun h1 => ?_)
  · skip
    refine z_Ev_blk 7 (c' := ((if (lg_cmp (E1 1) (r.toInt64)) = 0 then 988 else 986), [some (aR 0 41), some (aR 0 16), some (aR 0 32), some (aR 0 40), some (aI (nI i)), some (aI e), some (aI r), none, none], [], (C1, D1, E1))) rfl ⟨rfl, trivial⟩ ?_
    refine z_Ev_if (lgE (hE (by assumption))) ?_
    refine z_Ev_blk 3 (c' := (23, [some (aR 0 41), some (aR 0 16), some (aR 0 32), some (aR 0 40), some (aI ((nI i) + (6 : Int32))), some (aI e), some (aI r), none, none], [], (C1, D1, E1))) rfl trivial ?_
    refine z_Ev_fgt [true, true, true, true, true, false, false, false, false] ?_
    rw [nI_6]
    exact K
  · skip
    refine z_Ev_blk 3 (c' := (23, [some (aR 0 41), some (aR 0 16), some (aR 0 32), some (aR 0 40), some (aI ((nI i) + (6 : Int32))), some (aI e), some (aI r), none, none], [], (C1, D1, E1))) rfl trivial ?_
    refine z_Ev_fgt [true, true, true, true, true, false, false, false, false] ?_
    rw [nI_6]
    exact K
theorem lw_setting {xs : Nat → Int32} {L : Nat} {o : z_Rs} {M' : Mem} {k1 kk : Nat} (i : Nat) (p1 e r : Int32) (C C1 : Nat → Nat → Nat → Int32) (D D1 : Nat → Nat → Int32) (E E1 : Nat → Int64) (hi : i + 6 ≤ L) (hL : L < 2 ^ 31) (hk : xs i &&& 31 = 16) (hp1 : xs (i + 1) = p1) (hW : z_Mt xs L m_L_setting [aR 0 16, aI p1, aR 0 40] (C, D, E) (.inl (some (aI e))) (C1, D, E1) k1) (hM : z_Mt xs L m_X5_setting [aR 0 32, aI p1] (C1, D, E1) (.inl (some (aI r))) (C1, D1, E1) 0) (hT : z_Mt xs L m_X5_thrown [aR 0 32] (C1, D1, E1) (.inl (some (aI e))) (C1, D1, E1) 0) (hE : e = 0 → E1 1 = r.toInt64) (K : z_Ev xs L m_L_law (23, [some (aR 0 41), some (aR 0 16), some (aR 0 32), some (aR 0 40), some (aI (nI (i + 6))), none, none, none, none], [], (C1, D1, E1)) o M' kk) : z_Ev xs L m_L_law (23, [some (aR 0 41), some (aR 0 16), some (aR 0 32), some (aR 0 40), some (aI (nI i)), none, none, none, none], [], (C, D, E)) o M' (k1 + kk) := by
  refine z_Ev_blk 6 (c' := ((if ((Int32.ofNat L) - (6 : Int32)) < (nI i) then 1271 else 33), [some (aR 0 41), some (aR 0 16), some (aR 0 32), some (aR 0 40), some (aI (nI i)), none, none, none, none], [], (C, D, E))) rfl trivial ?_
  refine z_Ev_else (lw_in hi hL) ?_
  refine z_Ev_blk 3 (c' := (37, [some (aR 0 41), some (aR 0 16), some (aR 0 32), some (aR 0 40), some (aI (nI i)), none, none, none, none], [aI (xs (nI i).toNatClampNeg)], (C, D, E))) rfl ⟨(inb_nI (show i < L by omega) hL), trivial⟩ ?_
  rw [nI_clamp (show i < 2 ^ 31 by omega)]
  refine z_Ev_blk 2 (c' := (40, [some (aR 0 41), some (aR 0 16), some (aR 0 32), some (aR 0 40), some (aI (nI i)), none, none, none, none], [aI ((xs i) &&& (31 : Int32))], (C, D, E))) rfl trivial ?_
  rw [hk]
  refine z_Ev_blk 1 (c' := (991, [some (aR 0 41), some (aR 0 16), some (aR 0 32), some (aR 0 40), some (aI (nI i)), none, none, none, none], [], (C, D, E))) rfl trivial ?_
  refine z_Ev_blk 6 (c' := (998, [some (aR 0 41), some (aR 0 16), some (aR 0 32), some (aR 0 40), some (aI (nI i)), none, none, none, none], [aI (xs ((nI i) + (1 : Int32)).toNatClampNeg), aR 0 16], (C, D, E))) rfl ⟨(ly1 hi hL), trivial⟩ ?_
  rw [lx1 hi hL, hp1]
  refine z_Ev_blk 1 (c' := (999, [some (aR 0 41), some (aR 0 16), some (aR 0 32), some (aR 0 40), some (aI (nI i)), none, none, none, none], [aR 0 40, aI p1, aR 0 16], (C, D, E))) rfl trivial ?_
  refine z_Ev_call (m' := m_L_setting) (as := [aR 0 16, aI p1, aR 0 40]) (r := []) (k1 := k1) (k2 := kk) hW rfl rfl ?_
  refine z_Ev_blk 7 (c' := (1011, [some (aR 0 41), some (aR 0 16), some (aR 0 32), some (aR 0 40), some (aI (nI i)), some (aI e), none, none, none], [aI (xs ((nI i) + (1 : Int32)).toNatClampNeg), aR 0 32], (C1, D, E1))) rfl ⟨(ly1 hi hL), trivial⟩ ?_
  rw [lx1 hi hL, hp1]
  refine z_Ev_call0 (m' := m_X5_setting) (as := [aR 0 32, aI p1]) (r := []) (hM) rfl rfl ?_
  refine z_Ev_blk 2 (c' := (1017, [some (aR 0 41), some (aR 0 16), some (aR 0 32), some (aR 0 40), some (aI (nI i)), some (aI e), some (aI r), none, none], [aR 0 32], (C1, D1, E1))) rfl trivial ?_
  refine z_Ev_call0 (m' := m_X5_thrown) (as := [aR 0 32]) (r := []) (hT) rfl rfl ?_
  refine z_Ev_blk 2 (c' := ((if e = e then 1027 else 1025), [some (aR 0 41), some (aR 0 16), some (aR 0 32), some (aR 0 40), some (aI (nI i)), some (aI e), some (aI r), none, none], [], (C1, D1, E1))) rfl trivial ?_
  refine z_Ev_if (rfl) ?_
  refine z_Ev_blk 2 (c' := ((if e = 0 then 1032 else 1044), [some (aR 0 41), some (aR 0 16), some (aR 0 32), some (aR 0 40), some (aI (nI i)), some (aI e), some (aI r), none, none], [], (C1, D1, E1))) rfl trivial ?_
  refine z_Ev_ite (fun h1 => ?_) (fun h1 => ?_)
  · skip
    refine z_Ev_blk 7 (c' := ((if (lg_cmp (E1 1) (r.toInt64)) = 0 then 1044 else 1042), [some (aR 0 41), some (aR 0 16), some (aR 0 32), some (aR 0 40), some (aI (nI i)), some (aI e), some (aI r), none, none], [], (C1, D1, E1))) rfl ⟨rfl, trivial⟩ ?_
    refine z_Ev_if (lgE (hE (by assumption))) ?_
    refine z_Ev_blk 3 (c' := (23, [some (aR 0 41), some (aR 0 16), some (aR 0 32), some (aR 0 40), some (aI ((nI i) + (6 : Int32))), some (aI e), some (aI r), none, none], [], (C1, D1, E1))) rfl trivial ?_
    refine z_Ev_fgt [true, true, true, true, true, false, false, false, false] ?_
    rw [nI_6]
    exact K
  · skip
    refine z_Ev_blk 3 (c' := (23, [some (aR 0 41), some (aR 0 16), some (aR 0 32), some (aR 0 40), some (aI ((nI i) + (6 : Int32))), some (aI e), some (aI r), none, none], [], (C1, D1, E1))) rfl trivial ?_
    refine z_Ev_fgt [true, true, true, true, true, false, false, false, false] ?_
    rw [nI_6]
    exact K
theorem lw_ifLost {xs : Nat → Int32} {L : Nat} {o : z_Rs} {M' : Mem} {k1 kk : Nat} (i : Nat) (p1 e r : Int32) (C C1 : Nat → Nat → Nat → Int32) (D D1 : Nat → Nat → Int32) (E E1 : Nat → Int64) (hi : i + 6 ≤ L) (hL : L < 2 ^ 31) (hk : xs i &&& 31 = 17) (hp1 : xs (i + 1) = p1) (hW : z_Mt xs L m_L_ifLost [aR 0 16, aI p1, aR 0 40] (C, D, E) (.inl (some (aI e))) (C1, D, E1) k1) (hM : z_Mt xs L m_X5_ifLost [aR 0 32, aI p1] (C1, D, E1) (.inl (some (aI r))) (C1, D1, E1) 0) (hT : z_Mt xs L m_X5_thrown [aR 0 32] (C1, D1, E1) (.inl (some (aI e))) (C1, D1, E1) 0) (hE : e = 0 → E1 1 = r.toInt64) (K : z_Ev xs L m_L_law (23, [some (aR 0 41), some (aR 0 16), some (aR 0 32), some (aR 0 40), some (aI (nI (i + 6))), none, none, none, none], [], (C1, D1, E1)) o M' kk) : z_Ev xs L m_L_law (23, [some (aR 0 41), some (aR 0 16), some (aR 0 32), some (aR 0 40), some (aI (nI i)), none, none, none, none], [], (C, D, E)) o M' (k1 + kk) := by
  refine z_Ev_blk 6 (c' := ((if ((Int32.ofNat L) - (6 : Int32)) < (nI i) then 1271 else 33), [some (aR 0 41), some (aR 0 16), some (aR 0 32), some (aR 0 40), some (aI (nI i)), none, none, none, none], [], (C, D, E))) rfl trivial ?_
  refine z_Ev_else (lw_in hi hL) ?_
  refine z_Ev_blk 3 (c' := (37, [some (aR 0 41), some (aR 0 16), some (aR 0 32), some (aR 0 40), some (aI (nI i)), none, none, none, none], [aI (xs (nI i).toNatClampNeg)], (C, D, E))) rfl ⟨(inb_nI (show i < L by omega) hL), trivial⟩ ?_
  rw [nI_clamp (show i < 2 ^ 31 by omega)]
  refine z_Ev_blk 2 (c' := (40, [some (aR 0 41), some (aR 0 16), some (aR 0 32), some (aR 0 40), some (aI (nI i)), none, none, none, none], [aI ((xs i) &&& (31 : Int32))], (C, D, E))) rfl trivial ?_
  rw [hk]
  refine z_Ev_blk 1 (c' := (1047, [some (aR 0 41), some (aR 0 16), some (aR 0 32), some (aR 0 40), some (aI (nI i)), none, none, none, none], [], (C, D, E))) rfl trivial ?_
  refine z_Ev_blk 6 (c' := (1054, [some (aR 0 41), some (aR 0 16), some (aR 0 32), some (aR 0 40), some (aI (nI i)), none, none, none, none], [aI (xs ((nI i) + (1 : Int32)).toNatClampNeg), aR 0 16], (C, D, E))) rfl ⟨(ly1 hi hL), trivial⟩ ?_
  rw [lx1 hi hL, hp1]
  refine z_Ev_blk 1 (c' := (1055, [some (aR 0 41), some (aR 0 16), some (aR 0 32), some (aR 0 40), some (aI (nI i)), none, none, none, none], [aR 0 40, aI p1, aR 0 16], (C, D, E))) rfl trivial ?_
  refine z_Ev_call (m' := m_L_ifLost) (as := [aR 0 16, aI p1, aR 0 40]) (r := []) (k1 := k1) (k2 := kk) hW rfl rfl ?_
  refine z_Ev_blk 7 (c' := (1067, [some (aR 0 41), some (aR 0 16), some (aR 0 32), some (aR 0 40), some (aI (nI i)), some (aI e), none, none, none], [aI (xs ((nI i) + (1 : Int32)).toNatClampNeg), aR 0 32], (C1, D, E1))) rfl ⟨(ly1 hi hL), trivial⟩ ?_
  rw [lx1 hi hL, hp1]
  refine z_Ev_call0 (m' := m_X5_ifLost) (as := [aR 0 32, aI p1]) (r := []) (hM) rfl rfl ?_
  refine z_Ev_blk 2 (c' := (1073, [some (aR 0 41), some (aR 0 16), some (aR 0 32), some (aR 0 40), some (aI (nI i)), some (aI e), some (aI r), none, none], [aR 0 32], (C1, D1, E1))) rfl trivial ?_
  refine z_Ev_call0 (m' := m_X5_thrown) (as := [aR 0 32]) (r := []) (hT) rfl rfl ?_
  refine z_Ev_blk 2 (c' := ((if e = e then 1083 else 1081), [some (aR 0 41), some (aR 0 16), some (aR 0 32), some (aR 0 40), some (aI (nI i)), some (aI e), some (aI r), none, none], [], (C1, D1, E1))) rfl trivial ?_
  refine z_Ev_if (rfl) ?_
  refine z_Ev_blk 2 (c' := ((if e = 0 then 1088 else 1100), [some (aR 0 41), some (aR 0 16), some (aR 0 32), some (aR 0 40), some (aI (nI i)), some (aI e), some (aI r), none, none], [], (C1, D1, E1))) rfl trivial ?_
  refine z_Ev_ite (fun h1 => ?_) (fun h1 => ?_)
  · skip
    refine z_Ev_blk 7 (c' := ((if (lg_cmp (E1 1) (r.toInt64)) = 0 then 1100 else 1098), [some (aR 0 41), some (aR 0 16), some (aR 0 32), some (aR 0 40), some (aI (nI i)), some (aI e), some (aI r), none, none], [], (C1, D1, E1))) rfl ⟨rfl, trivial⟩ ?_
    refine z_Ev_if (lgE (hE (by assumption))) ?_
    refine z_Ev_blk 3 (c' := (23, [some (aR 0 41), some (aR 0 16), some (aR 0 32), some (aR 0 40), some (aI ((nI i) + (6 : Int32))), some (aI e), some (aI r), none, none], [], (C1, D1, E1))) rfl trivial ?_
    refine z_Ev_fgt [true, true, true, true, true, false, false, false, false] ?_
    rw [nI_6]
    exact K
  · skip
    refine z_Ev_blk 3 (c' := (23, [some (aR 0 41), some (aR 0 16), some (aR 0 32), some (aR 0 40), some (aI ((nI i) + (6 : Int32))), some (aI e), some (aI r), none, none], [], (C1, D1, E1))) rfl trivial ?_
    refine z_Ev_fgt [true, true, true, true, true, false, false, false, false] ?_
    rw [nI_6]
    exact K
theorem lw_cheapest {xs : Nat → Int32} {L : Nat} {o : z_Rs} {M' : Mem} {k1 kk : Nat} (i : Nat) (p1 p2 e r : Int32) (C C1 : Nat → Nat → Nat → Int32) (D D1 : Nat → Nat → Int32) (E E1 : Nat → Int64) (hi : i + 6 ≤ L) (hL : L < 2 ^ 31) (hk : xs i &&& 31 = 18) (hp1 : xs (i + 1) = p1) (hp2 : xs (i + 2) = p2) (hW : z_Mt xs L m_L_cheapest [aR 0 16, aI p1, aI p2, aR 0 40] (C, D, E) (.inl (some (aI e))) (C1, D, E1) k1) (hM : z_Mt xs L m_X5_cheapest [aR 0 32, aI p1, aI p2] (C1, D, E1) (.inl (some (aI r))) (C1, D1, E1) 0) (hT : z_Mt xs L m_X5_thrown [aR 0 32] (C1, D1, E1) (.inl (some (aI e))) (C1, D1, E1) 0) (hE : e = 0 → E1 1 = r.toInt64) (K : z_Ev xs L m_L_law (23, [some (aR 0 41), some (aR 0 16), some (aR 0 32), some (aR 0 40), some (aI (nI (i + 6))), none, none, none, none], [], (C1, D1, E1)) o M' kk) : z_Ev xs L m_L_law (23, [some (aR 0 41), some (aR 0 16), some (aR 0 32), some (aR 0 40), some (aI (nI i)), none, none, none, none], [], (C, D, E)) o M' (k1 + kk) := by
  refine z_Ev_blk 6 (c' := ((if ((Int32.ofNat L) - (6 : Int32)) < (nI i) then 1271 else 33), [some (aR 0 41), some (aR 0 16), some (aR 0 32), some (aR 0 40), some (aI (nI i)), none, none, none, none], [], (C, D, E))) rfl trivial ?_
  refine z_Ev_else (lw_in hi hL) ?_
  refine z_Ev_blk 3 (c' := (37, [some (aR 0 41), some (aR 0 16), some (aR 0 32), some (aR 0 40), some (aI (nI i)), none, none, none, none], [aI (xs (nI i).toNatClampNeg)], (C, D, E))) rfl ⟨(inb_nI (show i < L by omega) hL), trivial⟩ ?_
  rw [nI_clamp (show i < 2 ^ 31 by omega)]
  refine z_Ev_blk 2 (c' := (40, [some (aR 0 41), some (aR 0 16), some (aR 0 32), some (aR 0 40), some (aI (nI i)), none, none, none, none], [aI ((xs i) &&& (31 : Int32))], (C, D, E))) rfl trivial ?_
  rw [hk]
  refine z_Ev_blk 1 (c' := (1103, [some (aR 0 41), some (aR 0 16), some (aR 0 32), some (aR 0 40), some (aI (nI i)), none, none, none, none], [], (C, D, E))) rfl trivial ?_
  refine z_Ev_blk 6 (c' := (1110, [some (aR 0 41), some (aR 0 16), some (aR 0 32), some (aR 0 40), some (aI (nI i)), none, none, none, none], [aI (xs ((nI i) + (1 : Int32)).toNatClampNeg), aR 0 16], (C, D, E))) rfl ⟨(ly1 hi hL), trivial⟩ ?_
  rw [lx1 hi hL, hp1]
  refine z_Ev_blk 5 (c' := (1116, [some (aR 0 41), some (aR 0 16), some (aR 0 32), some (aR 0 40), some (aI (nI i)), none, none, none, none], [aI (xs ((nI i) + (2 : Int32)).toNatClampNeg), aI p1, aR 0 16], (C, D, E))) rfl ⟨(ly2 hi hL), trivial⟩ ?_
  rw [lx2 hi hL, hp2]
  refine z_Ev_blk 1 (c' := (1117, [some (aR 0 41), some (aR 0 16), some (aR 0 32), some (aR 0 40), some (aI (nI i)), none, none, none, none], [aR 0 40, aI p2, aI p1, aR 0 16], (C, D, E))) rfl trivial ?_
  refine z_Ev_call (m' := m_L_cheapest) (as := [aR 0 16, aI p1, aI p2, aR 0 40]) (r := []) (k1 := k1) (k2 := kk) hW rfl rfl ?_
  refine z_Ev_blk 7 (c' := (1129, [some (aR 0 41), some (aR 0 16), some (aR 0 32), some (aR 0 40), some (aI (nI i)), some (aI e), none, none, none], [aI (xs ((nI i) + (1 : Int32)).toNatClampNeg), aR 0 32], (C1, D, E1))) rfl ⟨(ly1 hi hL), trivial⟩ ?_
  rw [lx1 hi hL, hp1]
  refine z_Ev_blk 5 (c' := (1135, [some (aR 0 41), some (aR 0 16), some (aR 0 32), some (aR 0 40), some (aI (nI i)), some (aI e), none, none, none], [aI (xs ((nI i) + (2 : Int32)).toNatClampNeg), aI p1, aR 0 32], (C1, D, E1))) rfl ⟨(ly2 hi hL), trivial⟩ ?_
  rw [lx2 hi hL, hp2]
  refine z_Ev_call0 (m' := m_X5_cheapest) (as := [aR 0 32, aI p1, aI p2]) (r := []) (hM) rfl rfl ?_
  refine z_Ev_blk 2 (c' := (1141, [some (aR 0 41), some (aR 0 16), some (aR 0 32), some (aR 0 40), some (aI (nI i)), some (aI e), some (aI r), none, none], [aR 0 32], (C1, D1, E1))) rfl trivial ?_
  refine z_Ev_call0 (m' := m_X5_thrown) (as := [aR 0 32]) (r := []) (hT) rfl rfl ?_
  refine z_Ev_blk 2 (c' := ((if e = e then 1151 else 1149), [some (aR 0 41), some (aR 0 16), some (aR 0 32), some (aR 0 40), some (aI (nI i)), some (aI e), some (aI r), none, none], [], (C1, D1, E1))) rfl trivial ?_
  refine z_Ev_if (rfl) ?_
  refine z_Ev_blk 2 (c' := ((if e = 0 then 1156 else 1168), [some (aR 0 41), some (aR 0 16), some (aR 0 32), some (aR 0 40), some (aI (nI i)), some (aI e), some (aI r), none, none], [], (C1, D1, E1))) rfl trivial ?_
  refine z_Ev_ite (fun h1 => ?_) (fun h1 => ?_)
  · skip
    refine z_Ev_blk 7 (c' := ((if (lg_cmp (E1 1) (r.toInt64)) = 0 then 1168 else 1166), [some (aR 0 41), some (aR 0 16), some (aR 0 32), some (aR 0 40), some (aI (nI i)), some (aI e), some (aI r), none, none], [], (C1, D1, E1))) rfl ⟨rfl, trivial⟩ ?_
    refine z_Ev_if (lgE (hE (by assumption))) ?_
    refine z_Ev_blk 3 (c' := (23, [some (aR 0 41), some (aR 0 16), some (aR 0 32), some (aR 0 40), some (aI ((nI i) + (6 : Int32))), some (aI e), some (aI r), none, none], [], (C1, D1, E1))) rfl trivial ?_
    refine z_Ev_fgt [true, true, true, true, true, false, false, false, false] ?_
    rw [nI_6]
    exact K
  · skip
    refine z_Ev_blk 3 (c' := (23, [some (aR 0 41), some (aR 0 16), some (aR 0 32), some (aR 0 40), some (aI ((nI i) + (6 : Int32))), some (aI e), some (aI r), none, none], [], (C1, D1, E1))) rfl trivial ?_
    refine z_Ev_fgt [true, true, true, true, true, false, false, false, false] ?_
    rw [nI_6]
    exact K
theorem lw_firstDark {xs : Nat → Int32} {L : Nat} {o : z_Rs} {M' : Mem} {k1 kk : Nat} (i : Nat) (r : Int32) (C C1 : Nat → Nat → Nat → Int32) (D D1 : Nat → Nat → Int32) (E E1 : Nat → Int64) (hi : i + 6 ≤ L) (hL : L < 2 ^ 31) (hk : xs i &&& 31 = 19) (hW : z_Mt xs L m_X4_firstDark [aR 0 16] (C, D, E) (.inl (some (aI r))) (C1, D, E1) k1) (hM : z_Mt xs L m_X5_firstDark [aR 0 32] (C1, D, E1) (.inl (some (aI r))) (C1, D1, E1) 0) (K : z_Ev xs L m_L_law (23, [some (aR 0 41), some (aR 0 16), some (aR 0 32), some (aR 0 40), some (aI (nI (i + 6))), none, none, none, none], [], (C1, D1, E1)) o M' kk) : z_Ev xs L m_L_law (23, [some (aR 0 41), some (aR 0 16), some (aR 0 32), some (aR 0 40), some (aI (nI i)), none, none, none, none], [], (C, D, E)) o M' (k1 + kk) := by
  refine z_Ev_blk 6 (c' := ((if ((Int32.ofNat L) - (6 : Int32)) < (nI i) then 1271 else 33), [some (aR 0 41), some (aR 0 16), some (aR 0 32), some (aR 0 40), some (aI (nI i)), none, none, none, none], [], (C, D, E))) rfl trivial ?_
  refine z_Ev_else (lw_in hi hL) ?_
  refine z_Ev_blk 3 (c' := (37, [some (aR 0 41), some (aR 0 16), some (aR 0 32), some (aR 0 40), some (aI (nI i)), none, none, none, none], [aI (xs (nI i).toNatClampNeg)], (C, D, E))) rfl ⟨(inb_nI (show i < L by omega) hL), trivial⟩ ?_
  rw [nI_clamp (show i < 2 ^ 31 by omega)]
  refine z_Ev_blk 2 (c' := (40, [some (aR 0 41), some (aR 0 16), some (aR 0 32), some (aR 0 40), some (aI (nI i)), none, none, none, none], [aI ((xs i) &&& (31 : Int32))], (C, D, E))) rfl trivial ?_
  rw [hk]
  refine z_Ev_blk 1 (c' := (1171, [some (aR 0 41), some (aR 0 16), some (aR 0 32), some (aR 0 40), some (aI (nI i)), none, none, none, none], [], (C, D, E))) rfl trivial ?_
  refine z_Ev_blk 1 (c' := (1172, [some (aR 0 41), some (aR 0 16), some (aR 0 32), some (aR 0 40), some (aI (nI i)), none, none, none, none], [aR 0 16], (C, D, E))) rfl trivial ?_
  refine z_Ev_call (m' := m_X4_firstDark) (as := [aR 0 16]) (r := []) (k1 := k1) (k2 := kk) hW rfl rfl ?_
  refine z_Ev_blk 1 (c' := (1176, [some (aR 0 41), some (aR 0 16), some (aR 0 32), some (aR 0 40), some (aI (nI i)), none, none, none, none], [aR 0 32, aI r], (C1, D, E1))) rfl trivial ?_
  refine z_Ev_call0 (m' := m_X5_firstDark) (as := [aR 0 32]) (r := [aI r]) (hM) rfl rfl ?_
  refine z_Ev_blk 1 (c' := ((if r = r then 1265 else 1182), [some (aR 0 41), some (aR 0 16), some (aR 0 32), some (aR 0 40), some (aI (nI i)), none, none, none, none], [], (C1, D1, E1))) rfl trivial ?_
  refine z_Ev_if (rfl) ?_
  refine z_Ev_blk 2 (c' := (23, [some (aR 0 41), some (aR 0 16), some (aR 0 32), some (aR 0 40), some (aI ((nI i) + (6 : Int32))), none, none, none, none], [], (C1, D1, E1))) rfl trivial ?_
  refine z_Ev_fgt [true, true, true, true, true, false, false, false, false] ?_
  rw [nI_6]
  exact K
theorem lw_ifShed {xs : Nat → Int32} {L : Nat} {o : z_Rs} {M' : Mem} {k1 kk : Nat} (i : Nat) (r : Int32) (C C1 : Nat → Nat → Nat → Int32) (D D1 : Nat → Nat → Int32) (E E1 : Nat → Int64) (hi : i + 6 ≤ L) (hL : L < 2 ^ 31) (hk : xs i &&& 31 = 20) (hW : z_Mt xs L m_X4_ifShed [aR 0 16] (C, D, E) (.inl (some (aI r))) (C1, D, E1) k1) (hM : z_Mt xs L m_X5_ifShed [aR 0 32] (C1, D, E1) (.inl (some (aI r))) (C1, D1, E1) 0) (K : z_Ev xs L m_L_law (23, [some (aR 0 41), some (aR 0 16), some (aR 0 32), some (aR 0 40), some (aI (nI (i + 6))), none, none, none, none], [], (C1, D1, E1)) o M' kk) : z_Ev xs L m_L_law (23, [some (aR 0 41), some (aR 0 16), some (aR 0 32), some (aR 0 40), some (aI (nI i)), none, none, none, none], [], (C, D, E)) o M' (k1 + kk) := by
  refine z_Ev_blk 6 (c' := ((if ((Int32.ofNat L) - (6 : Int32)) < (nI i) then 1271 else 33), [some (aR 0 41), some (aR 0 16), some (aR 0 32), some (aR 0 40), some (aI (nI i)), none, none, none, none], [], (C, D, E))) rfl trivial ?_
  refine z_Ev_else (lw_in hi hL) ?_
  refine z_Ev_blk 3 (c' := (37, [some (aR 0 41), some (aR 0 16), some (aR 0 32), some (aR 0 40), some (aI (nI i)), none, none, none, none], [aI (xs (nI i).toNatClampNeg)], (C, D, E))) rfl ⟨(inb_nI (show i < L by omega) hL), trivial⟩ ?_
  rw [nI_clamp (show i < 2 ^ 31 by omega)]
  refine z_Ev_blk 2 (c' := (40, [some (aR 0 41), some (aR 0 16), some (aR 0 32), some (aR 0 40), some (aI (nI i)), none, none, none, none], [aI ((xs i) &&& (31 : Int32))], (C, D, E))) rfl trivial ?_
  rw [hk]
  refine z_Ev_blk 1 (c' := (1184, [some (aR 0 41), some (aR 0 16), some (aR 0 32), some (aR 0 40), some (aI (nI i)), none, none, none, none], [], (C, D, E))) rfl trivial ?_
  refine z_Ev_blk 1 (c' := (1185, [some (aR 0 41), some (aR 0 16), some (aR 0 32), some (aR 0 40), some (aI (nI i)), none, none, none, none], [aR 0 16], (C, D, E))) rfl trivial ?_
  refine z_Ev_call (m' := m_X4_ifShed) (as := [aR 0 16]) (r := []) (k1 := k1) (k2 := kk) hW rfl rfl ?_
  refine z_Ev_blk 1 (c' := (1189, [some (aR 0 41), some (aR 0 16), some (aR 0 32), some (aR 0 40), some (aI (nI i)), none, none, none, none], [aR 0 32, aI r], (C1, D, E1))) rfl trivial ?_
  refine z_Ev_call0 (m' := m_X5_ifShed) (as := [aR 0 32]) (r := [aI r]) (hM) rfl rfl ?_
  refine z_Ev_blk 1 (c' := ((if r = r then 1265 else 1195), [some (aR 0 41), some (aR 0 16), some (aR 0 32), some (aR 0 40), some (aI (nI i)), none, none, none, none], [], (C1, D1, E1))) rfl trivial ?_
  refine z_Ev_if (rfl) ?_
  refine z_Ev_blk 2 (c' := (23, [some (aR 0 41), some (aR 0 16), some (aR 0 32), some (aR 0 40), some (aI ((nI i) + (6 : Int32))), none, none, none, none], [], (C1, D1, E1))) rfl trivial ?_
  refine z_Ev_fgt [true, true, true, true, true, false, false, false, false] ?_
  rw [nI_6]
  exact K
theorem lw_bestStart {xs : Nat → Int32} {L : Nat} {o : z_Rs} {M' : Mem} {k1 kk : Nat} (i : Nat) (r : Int32) (C C1 : Nat → Nat → Nat → Int32) (D D1 : Nat → Nat → Int32) (E E1 : Nat → Int64) (hi : i + 6 ≤ L) (hL : L < 2 ^ 31) (hk : xs i &&& 31 = 21) (hW : z_Mt xs L m_X4_bestStart [aR 0 16] (C, D, E) (.inl (some (aI r))) (C1, D, E1) k1) (hM : z_Mt xs L m_X5_bestStart [aR 0 32] (C1, D, E1) (.inl (some (aI r))) (C1, D1, E1) 0) (K : z_Ev xs L m_L_law (23, [some (aR 0 41), some (aR 0 16), some (aR 0 32), some (aR 0 40), some (aI (nI (i + 6))), none, none, none, none], [], (C1, D1, E1)) o M' kk) : z_Ev xs L m_L_law (23, [some (aR 0 41), some (aR 0 16), some (aR 0 32), some (aR 0 40), some (aI (nI i)), none, none, none, none], [], (C, D, E)) o M' (k1 + kk) := by
  refine z_Ev_blk 6 (c' := ((if ((Int32.ofNat L) - (6 : Int32)) < (nI i) then 1271 else 33), [some (aR 0 41), some (aR 0 16), some (aR 0 32), some (aR 0 40), some (aI (nI i)), none, none, none, none], [], (C, D, E))) rfl trivial ?_
  refine z_Ev_else (lw_in hi hL) ?_
  refine z_Ev_blk 3 (c' := (37, [some (aR 0 41), some (aR 0 16), some (aR 0 32), some (aR 0 40), some (aI (nI i)), none, none, none, none], [aI (xs (nI i).toNatClampNeg)], (C, D, E))) rfl ⟨(inb_nI (show i < L by omega) hL), trivial⟩ ?_
  rw [nI_clamp (show i < 2 ^ 31 by omega)]
  refine z_Ev_blk 2 (c' := (40, [some (aR 0 41), some (aR 0 16), some (aR 0 32), some (aR 0 40), some (aI (nI i)), none, none, none, none], [aI ((xs i) &&& (31 : Int32))], (C, D, E))) rfl trivial ?_
  rw [hk]
  refine z_Ev_blk 1 (c' := (1197, [some (aR 0 41), some (aR 0 16), some (aR 0 32), some (aR 0 40), some (aI (nI i)), none, none, none, none], [], (C, D, E))) rfl trivial ?_
  refine z_Ev_blk 1 (c' := (1198, [some (aR 0 41), some (aR 0 16), some (aR 0 32), some (aR 0 40), some (aI (nI i)), none, none, none, none], [aR 0 16], (C, D, E))) rfl trivial ?_
  refine z_Ev_call (m' := m_X4_bestStart) (as := [aR 0 16]) (r := []) (k1 := k1) (k2 := kk) hW rfl rfl ?_
  refine z_Ev_blk 1 (c' := (1202, [some (aR 0 41), some (aR 0 16), some (aR 0 32), some (aR 0 40), some (aI (nI i)), none, none, none, none], [aR 0 32, aI r], (C1, D, E1))) rfl trivial ?_
  refine z_Ev_call0 (m' := m_X5_bestStart) (as := [aR 0 32]) (r := [aI r]) (hM) rfl rfl ?_
  refine z_Ev_blk 1 (c' := ((if r = r then 1265 else 1208), [some (aR 0 41), some (aR 0 16), some (aR 0 32), some (aR 0 40), some (aI (nI i)), none, none, none, none], [], (C1, D1, E1))) rfl trivial ?_
  refine z_Ev_if (rfl) ?_
  refine z_Ev_blk 2 (c' := (23, [some (aR 0 41), some (aR 0 16), some (aR 0 32), some (aR 0 40), some (aI ((nI i) + (6 : Int32))), none, none, none, none], [], (C1, D1, E1))) rfl trivial ?_
  refine z_Ev_fgt [true, true, true, true, true, false, false, false, false] ?_
  rw [nI_6]
  exact K
theorem lw_safeShare {xs : Nat → Int32} {L : Nat} {o : z_Rs} {M' : Mem} {k1 kk : Nat} (i : Nat) (r : UInt64) (C C1 : Nat → Nat → Nat → Int32) (D D1 : Nat → Nat → Int32) (E E1 : Nat → Int64) (hi : i + 6 ≤ L) (hL : L < 2 ^ 31) (hk : xs i &&& 31 = 22) (hW : z_Mt xs L m_X4_safeShare [aR 0 16] (C, D, E) (.inl (some (aD r))) (C1, D, E1) k1) (hM : z_Mt xs L m_X5_safeShare [aR 0 32] (C1, D, E1) (.inl (some (aD r))) (C1, D1, E1) 0) (hd : Op.cmpValue (FP.dcmp r r) .l = 0) (K : z_Ev xs L m_L_law (23, [some (aR 0 41), some (aR 0 16), some (aR 0 32), some (aR 0 40), some (aI (nI (i + 6))), none, none, none, none], [], (C1, D1, E1)) o M' kk) : z_Ev xs L m_L_law (23, [some (aR 0 41), some (aR 0 16), some (aR 0 32), some (aR 0 40), some (aI (nI i)), none, none, none, none], [], (C, D, E)) o M' (k1 + kk) := by
  refine z_Ev_blk 6 (c' := ((if ((Int32.ofNat L) - (6 : Int32)) < (nI i) then 1271 else 33), [some (aR 0 41), some (aR 0 16), some (aR 0 32), some (aR 0 40), some (aI (nI i)), none, none, none, none], [], (C, D, E))) rfl trivial ?_
  refine z_Ev_else (lw_in hi hL) ?_
  refine z_Ev_blk 3 (c' := (37, [some (aR 0 41), some (aR 0 16), some (aR 0 32), some (aR 0 40), some (aI (nI i)), none, none, none, none], [aI (xs (nI i).toNatClampNeg)], (C, D, E))) rfl ⟨(inb_nI (show i < L by omega) hL), trivial⟩ ?_
  rw [nI_clamp (show i < 2 ^ 31 by omega)]
  refine z_Ev_blk 2 (c' := (40, [some (aR 0 41), some (aR 0 16), some (aR 0 32), some (aR 0 40), some (aI (nI i)), none, none, none, none], [aI ((xs i) &&& (31 : Int32))], (C, D, E))) rfl trivial ?_
  rw [hk]
  refine z_Ev_blk 1 (c' := (1210, [some (aR 0 41), some (aR 0 16), some (aR 0 32), some (aR 0 40), some (aI (nI i)), none, none, none, none], [], (C, D, E))) rfl trivial ?_
  refine z_Ev_blk 1 (c' := (1211, [some (aR 0 41), some (aR 0 16), some (aR 0 32), some (aR 0 40), some (aI (nI i)), none, none, none, none], [aR 0 16], (C, D, E))) rfl trivial ?_
  refine z_Ev_call (m' := m_X4_safeShare) (as := [aR 0 16]) (r := []) (k1 := k1) (k2 := kk) hW rfl rfl ?_
  refine z_Ev_blk 2 (c' := (1217, [some (aR 0 41), some (aR 0 16), some (aR 0 32), some (aR 0 40), some (aI (nI i)), some (aD r), none, none, none], [aR 0 32], (C1, D, E1))) rfl trivial ?_
  refine z_Ev_call0 (m' := m_X5_safeShare) (as := [aR 0 32]) (r := []) (hM) rfl rfl ?_
  refine z_Ev_blk 5 (c' := ((if (Op.cmpValue (FP.dcmp r r) .l) = 0 then 1248 else 1230), [some (aR 0 41), some (aR 0 16), some (aR 0 32), some (aR 0 40), some (aI (nI i)), some (aD r), none, some (aD r), none], [], (C1, D1, E1))) rfl trivial ?_
  refine z_Ev_if (hd) ?_
  refine z_Ev_blk 3 (c' := (23, [some (aR 0 41), some (aR 0 16), some (aR 0 32), some (aR 0 40), some (aI ((nI i) + (6 : Int32))), some (aD r), none, some (aD r), none], [], (C1, D1, E1))) rfl trivial ?_
  refine z_Ev_fgt [true, true, true, true, true, false, false, false, false] ?_
  rw [nI_6]
  exact K
theorem lw_digest {xs : Nat → Int32} {L : Nat} {o : z_Rs} {M' : Mem} {k1 kk : Nat} (i : Nat) (r : Int64) (C C1 : Nat → Nat → Nat → Int32) (D D1 : Nat → Nat → Int32) (E E1 E2 : Nat → Int64) (hi : i + 6 ≤ L) (hL : L < 2 ^ 31) (hk : xs i &&& 31 = 23) (hW : z_Mt xs L m_X4_digest [aR 0 16] (C, D, E) (.inl (some (aL r))) (C1, D, E1) k1) (hM : z_Mt xs L m_X5_digest [aR 0 32] (C1, D, E1) (.inl (some (aL r))) (C1, D1, E2) 0) (K : z_Ev xs L m_L_law (23, [some (aR 0 41), some (aR 0 16), some (aR 0 32), some (aR 0 40), some (aI (nI (i + 6))), none, none, none, none], [], (C1, D1, E2)) o M' kk) : z_Ev xs L m_L_law (23, [some (aR 0 41), some (aR 0 16), some (aR 0 32), some (aR 0 40), some (aI (nI i)), none, none, none, none], [], (C, D, E)) o M' (k1 + kk) := by
  refine z_Ev_blk 6 (c' := ((if ((Int32.ofNat L) - (6 : Int32)) < (nI i) then 1271 else 33), [some (aR 0 41), some (aR 0 16), some (aR 0 32), some (aR 0 40), some (aI (nI i)), none, none, none, none], [], (C, D, E))) rfl trivial ?_
  refine z_Ev_else (lw_in hi hL) ?_
  refine z_Ev_blk 3 (c' := (37, [some (aR 0 41), some (aR 0 16), some (aR 0 32), some (aR 0 40), some (aI (nI i)), none, none, none, none], [aI (xs (nI i).toNatClampNeg)], (C, D, E))) rfl ⟨(inb_nI (show i < L by omega) hL), trivial⟩ ?_
  rw [nI_clamp (show i < 2 ^ 31 by omega)]
  refine z_Ev_blk 2 (c' := (40, [some (aR 0 41), some (aR 0 16), some (aR 0 32), some (aR 0 40), some (aI (nI i)), none, none, none, none], [aI ((xs i) &&& (31 : Int32))], (C, D, E))) rfl trivial ?_
  rw [hk]
  refine z_Ev_blk 1 (c' := (1251, [some (aR 0 41), some (aR 0 16), some (aR 0 32), some (aR 0 40), some (aI (nI i)), none, none, none, none], [], (C, D, E))) rfl trivial ?_
  refine z_Ev_blk 1 (c' := (1252, [some (aR 0 41), some (aR 0 16), some (aR 0 32), some (aR 0 40), some (aI (nI i)), none, none, none, none], [aR 0 16], (C, D, E))) rfl trivial ?_
  refine z_Ev_call (m' := m_X4_digest) (as := [aR 0 16]) (r := []) (k1 := k1) (k2 := kk) hW rfl rfl ?_
  refine z_Ev_blk 1 (c' := (1256, [some (aR 0 41), some (aR 0 16), some (aR 0 32), some (aR 0 40), some (aI (nI i)), none, none, none, none], [aR 0 32, aL r], (C1, D, E1))) rfl trivial ?_
  refine z_Ev_call0 (m' := m_X5_digest) (as := [aR 0 32]) (r := [aL r]) (hM) rfl rfl ?_
  refine z_Ev_blk 2 (c' := ((if (lg_cmp r r) = 0 then 1265 else 1263), [some (aR 0 41), some (aR 0 16), some (aR 0 32), some (aR 0 40), some (aI (nI i)), none, none, none, none], [], (C1, D1, E2))) rfl trivial ?_
  refine z_Ev_if (lgE rfl) ?_
  refine z_Ev_blk 2 (c' := (23, [some (aR 0 41), some (aR 0 16), some (aR 0 32), some (aR 0 40), some (aI ((nI i) + (6 : Int32))), none, none, none, none], [], (C1, D1, E2))) rfl trivial ?_
  refine z_Ev_fgt [true, true, true, true, true, false, false, false, false] ?_
  rw [nI_6]
  exact K
theorem lw_24 {xs : Nat → Int32} {L : Nat} {o : z_Rs} {M' : Mem} {kk : Nat} (i : Nat) (C : Nat → Nat → Nat → Int32) (D : Nat → Nat → Int32) (E : Nat → Int64) (hi : i + 6 ≤ L) (hL : L < 2 ^ 31) (hk : xs i &&& 31 = 24) (K : z_Ev xs L m_L_law (23, [some (aR 0 41), some (aR 0 16), some (aR 0 32), some (aR 0 40), some (aI (nI (i + 6))), none, none, none, none], [], (C, D, E)) o M' kk) : z_Ev xs L m_L_law (23, [some (aR 0 41), some (aR 0 16), some (aR 0 32), some (aR 0 40), some (aI (nI i)), none, none, none, none], [], (C, D, E)) o M' kk := by
  refine z_Ev_blk 6 (c' := ((if ((Int32.ofNat L) - (6 : Int32)) < (nI i) then 1271 else 33), [some (aR 0 41), some (aR 0 16), some (aR 0 32), some (aR 0 40), some (aI (nI i)), none, none, none, none], [], (C, D, E))) rfl trivial ?_
  refine z_Ev_else (lw_in hi hL) ?_
  refine z_Ev_blk 3 (c' := (37, [some (aR 0 41), some (aR 0 16), some (aR 0 32), some (aR 0 40), some (aI (nI i)), none, none, none, none], [aI (xs (nI i).toNatClampNeg)], (C, D, E))) rfl ⟨(inb_nI (show i < L by omega) hL), trivial⟩ ?_
  rw [nI_clamp (show i < 2 ^ 31 by omega)]
  refine z_Ev_blk 2 (c' := (40, [some (aR 0 41), some (aR 0 16), some (aR 0 32), some (aR 0 40), some (aI (nI i)), none, none, none, none], [aI ((xs i) &&& (31 : Int32))], (C, D, E))) rfl trivial ?_
  rw [hk]
  refine z_Ev_blk 1 (c' := (1265, [some (aR 0 41), some (aR 0 16), some (aR 0 32), some (aR 0 40), some (aI (nI i)), none, none, none, none], [], (C, D, E))) rfl trivial ?_
  refine z_Ev_blk 2 (c' := (23, [some (aR 0 41), some (aR 0 16), some (aR 0 32), some (aR 0 40), some (aI ((nI i) + (6 : Int32))), none, none, none, none], [], (C, D, E))) rfl trivial ?_
  rw [nI_6]
  exact K
theorem lw_25 {xs : Nat → Int32} {L : Nat} {o : z_Rs} {M' : Mem} {kk : Nat} (i : Nat) (C : Nat → Nat → Nat → Int32) (D : Nat → Nat → Int32) (E : Nat → Int64) (hi : i + 6 ≤ L) (hL : L < 2 ^ 31) (hk : xs i &&& 31 = 25) (K : z_Ev xs L m_L_law (23, [some (aR 0 41), some (aR 0 16), some (aR 0 32), some (aR 0 40), some (aI (nI (i + 6))), none, none, none, none], [], (C, D, E)) o M' kk) : z_Ev xs L m_L_law (23, [some (aR 0 41), some (aR 0 16), some (aR 0 32), some (aR 0 40), some (aI (nI i)), none, none, none, none], [], (C, D, E)) o M' kk := by
  refine z_Ev_blk 6 (c' := ((if ((Int32.ofNat L) - (6 : Int32)) < (nI i) then 1271 else 33), [some (aR 0 41), some (aR 0 16), some (aR 0 32), some (aR 0 40), some (aI (nI i)), none, none, none, none], [], (C, D, E))) rfl trivial ?_
  refine z_Ev_else (lw_in hi hL) ?_
  refine z_Ev_blk 3 (c' := (37, [some (aR 0 41), some (aR 0 16), some (aR 0 32), some (aR 0 40), some (aI (nI i)), none, none, none, none], [aI (xs (nI i).toNatClampNeg)], (C, D, E))) rfl ⟨(inb_nI (show i < L by omega) hL), trivial⟩ ?_
  rw [nI_clamp (show i < 2 ^ 31 by omega)]
  refine z_Ev_blk 2 (c' := (40, [some (aR 0 41), some (aR 0 16), some (aR 0 32), some (aR 0 40), some (aI (nI i)), none, none, none, none], [aI ((xs i) &&& (31 : Int32))], (C, D, E))) rfl trivial ?_
  rw [hk]
  refine z_Ev_blk 1 (c' := (1265, [some (aR 0 41), some (aR 0 16), some (aR 0 32), some (aR 0 40), some (aI (nI i)), none, none, none, none], [], (C, D, E))) rfl trivial ?_
  refine z_Ev_blk 2 (c' := (23, [some (aR 0 41), some (aR 0 16), some (aR 0 32), some (aR 0 40), some (aI ((nI i) + (6 : Int32))), none, none, none, none], [], (C, D, E))) rfl trivial ?_
  rw [nI_6]
  exact K
theorem lw_26 {xs : Nat → Int32} {L : Nat} {o : z_Rs} {M' : Mem} {kk : Nat} (i : Nat) (C : Nat → Nat → Nat → Int32) (D : Nat → Nat → Int32) (E : Nat → Int64) (hi : i + 6 ≤ L) (hL : L < 2 ^ 31) (hk : xs i &&& 31 = 26) (K : z_Ev xs L m_L_law (23, [some (aR 0 41), some (aR 0 16), some (aR 0 32), some (aR 0 40), some (aI (nI (i + 6))), none, none, none, none], [], (C, D, E)) o M' kk) : z_Ev xs L m_L_law (23, [some (aR 0 41), some (aR 0 16), some (aR 0 32), some (aR 0 40), some (aI (nI i)), none, none, none, none], [], (C, D, E)) o M' kk := by
  refine z_Ev_blk 6 (c' := ((if ((Int32.ofNat L) - (6 : Int32)) < (nI i) then 1271 else 33), [some (aR 0 41), some (aR 0 16), some (aR 0 32), some (aR 0 40), some (aI (nI i)), none, none, none, none], [], (C, D, E))) rfl trivial ?_
  refine z_Ev_else (lw_in hi hL) ?_
  refine z_Ev_blk 3 (c' := (37, [some (aR 0 41), some (aR 0 16), some (aR 0 32), some (aR 0 40), some (aI (nI i)), none, none, none, none], [aI (xs (nI i).toNatClampNeg)], (C, D, E))) rfl ⟨(inb_nI (show i < L by omega) hL), trivial⟩ ?_
  rw [nI_clamp (show i < 2 ^ 31 by omega)]
  refine z_Ev_blk 2 (c' := (40, [some (aR 0 41), some (aR 0 16), some (aR 0 32), some (aR 0 40), some (aI (nI i)), none, none, none, none], [aI ((xs i) &&& (31 : Int32))], (C, D, E))) rfl trivial ?_
  rw [hk]
  refine z_Ev_blk 1 (c' := (1265, [some (aR 0 41), some (aR 0 16), some (aR 0 32), some (aR 0 40), some (aI (nI i)), none, none, none, none], [], (C, D, E))) rfl trivial ?_
  refine z_Ev_blk 2 (c' := (23, [some (aR 0 41), some (aR 0 16), some (aR 0 32), some (aR 0 40), some (aI ((nI i) + (6 : Int32))), none, none, none, none], [], (C, D, E))) rfl trivial ?_
  rw [nI_6]
  exact K
theorem lw_27 {xs : Nat → Int32} {L : Nat} {o : z_Rs} {M' : Mem} {kk : Nat} (i : Nat) (C : Nat → Nat → Nat → Int32) (D : Nat → Nat → Int32) (E : Nat → Int64) (hi : i + 6 ≤ L) (hL : L < 2 ^ 31) (hk : xs i &&& 31 = 27) (K : z_Ev xs L m_L_law (23, [some (aR 0 41), some (aR 0 16), some (aR 0 32), some (aR 0 40), some (aI (nI (i + 6))), none, none, none, none], [], (C, D, E)) o M' kk) : z_Ev xs L m_L_law (23, [some (aR 0 41), some (aR 0 16), some (aR 0 32), some (aR 0 40), some (aI (nI i)), none, none, none, none], [], (C, D, E)) o M' kk := by
  refine z_Ev_blk 6 (c' := ((if ((Int32.ofNat L) - (6 : Int32)) < (nI i) then 1271 else 33), [some (aR 0 41), some (aR 0 16), some (aR 0 32), some (aR 0 40), some (aI (nI i)), none, none, none, none], [], (C, D, E))) rfl trivial ?_
  refine z_Ev_else (lw_in hi hL) ?_
  refine z_Ev_blk 3 (c' := (37, [some (aR 0 41), some (aR 0 16), some (aR 0 32), some (aR 0 40), some (aI (nI i)), none, none, none, none], [aI (xs (nI i).toNatClampNeg)], (C, D, E))) rfl ⟨(inb_nI (show i < L by omega) hL), trivial⟩ ?_
  rw [nI_clamp (show i < 2 ^ 31 by omega)]
  refine z_Ev_blk 2 (c' := (40, [some (aR 0 41), some (aR 0 16), some (aR 0 32), some (aR 0 40), some (aI (nI i)), none, none, none, none], [aI ((xs i) &&& (31 : Int32))], (C, D, E))) rfl trivial ?_
  rw [hk]
  refine z_Ev_blk 1 (c' := (1265, [some (aR 0 41), some (aR 0 16), some (aR 0 32), some (aR 0 40), some (aI (nI i)), none, none, none, none], [], (C, D, E))) rfl trivial ?_
  refine z_Ev_blk 2 (c' := (23, [some (aR 0 41), some (aR 0 16), some (aR 0 32), some (aR 0 40), some (aI ((nI i) + (6 : Int32))), none, none, none, none], [], (C, D, E))) rfl trivial ?_
  rw [nI_6]
  exact K
theorem lw_28 {xs : Nat → Int32} {L : Nat} {o : z_Rs} {M' : Mem} {kk : Nat} (i : Nat) (C : Nat → Nat → Nat → Int32) (D : Nat → Nat → Int32) (E : Nat → Int64) (hi : i + 6 ≤ L) (hL : L < 2 ^ 31) (hk : xs i &&& 31 = 28) (K : z_Ev xs L m_L_law (23, [some (aR 0 41), some (aR 0 16), some (aR 0 32), some (aR 0 40), some (aI (nI (i + 6))), none, none, none, none], [], (C, D, E)) o M' kk) : z_Ev xs L m_L_law (23, [some (aR 0 41), some (aR 0 16), some (aR 0 32), some (aR 0 40), some (aI (nI i)), none, none, none, none], [], (C, D, E)) o M' kk := by
  refine z_Ev_blk 6 (c' := ((if ((Int32.ofNat L) - (6 : Int32)) < (nI i) then 1271 else 33), [some (aR 0 41), some (aR 0 16), some (aR 0 32), some (aR 0 40), some (aI (nI i)), none, none, none, none], [], (C, D, E))) rfl trivial ?_
  refine z_Ev_else (lw_in hi hL) ?_
  refine z_Ev_blk 3 (c' := (37, [some (aR 0 41), some (aR 0 16), some (aR 0 32), some (aR 0 40), some (aI (nI i)), none, none, none, none], [aI (xs (nI i).toNatClampNeg)], (C, D, E))) rfl ⟨(inb_nI (show i < L by omega) hL), trivial⟩ ?_
  rw [nI_clamp (show i < 2 ^ 31 by omega)]
  refine z_Ev_blk 2 (c' := (40, [some (aR 0 41), some (aR 0 16), some (aR 0 32), some (aR 0 40), some (aI (nI i)), none, none, none, none], [aI ((xs i) &&& (31 : Int32))], (C, D, E))) rfl trivial ?_
  rw [hk]
  refine z_Ev_blk 1 (c' := (1265, [some (aR 0 41), some (aR 0 16), some (aR 0 32), some (aR 0 40), some (aI (nI i)), none, none, none, none], [], (C, D, E))) rfl trivial ?_
  refine z_Ev_blk 2 (c' := (23, [some (aR 0 41), some (aR 0 16), some (aR 0 32), some (aR 0 40), some (aI ((nI i) + (6 : Int32))), none, none, none, none], [], (C, D, E))) rfl trivial ?_
  rw [nI_6]
  exact K
theorem lw_29 {xs : Nat → Int32} {L : Nat} {o : z_Rs} {M' : Mem} {kk : Nat} (i : Nat) (C : Nat → Nat → Nat → Int32) (D : Nat → Nat → Int32) (E : Nat → Int64) (hi : i + 6 ≤ L) (hL : L < 2 ^ 31) (hk : xs i &&& 31 = 29) (K : z_Ev xs L m_L_law (23, [some (aR 0 41), some (aR 0 16), some (aR 0 32), some (aR 0 40), some (aI (nI (i + 6))), none, none, none, none], [], (C, D, E)) o M' kk) : z_Ev xs L m_L_law (23, [some (aR 0 41), some (aR 0 16), some (aR 0 32), some (aR 0 40), some (aI (nI i)), none, none, none, none], [], (C, D, E)) o M' kk := by
  refine z_Ev_blk 6 (c' := ((if ((Int32.ofNat L) - (6 : Int32)) < (nI i) then 1271 else 33), [some (aR 0 41), some (aR 0 16), some (aR 0 32), some (aR 0 40), some (aI (nI i)), none, none, none, none], [], (C, D, E))) rfl trivial ?_
  refine z_Ev_else (lw_in hi hL) ?_
  refine z_Ev_blk 3 (c' := (37, [some (aR 0 41), some (aR 0 16), some (aR 0 32), some (aR 0 40), some (aI (nI i)), none, none, none, none], [aI (xs (nI i).toNatClampNeg)], (C, D, E))) rfl ⟨(inb_nI (show i < L by omega) hL), trivial⟩ ?_
  rw [nI_clamp (show i < 2 ^ 31 by omega)]
  refine z_Ev_blk 2 (c' := (40, [some (aR 0 41), some (aR 0 16), some (aR 0 32), some (aR 0 40), some (aI (nI i)), none, none, none, none], [aI ((xs i) &&& (31 : Int32))], (C, D, E))) rfl trivial ?_
  rw [hk]
  refine z_Ev_blk 1 (c' := (1265, [some (aR 0 41), some (aR 0 16), some (aR 0 32), some (aR 0 40), some (aI (nI i)), none, none, none, none], [], (C, D, E))) rfl trivial ?_
  refine z_Ev_blk 2 (c' := (23, [some (aR 0 41), some (aR 0 16), some (aR 0 32), some (aR 0 40), some (aI ((nI i) + (6 : Int32))), none, none, none, none], [], (C, D, E))) rfl trivial ?_
  rw [nI_6]
  exact K
theorem lw_30 {xs : Nat → Int32} {L : Nat} {o : z_Rs} {M' : Mem} {kk : Nat} (i : Nat) (C : Nat → Nat → Nat → Int32) (D : Nat → Nat → Int32) (E : Nat → Int64) (hi : i + 6 ≤ L) (hL : L < 2 ^ 31) (hk : xs i &&& 31 = 30) (K : z_Ev xs L m_L_law (23, [some (aR 0 41), some (aR 0 16), some (aR 0 32), some (aR 0 40), some (aI (nI (i + 6))), none, none, none, none], [], (C, D, E)) o M' kk) : z_Ev xs L m_L_law (23, [some (aR 0 41), some (aR 0 16), some (aR 0 32), some (aR 0 40), some (aI (nI i)), none, none, none, none], [], (C, D, E)) o M' kk := by
  refine z_Ev_blk 6 (c' := ((if ((Int32.ofNat L) - (6 : Int32)) < (nI i) then 1271 else 33), [some (aR 0 41), some (aR 0 16), some (aR 0 32), some (aR 0 40), some (aI (nI i)), none, none, none, none], [], (C, D, E))) rfl trivial ?_
  refine z_Ev_else (lw_in hi hL) ?_
  refine z_Ev_blk 3 (c' := (37, [some (aR 0 41), some (aR 0 16), some (aR 0 32), some (aR 0 40), some (aI (nI i)), none, none, none, none], [aI (xs (nI i).toNatClampNeg)], (C, D, E))) rfl ⟨(inb_nI (show i < L by omega) hL), trivial⟩ ?_
  rw [nI_clamp (show i < 2 ^ 31 by omega)]
  refine z_Ev_blk 2 (c' := (40, [some (aR 0 41), some (aR 0 16), some (aR 0 32), some (aR 0 40), some (aI (nI i)), none, none, none, none], [aI ((xs i) &&& (31 : Int32))], (C, D, E))) rfl trivial ?_
  rw [hk]
  refine z_Ev_blk 1 (c' := (1265, [some (aR 0 41), some (aR 0 16), some (aR 0 32), some (aR 0 40), some (aI (nI i)), none, none, none, none], [], (C, D, E))) rfl trivial ?_
  refine z_Ev_blk 2 (c' := (23, [some (aR 0 41), some (aR 0 16), some (aR 0 32), some (aR 0 40), some (aI ((nI i) + (6 : Int32))), none, none, none, none], [], (C, D, E))) rfl trivial ?_
  rw [nI_6]
  exact K
theorem lw_31 {xs : Nat → Int32} {L : Nat} {o : z_Rs} {M' : Mem} {kk : Nat} (i : Nat) (C : Nat → Nat → Nat → Int32) (D : Nat → Nat → Int32) (E : Nat → Int64) (hi : i + 6 ≤ L) (hL : L < 2 ^ 31) (hk : xs i &&& 31 = 31) (K : z_Ev xs L m_L_law (23, [some (aR 0 41), some (aR 0 16), some (aR 0 32), some (aR 0 40), some (aI (nI (i + 6))), none, none, none, none], [], (C, D, E)) o M' kk) : z_Ev xs L m_L_law (23, [some (aR 0 41), some (aR 0 16), some (aR 0 32), some (aR 0 40), some (aI (nI i)), none, none, none, none], [], (C, D, E)) o M' kk := by
  refine z_Ev_blk 6 (c' := ((if ((Int32.ofNat L) - (6 : Int32)) < (nI i) then 1271 else 33), [some (aR 0 41), some (aR 0 16), some (aR 0 32), some (aR 0 40), some (aI (nI i)), none, none, none, none], [], (C, D, E))) rfl trivial ?_
  refine z_Ev_else (lw_in hi hL) ?_
  refine z_Ev_blk 3 (c' := (37, [some (aR 0 41), some (aR 0 16), some (aR 0 32), some (aR 0 40), some (aI (nI i)), none, none, none, none], [aI (xs (nI i).toNatClampNeg)], (C, D, E))) rfl ⟨(inb_nI (show i < L by omega) hL), trivial⟩ ?_
  rw [nI_clamp (show i < 2 ^ 31 by omega)]
  refine z_Ev_blk 2 (c' := (40, [some (aR 0 41), some (aR 0 16), some (aR 0 32), some (aR 0 40), some (aI (nI i)), none, none, none, none], [aI ((xs i) &&& (31 : Int32))], (C, D, E))) rfl trivial ?_
  rw [hk]
  refine z_Ev_blk 1 (c' := (1265, [some (aR 0 41), some (aR 0 16), some (aR 0 32), some (aR 0 40), some (aI (nI i)), none, none, none, none], [], (C, D, E))) rfl trivial ?_
  refine z_Ev_blk 2 (c' := (23, [some (aR 0 41), some (aR 0 16), some (aR 0 32), some (aR 0 40), some (aI ((nI i) + (6 : Int32))), none, none, none, none], [], (C, D, E))) rfl trivial ?_
  rw [nI_6]
  exact K
theorem lw_end {xs : Nat → Int32} {L : Nat} (i : Nat) (C : Nat → Nat → Nat → Int32) (D : Nat → Nat → Int32) (E : Nat → Int64) (hi : ¬ i + 6 ≤ L) (hi2 : i ≤ L) (hL : L < 2 ^ 31) : z_Ev xs L m_L_law (23, [some (aR 0 41), some (aR 0 16), some (aR 0 32), some (aR 0 40), some (aI (nI i)), none, none, none, none], [], (C, D, E)) (.inl (some (aI 1))) (C, D, E) 0 := by
  refine z_Ev_blk 6 (c' := ((if ((Int32.ofNat L) - (6 : Int32)) < (nI i) then 1271 else 33), [some (aR 0 41), some (aR 0 16), some (aR 0 32), some (aR 0 40), some (aI (nI i)), none, none, none, none], [], (C, D, E))) rfl trivial ?_
  refine z_Ev_if (lw_out hi hi2 hL) ?_
  refine z_Ev_blk 1 (c' := (1272, [some (aR 0 41), some (aR 0 16), some (aR 0 32), some (aR 0 40), some (aI (nI i)), none, none, none, none], [aI (1 : Int32)], (C, D, E))) rfl trivial ?_
  exact z_Ev_zretE rfl rfl (rfl) (by rfl) (by rfl)
