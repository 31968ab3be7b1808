/-! THE CLASS: Plan -/
theorem p_whole {xs : Nat → Int32} {L : Nat}  (n t : Nat → Int32) (v : Nat → Nat → Int32) (ld sh o cd pl ka kb kc : Nat → Int32) (D : Nat → Nat → Int32) (E : Nat → Int64)  : z_Mt xs L m_X2_isWhole [aR 0 19] (cm n t v ld sh o cd pl ka kb kc, D, E) (.inl (some (aI (f_b (pl 4 = 8 ∨ pl 4 = 3 ∨ pl 4 = 7))))) (cm n t v ld sh o cd pl ka kb kc, D, E) 0 := by
  refine z_Ev_blk 4 (c' := ((if (pl 4) = (8 : Int32) then 26 else 9), [some (aR 0 19)], [], (cm n t v ld sh o cd pl ka kb kc, D, E))) rfl trivial ?_
  refine z_Ev_ite (fun h1 => ?_) (fun h1 => ?_)
  · skip
    refine z_Ev_blk 2 (c' := (31, [some (aR 0 19)], [aI (1 : Int32)], (cm n t v ld sh o cd pl ka kb kc, D, E))) rfl trivial ?_
    exact z_Ev_zretE rfl rfl (rfl) (by first | (refine f_b1 ?_; simp [*]; done) | (refine f_b0 ?_; simp [*]; done)) (by first | rfl | simp [*])
  · skip
    refine z_Ev_blk 4 (c' := ((if (pl 4) = (3 : Int32) then 26 else 17), [some (aR 0 19)], [], (cm n t v ld sh o cd pl ka kb kc, D, E))) rfl trivial ?_
    refine z_Ev_ite (fun h2 => ?_) (fun h2 => ?_)
    · skip
      refine z_Ev_blk 2 (c' := (31, [some (aR 0 19)], [aI (1 : Int32)], (cm n t v ld sh o cd pl ka kb kc, D, E))) rfl trivial ?_
      exact z_Ev_zretE rfl rfl (rfl) (by first | (refine f_b1 ?_; simp [*]; done) | (refine f_b0 ?_; simp [*]; done)) (by first | rfl | simp [*])
    · skip
      refine z_Ev_blk 4 (c' := ((if (pl 4) = (7 : Int32) then 26 else 30), [some (aR 0 19)], [], (cm n t v ld sh o cd pl ka kb kc, D, E))) rfl trivial ?_
      refine z_Ev_ite (fun h3 => ?_) (fun h3 => ?_)
      · skip
        refine z_Ev_blk 2 (c' := (31, [some (aR 0 19)], [aI (1 : Int32)], (cm n t v ld sh o cd pl ka kb kc, D, E))) rfl trivial ?_
        exact z_Ev_zretE rfl rfl (rfl) (by first | (refine f_b1 ?_; simp [*]; done) | (refine f_b0 ?_; simp [*]; done)) (by first | rfl | simp [*])
      · skip
        refine z_Ev_blk 1 (c' := (31, [some (aR 0 19)], [aI (0 : Int32)], (cm n t v ld sh o cd pl ka kb kc, D, E))) rfl trivial ?_
        exact z_Ev_zretE rfl rfl (rfl) (by first | (refine f_b1 ?_; simp [*]; done) | (refine f_b0 ?_; simp [*]; done)) (by first | rfl | simp [*])
theorem p_begins_kb1 {xs : Nat → Int32} {L : Nat} (j : Nat) (d w : Int32) (n t : Nat → Int32) (v : Nat → Nat → Int32) (ld sh o cd pl ka kb kc : Nat → Int32) (D : Nat → Nat → Int32) (E : Nat → Int64) (hj : j < 60) : z_Mt xs L m_X2_begins [aR 0 19, aR 0 21, aI (nI j), aI d, aI (1 : Int32), aI w] (cm n t v ld sh o cd pl ka kb kc, D, E) (.inl (some (aI (1)))) (cm n t v ld sh o cd (upd pl 4 w) ka (upd kb j d) kc, D, E) 0 := by
  refine z_Ev_blk 2 (c' := ((if (1 : Int32) = 0 then 27 else 5), [some (aR 0 19), some (aR 0 21), some (aI (nI j)), some (aI d), some (aI (1 : Int32)), some (aI w)], [], (cm n t v ld sh o cd pl ka kb kc, D, E))) rfl trivial ?_
  refine z_Ev_else (by decide) ?_
  refine z_Ev_blk 2 (c' := ((if (nI j) < 0 then 27 else 9), [some (aR 0 19), some (aR 0 21), some (aI (nI j)), some (aI d), some (aI (1 : Int32)), some (aI w)], [], (cm n t v ld sh o cd pl ka kb kc, D, E))) rfl trivial ?_
  refine z_Ev_else (nI_pos (by omega)) ?_
  refine z_Ev_blk 4 (c' := ((if (60 : Int32) ≤ (nI j) then 27 else 15), [some (aR 0 19), some (aR 0 21), some (aI (nI j)), some (aI d), some (aI (1 : Int32)), some (aI w)], [], (cm n t v ld sh o cd pl ka kb kc, D, E))) rfl trivial ?_
  refine z_Ev_else (nI_ge (b := 60) hj (by decide)) ?_
  refine z_Ev_blk 4 (c' := (19, [some (aR 0 19), some (aR 0 21), some (aI (nI j)), some (aI d), some (aI (1 : Int32)), some (aI w)], [], (up3 (cm n t v ld sh o cd pl ka kb kc) 0 21 ((nI j).toNatClampNeg) d, D, E))) rfl ⟨(inb_nI hj (by decide)), trivial⟩ ?_
  rw [nI_clamp (show j < 2 ^ 31 by omega)]
  rw [cm_21]
  refine z_Ev_blk 3 (c' := (25, [some (aR 0 19), some (aR 0 21), some (aI (nI j)), some (aI d), some (aI (1 : Int32)), some (aI w)], [], (up3 (cm n t v ld sh o cd pl ka (upd kb j d) kc) 0 19 4 w, D, E))) rfl trivial ?_
  rw [cm_19]
  refine z_Ev_blk 1 (c' := (26, [some (aR 0 19), some (aR 0 21), some (aI (nI j)), some (aI d), some (aI (1 : Int32)), some (aI w)], [aI (1 : Int32)], (cm n t v ld sh o cd (upd pl 4 w) ka (upd kb j d) kc, D, E))) rfl trivial ?_
  exact z_Ev_zretE rfl rfl (rfl) (by first | rfl | simp [*]) (by first | rfl | simp [*])
theorem p_begins_kb0 {xs : Nat → Int32} {L : Nat} (j : Nat) (d w : Int32) (n t : Nat → Int32) (v : Nat → Nat → Int32) (ld sh o cd pl ka kb kc : Nat → Int32) (D : Nat → Nat → Int32) (E : Nat → Int64)  : z_Mt xs L m_X2_begins [aR 0 19, aR 0 21, aI (nI j), aI d, aI (0 : Int32), aI w] (cm n t v ld sh o cd pl ka kb kc, D, E) (.inl (some (aI (0)))) (cm n t v ld sh o cd pl ka kb kc, D, E) 0 := by
  refine z_Ev_blk 2 (c' := ((if (0 : Int32) = 0 then 27 else 5), [some (aR 0 19), some (aR 0 21), some (aI (nI j)), some (aI d), some (aI (0 : Int32)), some (aI w)], [], (cm n t v ld sh o cd pl ka kb kc, D, E))) rfl trivial ?_
  refine z_Ev_if (by decide) ?_
  refine z_Ev_blk 1 (c' := (28, [some (aR 0 19), some (aR 0 21), some (aI (nI j)), some (aI d), some (aI (0 : Int32)), some (aI w)], [aI (0 : Int32)], (cm n t v ld sh o cd pl ka kb kc, D, E))) rfl trivial ?_
  exact z_Ev_zretE rfl rfl (rfl) (by first | rfl | simp [*]) (by first | rfl | simp [*])
theorem p_goes_kb1 {xs : Nat → Int32} {L : Nat} (j : Nat) (d w : Int32) (n t : Nat → Int32) (v : Nat → Nat → Int32) (ld sh o cd pl ka kb kc : Nat → Int32) (D : Nat → Nat → Int32) (E : Nat → Int64) (hj : j < 60) (h0 : ¬ kb j = 0) (hw : 10 * kb j + d ≤ w) : z_Mt xs L m_X2_goesOn [aR 0 19, aR 0 21, aI (nI j), aI d, aI w] (cm n t v ld sh o cd pl ka kb kc, D, E) (.inl (some (aI (1)))) (cm n t v ld sh o cd pl ka (upd kb j (10 * kb j + d)) kc, D, E) 0 := by
  refine z_Ev_blk 2 (c' := ((if (nI j) < 0 then 16 else 4), [some (aR 0 19), some (aR 0 21), some (aI (nI j)), some (aI d), some (aI w), none], [], (cm n t v ld sh o cd pl ka kb kc, D, E))) rfl trivial ?_
  refine z_Ev_else (nI_pos (by omega)) ?_
  refine z_Ev_blk 4 (c' := ((if (60 : Int32) ≤ (nI j) then 16 else 10), [some (aR 0 19), some (aR 0 21), some (aI (nI j)), some (aI d), some (aI w), none], [], (cm n t v ld sh o cd pl ka kb kc, D, E))) rfl trivial ?_
  refine z_Ev_else (nI_ge (b := 60) hj (by decide)) ?_
  refine z_Ev_blk 3 (c' := (13, [some (aR 0 19), some (aR 0 21), some (aI (nI j)), some (aI d), some (aI w), none], [aI (kb ((nI j).toNatClampNeg))], (cm n t v ld sh o cd pl ka kb kc, D, E))) rfl ⟨(inb_nI hj (by decide)), trivial⟩ ?_
  rw [nI_clamp (show j < 2 ^ 31 by omega)]
  refine z_Ev_blk 1 (c' := ((if (kb j) = 0 then 16 else 18), [some (aR 0 19), some (aR 0 21), some (aI (nI j)), some (aI d), some (aI w), none], [], (cm n t v ld sh o cd pl ka kb kc, D, E))) rfl trivial ?_
  refine z_Ev_else (h0) ?_
  refine z_Ev_blk 4 (c' := (23, [some (aR 0 19), some (aR 0 21), some (aI (nI j)), some (aI d), some (aI w), none], [aI (kb ((nI j).toNatClampNeg)), aI (10 : Int32)], (cm n t v ld sh o cd pl ka kb kc, D, E))) rfl ⟨(inb_nI hj (by decide)), trivial⟩ ?_
  rw [nI_clamp (show j < 2 ^ 31 by omega)]
  refine z_Ev_blk 7 (c' := ((if (((10 : Int32) * (kb j)) + d) ≤ w then 37 else 35), [some (aR 0 19), some (aR 0 21), some (aI (nI j)), some (aI d), some (aI w), some (aI (((10 : Int32) * (kb j)) + d))], [], (cm n t v ld sh o cd pl ka kb kc, D, E))) rfl trivial ?_
  refine z_Ev_if (hw) ?_
  refine z_Ev_blk 4 (c' := (42, [some (aR 0 19), some (aR 0 21), some (aI (nI j)), some (aI d), some (aI w), some (aI (((10 : Int32) * (kb j)) + d))], [], (up3 (cm n t v ld sh o cd pl ka kb kc) 0 21 ((nI j).toNatClampNeg) (((10 : Int32) * (kb j)) + d), D, E))) rfl ⟨(inb_nI hj (by decide)), trivial⟩ ?_
  rw [nI_clamp (show j < 2 ^ 31 by omega)]
  rw [cm_21]
  refine z_Ev_blk 1 (c' := (43, [some (aR 0 19), some (aR 0 21), some (aI (nI j)), some (aI d), some (aI w), some (aI (((10 : Int32) * (kb j)) + d))], [aI (1 : Int32)], (cm n t v ld sh o cd pl ka (upd kb j (((10 : Int32) * (kb j)) + d)) kc, D, E))) rfl trivial ?_
  exact z_Ev_zretE rfl rfl (rfl) (by first | rfl | simp [*]) (by first | rfl | simp [*])
theorem p_goes_kb0 {xs : Nat → Int32} {L : Nat} (j : Nat) (d w : Int32) (n t : Nat → Int32) (v : Nat → Nat → Int32) (ld sh o cd pl ka kb kc : Nat → Int32) (D : Nat → Nat → Int32) (E : Nat → Int64) (hj : j < 60) (h0 : kb j = 0 ∨ ¬ 10 * kb j + d ≤ w) : z_Mt xs L m_X2_goesOn [aR 0 19, aR 0 21, aI (nI j), aI d, aI w] (cm n t v ld sh o cd pl ka kb kc, D, E) (.inl (some (aI 0))) (cm n t v ld sh o cd pl ka kb kc, D, E) 0 := by
  refine z_Ev_blk 2 (c' := ((if (nI j) < 0 then 16 else 4), [some (aR 0 19), some (aR 0 21), some (aI (nI j)), some (aI d), some (aI w), none], [], (cm n t v ld sh o cd pl ka kb kc, D, E))) rfl trivial ?_
  refine z_Ev_else (nI_pos (by omega)) ?_
  refine z_Ev_blk 4 (c' := ((if (60 : Int32) ≤ (nI j) then 16 else 10), [some (aR 0 19), some (aR 0 21), some (aI (nI j)), some (aI d), some (aI w), none], [], (cm n t v ld sh o cd pl ka kb kc, D, E))) rfl trivial ?_
  refine z_Ev_else (nI_ge (b := 60) hj (by decide)) ?_
  refine z_Ev_blk 3 (c' := (13, [some (aR 0 19), some (aR 0 21), some (aI (nI j)), some (aI d), some (aI w), none], [aI (kb ((nI j).toNatClampNeg))], (cm n t v ld sh o cd pl ka kb kc, D, E))) rfl ⟨(inb_nI hj (by decide)), trivial⟩ ?_
  rw [nI_clamp (show j < 2 ^ 31 by omega)]
  refine z_Ev_blk 1 (c' := ((if (kb j) = 0 then 16 else 18), [some (aR 0 19), some (aR 0 21), some (aI (nI j)), some (aI d), some (aI w), none], [], (cm n t v ld sh o cd pl ka kb kc, D, E))) rfl trivial ?_
  refine z_Ev_ite (fun h1 => ?_) (fun h1 => ?_)
  · skip
    refine z_Ev_blk 1 (c' := (17, [some (aR 0 19), some (aR 0 21), some (aI (nI j)), some (aI d), some (aI w), none], [aI (0 : Int32)], (cm n t v ld sh o cd pl ka kb kc, D, E))) rfl trivial ?_
    exact z_Ev_zretE rfl rfl (rfl) (by rfl) (by rfl)
  · skip
    refine z_Ev_blk 4 (c' := (23, [some (aR 0 19), some (aR 0 21), some (aI (nI j)), some (aI d), some (aI w), none], [aI (kb ((nI j).toNatClampNeg)), aI (10 : Int32)], (cm n t v ld sh o cd pl ka kb kc, D, E))) rfl ⟨(inb_nI hj (by decide)), trivial⟩ ?_
    rw [nI_clamp (show j < 2 ^ 31 by omega)]
    refine z_Ev_blk 7 (c' := ((if (((10 : Int32) * (kb j)) + d) ≤ w then 37 else 35), [some (aR 0 19), some (aR 0 21), some (aI (nI j)), some (aI d), some (aI w), some (aI (((10 : Int32) * (kb j)) + d))], [], (cm n t v ld sh o cd pl ka kb kc, D, E))) rfl trivial ?_
    refine z_Ev_ite (fun h2 => ?_) (fun h2 => ?_)
    · skip
      exact absurd h0 (fun z => z.elim (fun z => by contradiction) (fun z => by contradiction))
    · skip
      refine z_Ev_blk 1 (c' := (36, [some (aR 0 19), some (aR 0 21), some (aI (nI j)), some (aI d), some (aI w), some (aI (((10 : Int32) * (kb j)) + d))], [aI (0 : Int32)], (cm n t v ld sh o cd pl ka kb kc, D, E))) rfl trivial ?_
      exact z_Ev_zretE rfl rfl (rfl) (by rfl) (by rfl)
theorem p_begins_kc1 {xs : Nat → Int32} {L : Nat} (j : Nat) (d w : Int32) (n t : Nat → Int32) (v : Nat → Nat → Int32) (ld sh o cd pl ka kb kc : Nat → Int32) (D : Nat → Nat → Int32) (E : Nat → Int64) (hj : j < 60) : z_Mt xs L m_X2_begins [aR 0 19, aR 0 22, aI (nI j), aI d, aI (1 : Int32), aI w] (cm n t v ld sh o cd pl ka kb kc, D, E) (.inl (some (aI (1)))) (cm n t v ld sh o cd (upd pl 4 w) ka kb (upd kc j d), D, E) 0 := by
  refine z_Ev_blk 2 (c' := ((if (1 : Int32) = 0 then 27 else 5), [some (aR 0 19), some (aR 0 22), some (aI (nI j)), some (aI d), some (aI (1 : Int32)), some (aI w)], [], (cm n t v ld sh o cd pl ka kb kc, D, E))) rfl trivial ?_
  refine z_Ev_else (by decide) ?_
  refine z_Ev_blk 2 (c' := ((if (nI j) < 0 then 27 else 9), [some (aR 0 19), some (aR 0 22), some (aI (nI j)), some (aI d), some (aI (1 : Int32)), some (aI w)], [], (cm n t v ld sh o cd pl ka kb kc, D, E))) rfl trivial ?_
  refine z_Ev_else (nI_pos (by omega)) ?_
  refine z_Ev_blk 4 (c' := ((if (60 : Int32) ≤ (nI j) then 27 else 15), [some (aR 0 19), some (aR 0 22), some (aI (nI j)), some (aI d), some (aI (1 : Int32)), some (aI w)], [], (cm n t v ld sh o cd pl ka kb kc, D, E))) rfl trivial ?_
  refine z_Ev_else (nI_ge (b := 60) hj (by decide)) ?_
  refine z_Ev_blk 4 (c' := (19, [some (aR 0 19), some (aR 0 22), some (aI (nI j)), some (aI d), some (aI (1 : Int32)), some (aI w)], [], (up3 (cm n t v ld sh o cd pl ka kb kc) 0 22 ((nI j).toNatClampNeg) d, D, E))) rfl ⟨(inb_nI hj (by decide)), trivial⟩ ?_
  rw [nI_clamp (show j < 2 ^ 31 by omega)]
  rw [cm_22]
  refine z_Ev_blk 3 (c' := (25, [some (aR 0 19), some (aR 0 22), some (aI (nI j)), some (aI d), some (aI (1 : Int32)), some (aI w)], [], (up3 (cm n t v ld sh o cd pl ka kb (upd kc j d)) 0 19 4 w, D, E))) rfl trivial ?_
  rw [cm_19]
  refine z_Ev_blk 1 (c' := (26, [some (aR 0 19), some (aR 0 22), some (aI (nI j)), some (aI d), some (aI (1 : Int32)), some (aI w)], [aI (1 : Int32)], (cm n t v ld sh o cd (upd pl 4 w) ka kb (upd kc j d), D, E))) rfl trivial ?_
  exact z_Ev_zretE rfl rfl (rfl) (by first | rfl | simp [*]) (by first | rfl | simp [*])
theorem p_begins_kc0 {xs : Nat → Int32} {L : Nat} (j : Nat) (d w : Int32) (n t : Nat → Int32) (v : Nat → Nat → Int32) (ld sh o cd pl ka kb kc : Nat → Int32) (D : Nat → Nat → Int32) (E : Nat → Int64)  : z_Mt xs L m_X2_begins [aR 0 19, aR 0 22, aI (nI j), aI d, aI (0 : Int32), aI w] (cm n t v ld sh o cd pl ka kb kc, D, E) (.inl (some (aI (0)))) (cm n t v ld sh o cd pl ka kb kc, D, E) 0 := by
  refine z_Ev_blk 2 (c' := ((if (0 : Int32) = 0 then 27 else 5), [some (aR 0 19), some (aR 0 22), some (aI (nI j)), some (aI d), some (aI (0 : Int32)), some (aI w)], [], (cm n t v ld sh o cd pl ka kb kc, D, E))) rfl trivial ?_
  refine z_Ev_if (by decide) ?_
  refine z_Ev_blk 1 (c' := (28, [some (aR 0 19), some (aR 0 22), some (aI (nI j)), some (aI d), some (aI (0 : Int32)), some (aI w)], [aI (0 : Int32)], (cm n t v ld sh o cd pl ka kb kc, D, E))) rfl trivial ?_
  exact z_Ev_zretE rfl rfl (rfl) (by first | rfl | simp [*]) (by first | rfl | simp [*])
theorem p_goes_kc1 {xs : Nat → Int32} {L : Nat} (j : Nat) (d w : Int32) (n t : Nat → Int32) (v : Nat → Nat → Int32) (ld sh o cd pl ka kb kc : Nat → Int32) (D : Nat → Nat → Int32) (E : Nat → Int64) (hj : j < 60) (h0 : ¬ kc j = 0) (hw : 10 * kc j + d ≤ w) : z_Mt xs L m_X2_goesOn [aR 0 19, aR 0 22, aI (nI j), aI d, aI w] (cm n t v ld sh o cd pl ka kb kc, D, E) (.inl (some (aI (1)))) (cm n t v ld sh o cd pl ka kb (upd kc j (10 * kc j + d)), D, E) 0 := by
  refine z_Ev_blk 2 (c' := ((if (nI j) < 0 then 16 else 4), [some (aR 0 19), some (aR 0 22), some (aI (nI j)), some (aI d), some (aI w), none], [], (cm n t v ld sh o cd pl ka kb kc, D, E))) rfl trivial ?_
  refine z_Ev_else (nI_pos (by omega)) ?_
  refine z_Ev_blk 4 (c' := ((if (60 : Int32) ≤ (nI j) then 16 else 10), [some (aR 0 19), some (aR 0 22), some (aI (nI j)), some (aI d), some (aI w), none], [], (cm n t v ld sh o cd pl ka kb kc, D, E))) rfl trivial ?_
  refine z_Ev_else (nI_ge (b := 60) hj (by decide)) ?_
  refine z_Ev_blk 3 (c' := (13, [some (aR 0 19), some (aR 0 22), some (aI (nI j)), some (aI d), some (aI w), none], [aI (kc ((nI j).toNatClampNeg))], (cm n t v ld sh o cd pl ka kb kc, D, E))) rfl ⟨(inb_nI hj (by decide)), trivial⟩ ?_
  rw [nI_clamp (show j < 2 ^ 31 by omega)]
  refine z_Ev_blk 1 (c' := ((if (kc j) = 0 then 16 else 18), [some (aR 0 19), some (aR 0 22), some (aI (nI j)), some (aI d), some (aI w), none], [], (cm n t v ld sh o cd pl ka kb kc, D, E))) rfl trivial ?_
  refine z_Ev_else (h0) ?_
  refine z_Ev_blk 4 (c' := (23, [some (aR 0 19), some (aR 0 22), some (aI (nI j)), some (aI d), some (aI w), none], [aI (kc ((nI j).toNatClampNeg)), aI (10 : Int32)], (cm n t v ld sh o cd pl ka kb kc, D, E))) rfl ⟨(inb_nI hj (by decide)), trivial⟩ ?_
  rw [nI_clamp (show j < 2 ^ 31 by omega)]
  refine z_Ev_blk 7 (c' := ((if (((10 : Int32) * (kc j)) + d) ≤ w then 37 else 35), [some (aR 0 19), some (aR 0 22), some (aI (nI j)), some (aI d), some (aI w), some (aI (((10 : Int32) * (kc j)) + d))], [], (cm n t v ld sh o cd pl ka kb kc, D, E))) rfl trivial ?_
  refine z_Ev_if (hw) ?_
  refine z_Ev_blk 4 (c' := (42, [some (aR 0 19), some (aR 0 22), some (aI (nI j)), some (aI d), some (aI w), some (aI (((10 : Int32) * (kc j)) + d))], [], (up3 (cm n t v ld sh o cd pl ka kb kc) 0 22 ((nI j).toNatClampNeg) (((10 : Int32) * (kc j)) + d), D, E))) rfl ⟨(inb_nI hj (by decide)), trivial⟩ ?_
  rw [nI_clamp (show j < 2 ^ 31 by omega)]
  rw [cm_22]
  refine z_Ev_blk 1 (c' := (43, [some (aR 0 19), some (aR 0 22), some (aI (nI j)), some (aI d), some (aI w), some (aI (((10 : Int32) * (kc j)) + d))], [aI (1 : Int32)], (cm n t v ld sh o cd pl ka kb (upd kc j (((10 : Int32) * (kc j)) + d)), D, E))) rfl trivial ?_
  exact z_Ev_zretE rfl rfl (rfl) (by first | rfl | simp [*]) (by first | rfl | simp [*])
theorem p_goes_kc0 {xs : Nat → Int32} {L : Nat} (j : Nat) (d w : Int32) (n t : Nat → Int32) (v : Nat → Nat → Int32) (ld sh o cd pl ka kb kc : Nat → Int32) (D : Nat → Nat → Int32) (E : Nat → Int64) (hj : j < 60) (h0 : kc j = 0 ∨ ¬ 10 * kc j + d ≤ w) : z_Mt xs L m_X2_goesOn [aR 0 19, aR 0 22, aI (nI j), aI d, aI w] (cm n t v ld sh o cd pl ka kb kc, D, E) (.inl (some (aI 0))) (cm n t v ld sh o cd pl ka kb kc, D, E) 0 := by
  refine z_Ev_blk 2 (c' := ((if (nI j) < 0 then 16 else 4), [some (aR 0 19), some (aR 0 22), some (aI (nI j)), some (aI d), some (aI w), none], [], (cm n t v ld sh o cd pl ka kb kc, D, E))) rfl trivial ?_
  refine z_Ev_else (nI_pos (by omega)) ?_
  refine z_Ev_blk 4 (c' := ((if (60 : Int32) ≤ (nI j) then 16 else 10), [some (aR 0 19), some (aR 0 22), some (aI (nI j)), some (aI d), some (aI w), none], [], (cm n t v ld sh o cd pl ka kb kc, D, E))) rfl trivial ?_
  refine z_Ev_else (nI_ge (b := 60) hj (by decide)) ?_
  refine z_Ev_blk 3 (c' := (13, [some (aR 0 19), some (aR 0 22), some (aI (nI j)), some (aI d), some (aI w), none], [aI (kc ((nI j).toNatClampNeg))], (cm n t v ld sh o cd pl ka kb kc, D, E))) rfl ⟨(inb_nI hj (by decide)), trivial⟩ ?_
  rw [nI_clamp (show j < 2 ^ 31 by omega)]
  refine z_Ev_blk 1 (c' := ((if (kc j) = 0 then 16 else 18), [some (aR 0 19), some (aR 0 22), some (aI (nI j)), some (aI d), some (aI w), none], [], (cm n t v ld sh o cd pl ka kb kc, D, E))) rfl trivial ?_
  refine z_Ev_ite (fun h1 => ?_) (fun h1 => ?_)
  · skip
    refine z_Ev_blk 1 (c' := (17, [some (aR 0 19), some (aR 0 22), some (aI (nI j)), some (aI d), some (aI w), none], [aI (0 : Int32)], (cm n t v ld sh o cd pl ka kb kc, D, E))) rfl trivial ?_
    exact z_Ev_zretE rfl rfl (rfl) (by rfl) (by rfl)
  · skip
    refine z_Ev_blk 4 (c' := (23, [some (aR 0 19), some (aR 0 22), some (aI (nI j)), some (aI d), some (aI w), none], [aI (kc ((nI j).toNatClampNeg)), aI (10 : Int32)], (cm n t v ld sh o cd pl ka kb kc, D, E))) rfl ⟨(inb_nI hj (by decide)), trivial⟩ ?_
    rw [nI_clamp (show j < 2 ^ 31 by omega)]
    refine z_Ev_blk 7 (c' := ((if (((10 : Int32) * (kc j)) + d) ≤ w then 37 else 35), [some (aR 0 19), some (aR 0 22), some (aI (nI j)), some (aI d), some (aI w), some (aI (((10 : Int32) * (kc j)) + d))], [], (cm n t v ld sh o cd pl ka kb kc, D, E))) rfl trivial ?_
    refine z_Ev_ite (fun h2 => ?_) (fun h2 => ?_)
    · skip
      exact absurd h0 (fun z => z.elim (fun z => by contradiction) (fun z => by contradiction))
    · skip
      refine z_Ev_blk 1 (c' := (36, [some (aR 0 19), some (aR 0 22), some (aI (nI j)), some (aI d), some (aI w), some (aI (((10 : Int32) * (kc j)) + d))], [aI (0 : Int32)], (cm n t v ld sh o cd pl ka kb kc, D, E))) rfl trivial ?_
      exact z_Ev_zretE rfl rfl (rfl) (by rfl) (by rfl)
theorem p_digit_1_1 {xs : Nat → Int32} {L : Nat} (j : Nat) (d : Int32) (n t : Nat → Int32) (v : Nat → Nat → Int32) (ld sh o cd pl ka kb kc : Nat → Int32) (D : Nat → Nat → Int32) (E : Nat → Int64) (hj : j < 60) (e4 : pl 4 = 1) (hd : (0 ≤ d ∧ d ≤ 3)) : z_Mt xs L m_X2_takesDigit [aR 0 19, aI (nI j), aI d] (cm n t v ld sh o cd pl ka kb kc, D, E) (.inl (some (aI 1))) (cm n t v ld sh o cd (upd pl 4 8) ka (upd kb j d) kc, D, E) 0 := by
  refine z_Ev_blk 2 (c' := (4, [some (aR 0 19), some (aI (nI j)), some (aI d)], [aI (pl 4)], (cm n t v ld sh o cd pl ka kb kc, D, E))) rfl trivial ?_
  rw [e4]
  refine z_Ev_blk 1 (c' := (48, [some (aR 0 19), some (aI (nI j)), some (aI d)], [], (cm n t v ld sh o cd pl ka kb kc, D, E))) rfl trivial ?_
  refine z_Ev_blk 6 (c' := (56, [some (aR 0 19), some (aI (nI j)), some (aI d)], [aI d, aI d, aI (nI j), aR 0 21, aR 0 19], (cm n t v ld sh o cd pl ka kb kc, D, E))) rfl trivial ?_
  refine z_Ev_call0 (m' := m_X4_isSet) (as := [aI d]) (r := [aI d, aI (nI j), aR 0 21, aR 0 19]) ((by have q := e_isSet (xs := xs) (L := L) d (cm n t v ld sh o cd pl ka kb kc) D E; rw [f_b_t (hd)] at q; exact q)) rfl rfl ?_
  refine z_Ev_blk 1 (c' := (61, [some (aR 0 19), some (aI (nI j)), some (aI d)], [aI (8 : Int32), aI (1 : Int32), aI d, aI (nI j), aR 0 21, aR 0 19], (cm n t v ld sh o cd pl ka kb kc, D, E))) rfl trivial ?_
  refine z_Ev_call0 (m' := m_X2_begins) (as := [aR 0 19, aR 0 21, aI (nI j), aI d, aI (1 : Int32), aI (8 : Int32)]) (r := []) (p_begins_kb1 j d (8 : Int32) n t v ld sh o cd pl ka kb kc D E hj) rfl rfl ?_
  exact z_Ev_zretE rfl rfl (rfl) (by rfl) (by rfl)
theorem p_digit_1_0 {xs : Nat → Int32} {L : Nat} (j : Nat) (d : Int32) (n t : Nat → Int32) (v : Nat → Nat → Int32) (ld sh o cd pl ka kb kc : Nat → Int32) (D : Nat → Nat → Int32) (E : Nat → Int64) (hj : j < 60) (e4 : pl 4 = 1) (hd : ¬ (0 ≤ d ∧ d ≤ 3)) : z_Mt xs L m_X2_takesDigit [aR 0 19, aI (nI j), aI d] (cm n t v ld sh o cd pl ka kb kc, D, E) (.inl (some (aI 0))) (cm n t v ld sh o cd pl ka kb kc, D, E) 0 := by
  refine z_Ev_blk 2 (c' := (4, [some (aR 0 19), some (aI (nI j)), some (aI d)], [aI (pl 4)], (cm n t v ld sh o cd pl ka kb kc, D, E))) rfl trivial ?_
  rw [e4]
  refine z_Ev_blk 1 (c' := (48, [some (aR 0 19), some (aI (nI j)), some (aI d)], [], (cm n t v ld sh o cd pl ka kb kc, D, E))) rfl trivial ?_
  refine z_Ev_blk 6 (c' := (56, [some (aR 0 19), some (aI (nI j)), some (aI d)], [aI d, aI d, aI (nI j), aR 0 21, aR 0 19], (cm n t v ld sh o cd pl ka kb kc, D, E))) rfl trivial ?_
  refine z_Ev_call0 (m' := m_X4_isSet) (as := [aI d]) (r := [aI d, aI (nI j), aR 0 21, aR 0 19]) ((by have q := e_isSet (xs := xs) (L := L) d (cm n t v ld sh o cd pl ka kb kc) D E; rw [f_b_f (hd)] at q; exact q)) rfl rfl ?_
  refine z_Ev_blk 1 (c' := (61, [some (aR 0 19), some (aI (nI j)), some (aI d)], [aI (8 : Int32), aI (0 : Int32), aI d, aI (nI j), aR 0 21, aR 0 19], (cm n t v ld sh o cd pl ka kb kc, D, E))) rfl trivial ?_
  refine z_Ev_call0 (m' := m_X2_begins) (as := [aR 0 19, aR 0 21, aI (nI j), aI d, aI (0 : Int32), aI (8 : Int32)]) (r := []) (p_begins_kb0 j d (8 : Int32) n t v ld sh o cd pl ka kb kc D E) rfl rfl ?_
  exact z_Ev_zretE rfl rfl (rfl) (by rfl) (by rfl)
theorem p_digit_2_1 {xs : Nat → Int32} {L : Nat} (j : Nat) (d : Int32) (n t : Nat → Int32) (v : Nat → Nat → Int32) (ld sh o cd pl ka kb kc : Nat → Int32) (D : Nat → Nat → Int32) (E : Nat → Int64) (hj : j < 60) (e4 : pl 4 = 2) (hd : 0 < d) : z_Mt xs L m_X2_takesDigit [aR 0 19, aI (nI j), aI d] (cm n t v ld sh o cd pl ka kb kc, D, E) (.inl (some (aI 1))) (cm n t v ld sh o cd (upd pl 4 3) ka (upd kb j d) kc, D, E) 0 := by
  refine z_Ev_blk 2 (c' := (4, [some (aR 0 19), some (aI (nI j)), some (aI d)], [aI (pl 4)], (cm n t v ld sh o cd pl ka kb kc, D, E))) rfl trivial ?_
  rw [e4]
  refine z_Ev_blk 1 (c' := (65, [some (aR 0 19), some (aI (nI j)), some (aI d)], [], (cm n t v ld sh o cd pl ka kb kc, D, E))) rfl trivial ?_
  refine z_Ev_blk 7 (c' := ((if d ≤ 0 then 80 else 76), [some (aR 0 19), some (aI (nI j)), some (aI d)], [aI d, aI (nI j), aR 0 21, aR 0 19], (cm n t v ld sh o cd pl ka kb kc, D, E))) rfl trivial ?_
  refine z_Ev_else (Int32.not_le.mpr hd) ?_
  refine z_Ev_blk 3 (c' := (82, [some (aR 0 19), some (aI (nI j)), some (aI d)], [aI (3 : Int32), aI (1 : Int32), aI d, aI (nI j), aR 0 21, aR 0 19], (cm n t v ld sh o cd pl ka kb kc, D, E))) rfl trivial ?_
  refine z_Ev_call0 (m' := m_X2_begins) (as := [aR 0 19, aR 0 21, aI (nI j), aI d, aI (1 : Int32), aI (3 : Int32)]) (r := []) (p_begins_kb1 j d (3 : Int32) n t v ld sh o cd pl ka kb kc D E hj) rfl rfl ?_
  exact z_Ev_zretE rfl rfl (rfl) (by rfl) (by rfl)
theorem p_digit_2_0 {xs : Nat → Int32} {L : Nat} (j : Nat) (d : Int32) (n t : Nat → Int32) (v : Nat → Nat → Int32) (ld sh o cd pl ka kb kc : Nat → Int32) (D : Nat → Nat → Int32) (E : Nat → Int64) (hj : j < 60) (e4 : pl 4 = 2) (hd : ¬ 0 < d) : z_Mt xs L m_X2_takesDigit [aR 0 19, aI (nI j), aI d] (cm n t v ld sh o cd pl ka kb kc, D, E) (.inl (some (aI 0))) (cm n t v ld sh o cd pl ka kb kc, D, E) 0 := by
  refine z_Ev_blk 2 (c' := (4, [some (aR 0 19), some (aI (nI j)), some (aI d)], [aI (pl 4)], (cm n t v ld sh o cd pl ka kb kc, D, E))) rfl trivial ?_
  rw [e4]
  refine z_Ev_blk 1 (c' := (65, [some (aR 0 19), some (aI (nI j)), some (aI d)], [], (cm n t v ld sh o cd pl ka kb kc, D, E))) rfl trivial ?_
  refine z_Ev_blk 7 (c' := ((if d ≤ 0 then 80 else 76), [some (aR 0 19), some (aI (nI j)), some (aI d)], [aI d, aI (nI j), aR 0 21, aR 0 19], (cm n t v ld sh o cd pl ka kb kc, D, E))) rfl trivial ?_
  refine z_Ev_if (Int32.not_lt.mp hd) ?_
  refine z_Ev_blk 2 (c' := (82, [some (aR 0 19), some (aI (nI j)), some (aI d)], [aI (3 : Int32), aI (0 : Int32), aI d, aI (nI j), aR 0 21, aR 0 19], (cm n t v ld sh o cd pl ka kb kc, D, E))) rfl trivial ?_
  refine z_Ev_call0 (m' := m_X2_begins) (as := [aR 0 19, aR 0 21, aI (nI j), aI d, aI (0 : Int32), aI (3 : Int32)]) (r := []) (p_begins_kb0 j d (3 : Int32) n t v ld sh o cd pl ka kb kc D E) rfl rfl ?_
  exact z_Ev_zretE rfl rfl (rfl) (by rfl) (by rfl)
theorem p_digit_3_1 {xs : Nat → Int32} {L : Nat} (j : Nat) (d : Int32) (n t : Nat → Int32) (v : Nat → Nat → Int32) (ld sh o cd pl ka kb kc : Nat → Int32) (D : Nat → Nat → Int32) (E : Nat → Int64) (hj : j < 60) (e4 : pl 4 = 3) (hd : ¬ kb j = 0 ∧ 10 * kb j + d ≤ 48) : z_Mt xs L m_X2_takesDigit [aR 0 19, aI (nI j), aI d] (cm n t v ld sh o cd pl ka kb kc, D, E) (.inl (some (aI 1))) (cm n t v ld sh o cd pl ka (upd kb j (10 * kb j + d)) kc, D, E) 0 := by
  refine z_Ev_blk 2 (c' := (4, [some (aR 0 19), some (aI (nI j)), some (aI d)], [aI (pl 4)], (cm n t v ld sh o cd pl ka kb kc, D, E))) rfl trivial ?_
  rw [e4]
  refine z_Ev_blk 1 (c' := (113, [some (aR 0 19), some (aI (nI j)), some (aI d)], [], (cm n t v ld sh o cd pl ka kb kc, D, E))) rfl trivial ?_
  refine z_Ev_blk 6 (c' := (122, [some (aR 0 19), some (aI (nI j)), some (aI d)], [aI (48 : Int32), aI d, aI (nI j), aR 0 21, aR 0 19], (cm n t v ld sh o cd pl ka kb kc, D, E))) rfl trivial ?_
  refine z_Ev_call0 (m' := m_X2_goesOn) (as := [aR 0 19, aR 0 21, aI (nI j), aI d, aI (48 : Int32)]) (r := []) (p_goes_kb1 j d (48 : Int32) n t v ld sh o cd pl ka kb kc D E hj hd.1 hd.2) rfl rfl ?_
  exact z_Ev_zretE rfl rfl (rfl) (by rfl) (by rfl)
theorem p_digit_3_0 {xs : Nat → Int32} {L : Nat} (j : Nat) (d : Int32) (n t : Nat → Int32) (v : Nat → Nat → Int32) (ld sh o cd pl ka kb kc : Nat → Int32) (D : Nat → Nat → Int32) (E : Nat → Int64) (hj : j < 60) (e4 : pl 4 = 3) (hd : kb j = 0 ∨ ¬ 10 * kb j + d ≤ 48) : z_Mt xs L m_X2_takesDigit [aR 0 19, aI (nI j), aI d] (cm n t v ld sh o cd pl ka kb kc, D, E) (.inl (some (aI 0))) (cm n t v ld sh o cd pl ka kb kc, D, E) 0 := by
  refine z_Ev_blk 2 (c' := (4, [some (aR 0 19), some (aI (nI j)), some (aI d)], [aI (pl 4)], (cm n t v ld sh o cd pl ka kb kc, D, E))) rfl trivial ?_
  rw [e4]
  refine z_Ev_blk 1 (c' := (113, [some (aR 0 19), some (aI (nI j)), some (aI d)], [], (cm n t v ld sh o cd pl ka kb kc, D, E))) rfl trivial ?_
  refine z_Ev_blk 6 (c' := (122, [some (aR 0 19), some (aI (nI j)), some (aI d)], [aI (48 : Int32), aI d, aI (nI j), aR 0 21, aR 0 19], (cm n t v ld sh o cd pl ka kb kc, D, E))) rfl trivial ?_
  refine z_Ev_call0 (m' := m_X2_goesOn) (as := [aR 0 19, aR 0 21, aI (nI j), aI d, aI (48 : Int32)]) (r := []) (p_goes_kb0 j d (48 : Int32) n t v ld sh o cd pl ka kb kc D E hj hd) rfl rfl ?_
  exact z_Ev_zretE rfl rfl (rfl) (by rfl) (by rfl)
theorem p_digit_4_1 {xs : Nat → Int32} {L : Nat} (j : Nat) (d : Int32) (n t : Nat → Int32) (v : Nat → Nat → Int32) (ld sh o cd pl ka kb kc : Nat → Int32) (D : Nat → Nat → Int32) (E : Nat → Int64) (hj : j < 60) (e4 : pl 4 = 4)  : z_Mt xs L m_X2_takesDigit [aR 0 19, aI (nI j), aI d] (cm n t v ld sh o cd pl ka kb kc, D, E) (.inl (some (aI 1))) (cm n t v ld sh o cd (upd pl 4 5) ka (upd kb j d) kc, D, E) 0 := by
  refine z_Ev_blk 2 (c' := (4, [some (aR 0 19), some (aI (nI j)), some (aI d)], [aI (pl 4)], (cm n t v ld sh o cd pl ka kb kc, D, E))) rfl trivial ?_
  rw [e4]
  refine z_Ev_blk 1 (c' := (86, [some (aR 0 19), some (aI (nI j)), some (aI d)], [], (cm n t v ld sh o cd pl ka kb kc, D, E))) rfl trivial ?_
  refine z_Ev_blk 7 (c' := (95, [some (aR 0 19), some (aI (nI j)), some (aI d)], [aI (5 : Int32), aI (1 : Int32), aI d, aI (nI j), aR 0 21, aR 0 19], (cm n t v ld sh o cd pl ka kb kc, D, E))) rfl trivial ?_
  refine z_Ev_call0 (m' := m_X2_begins) (as := [aR 0 19, aR 0 21, aI (nI j), aI d, aI (1 : Int32), aI (5 : Int32)]) (r := []) (p_begins_kb1 j d (5 : Int32) n t v ld sh o cd pl ka kb kc D E hj) rfl rfl ?_
  exact z_Ev_zretE rfl rfl (rfl) (by rfl) (by rfl)
theorem p_digit_5_1 {xs : Nat → Int32} {L : Nat} (j : Nat) (d : Int32) (n t : Nat → Int32) (v : Nat → Nat → Int32) (ld sh o cd pl ka kb kc : Nat → Int32) (D : Nat → Nat → Int32) (E : Nat → Int64) (hj : j < 60) (e4 : pl 4 = 5) (hd : ¬ kb j = 0 ∧ 10 * kb j + d ≤ 47) : z_Mt xs L m_X2_takesDigit [aR 0 19, aI (nI j), aI d] (cm n t v ld sh o cd pl ka kb kc, D, E) (.inl (some (aI 1))) (cm n t v ld sh o cd pl ka (upd kb j (10 * kb j + d)) kc, D, E) 0 := by
  refine z_Ev_blk 2 (c' := (4, [some (aR 0 19), some (aI (nI j)), some (aI d)], [aI (pl 4)], (cm n t v ld sh o cd pl ka kb kc, D, E))) rfl trivial ?_
  rw [e4]
  refine z_Ev_blk 1 (c' := (126, [some (aR 0 19), some (aI (nI j)), some (aI d)], [], (cm n t v ld sh o cd pl ka kb kc, D, E))) rfl trivial ?_
  refine z_Ev_blk 6 (c' := (135, [some (aR 0 19), some (aI (nI j)), some (aI d)], [aI (47 : Int32), aI d, aI (nI j), aR 0 21, aR 0 19], (cm n t v ld sh o cd pl ka kb kc, D, E))) rfl trivial ?_
  refine z_Ev_call0 (m' := m_X2_goesOn) (as := [aR 0 19, aR 0 21, aI (nI j), aI d, aI (47 : Int32)]) (r := []) (p_goes_kb1 j d (47 : Int32) n t v ld sh o cd pl ka kb kc D E hj hd.1 hd.2) rfl rfl ?_
  exact z_Ev_zretE rfl rfl (rfl) (by rfl) (by rfl)
theorem p_digit_5_0 {xs : Nat → Int32} {L : Nat} (j : Nat) (d : Int32) (n t : Nat → Int32) (v : Nat → Nat → Int32) (ld sh o cd pl ka kb kc : Nat → Int32) (D : Nat → Nat → Int32) (E : Nat → Int64) (hj : j < 60) (e4 : pl 4 = 5) (hd : kb j = 0 ∨ ¬ 10 * kb j + d ≤ 47) : z_Mt xs L m_X2_takesDigit [aR 0 19, aI (nI j), aI d] (cm n t v ld sh o cd pl ka kb kc, D, E) (.inl (some (aI 0))) (cm n t v ld sh o cd pl ka kb kc, D, E) 0 := by
  refine z_Ev_blk 2 (c' := (4, [some (aR 0 19), some (aI (nI j)), some (aI d)], [aI (pl 4)], (cm n t v ld sh o cd pl ka kb kc, D, E))) rfl trivial ?_
  rw [e4]
  refine z_Ev_blk 1 (c' := (126, [some (aR 0 19), some (aI (nI j)), some (aI d)], [], (cm n t v ld sh o cd pl ka kb kc, D, E))) rfl trivial ?_
  refine z_Ev_blk 6 (c' := (135, [some (aR 0 19), some (aI (nI j)), some (aI d)], [aI (47 : Int32), aI d, aI (nI j), aR 0 21, aR 0 19], (cm n t v ld sh o cd pl ka kb kc, D, E))) rfl trivial ?_
  refine z_Ev_call0 (m' := m_X2_goesOn) (as := [aR 0 19, aR 0 21, aI (nI j), aI d, aI (47 : Int32)]) (r := []) (p_goes_kb0 j d (47 : Int32) n t v ld sh o cd pl ka kb kc D E hj hd) rfl rfl ?_
  exact z_Ev_zretE rfl rfl (rfl) (by rfl) (by rfl)
theorem p_digit_6_1 {xs : Nat → Int32} {L : Nat} (j : Nat) (d : Int32) (n t : Nat → Int32) (v : Nat → Nat → Int32) (ld sh o cd pl ka kb kc : Nat → Int32) (D : Nat → Nat → Int32) (E : Nat → Int64) (hj : j < 60) (e4 : pl 4 = 6)  : z_Mt xs L m_X2_takesDigit [aR 0 19, aI (nI j), aI d] (cm n t v ld sh o cd pl ka kb kc, D, E) (.inl (some (aI 1))) (cm n t v ld sh o cd (upd pl 4 7) ka kb (upd kc j d), D, E) 0 := by
  refine z_Ev_blk 2 (c' := (4, [some (aR 0 19), some (aI (nI j)), some (aI d)], [aI (pl 4)], (cm n t v ld sh o cd pl ka kb kc, D, E))) rfl trivial ?_
  rw [e4]
  refine z_Ev_blk 1 (c' := (99, [some (aR 0 19), some (aI (nI j)), some (aI d)], [], (cm n t v ld sh o cd pl ka kb kc, D, E))) rfl trivial ?_
  refine z_Ev_blk 7 (c' := (109, [some (aR 0 19), some (aI (nI j)), some (aI d)], [aI (7 : Int32), aI (1 : Int32), aI d, aI (nI j), aR 0 22, aR 0 19], (cm n t v ld sh o cd pl ka kb kc, D, E))) rfl trivial ?_
  refine z_Ev_call0 (m' := m_X2_begins) (as := [aR 0 19, aR 0 22, aI (nI j), aI d, aI (1 : Int32), aI (7 : Int32)]) (r := []) (p_begins_kc1 j d (7 : Int32) n t v ld sh o cd pl ka kb kc D E hj) rfl rfl ?_
  exact z_Ev_zretE rfl rfl (rfl) (by rfl) (by rfl)
theorem p_digit_7_1 {xs : Nat → Int32} {L : Nat} (j : Nat) (d : Int32) (n t : Nat → Int32) (v : Nat → Nat → Int32) (ld sh o cd pl ka kb kc : Nat → Int32) (D : Nat → Nat → Int32) (E : Nat → Int64) (hj : j < 60) (e4 : pl 4 = 7) (hd : ¬ kc j = 0 ∧ 10 * kc j + d ≤ 1500) : z_Mt xs L m_X2_takesDigit [aR 0 19, aI (nI j), aI d] (cm n t v ld sh o cd pl ka kb kc, D, E) (.inl (some (aI 1))) (cm n t v ld sh o cd pl ka kb (upd kc j (10 * kc j + d)), D, E) 0 := by
  refine z_Ev_blk 2 (c' := (4, [some (aR 0 19), some (aI (nI j)), some (aI d)], [aI (pl 4)], (cm n t v ld sh o cd pl ka kb kc, D, E))) rfl trivial ?_
  rw [e4]
  refine z_Ev_blk 1 (c' := (139, [some (aR 0 19), some (aI (nI j)), some (aI d)], [], (cm n t v ld sh o cd pl ka kb kc, D, E))) rfl trivial ?_
  refine z_Ev_blk 6 (c' := (149, [some (aR 0 19), some (aI (nI j)), some (aI d)], [aI (1500 : Int32), aI d, aI (nI j), aR 0 22, aR 0 19], (cm n t v ld sh o cd pl ka kb kc, D, E))) rfl trivial ?_
  refine z_Ev_call0 (m' := m_X2_goesOn) (as := [aR 0 19, aR 0 22, aI (nI j), aI d, aI (1500 : Int32)]) (r := []) (p_goes_kc1 j d (1500 : Int32) n t v ld sh o cd pl ka kb kc D E hj hd.1 hd.2) rfl rfl ?_
  exact z_Ev_zretE rfl rfl (rfl) (by rfl) (by rfl)
theorem p_digit_7_0 {xs : Nat → Int32} {L : Nat} (j : Nat) (d : Int32) (n t : Nat → Int32) (v : Nat → Nat → Int32) (ld sh o cd pl ka kb kc : Nat → Int32) (D : Nat → Nat → Int32) (E : Nat → Int64) (hj : j < 60) (e4 : pl 4 = 7) (hd : kc j = 0 ∨ ¬ 10 * kc j + d ≤ 1500) : z_Mt xs L m_X2_takesDigit [aR 0 19, aI (nI j), aI d] (cm n t v ld sh o cd pl ka kb kc, D, E) (.inl (some (aI 0))) (cm n t v ld sh o cd pl ka kb kc, D, E) 0 := by
  refine z_Ev_blk 2 (c' := (4, [some (aR 0 19), some (aI (nI j)), some (aI d)], [aI (pl 4)], (cm n t v ld sh o cd pl ka kb kc, D, E))) rfl trivial ?_
  rw [e4]
  refine z_Ev_blk 1 (c' := (139, [some (aR 0 19), some (aI (nI j)), some (aI d)], [], (cm n t v ld sh o cd pl ka kb kc, D, E))) rfl trivial ?_
  refine z_Ev_blk 6 (c' := (149, [some (aR 0 19), some (aI (nI j)), some (aI d)], [aI (1500 : Int32), aI d, aI (nI j), aR 0 22, aR 0 19], (cm n t v ld sh o cd pl ka kb kc, D, E))) rfl trivial ?_
  refine z_Ev_call0 (m' := m_X2_goesOn) (as := [aR 0 19, aR 0 22, aI (nI j), aI d, aI (1500 : Int32)]) (r := []) (p_goes_kc0 j d (1500 : Int32) n t v ld sh o cd pl ka kb kc D E hj hd) rfl rfl ?_
  exact z_Ev_zretE rfl rfl (rfl) (by rfl) (by rfl)
theorem p_digit_8_0 {xs : Nat → Int32} {L : Nat} (j : Nat) (d : Int32) (n t : Nat → Int32) (v : Nat → Nat → Int32) (ld sh o cd pl ka kb kc : Nat → Int32) (D : Nat → Nat → Int32) (E : Nat → Int64) (hj : j < 60) (e4 : pl 4 = 8)  : z_Mt xs L m_X2_takesDigit [aR 0 19, aI (nI j), aI d] (cm n t v ld sh o cd pl ka kb kc, D, E) (.inl (some (aI 0))) (cm n t v ld sh o cd pl ka kb kc, D, E) 0 := by
  refine z_Ev_blk 2 (c' := (4, [some (aR 0 19), some (aI (nI j)), some (aI d)], [aI (pl 4)], (cm n t v ld sh o cd pl ka kb kc, D, E))) rfl trivial ?_
  rw [e4]
  refine z_Ev_blk 1 (c' := (153, [some (aR 0 19), some (aI (nI j)), some (aI d)], [], (cm n t v ld sh o cd pl ka kb kc, D, E))) rfl trivial ?_
  refine z_Ev_blk 1 (c' := (154, [some (aR 0 19), some (aI (nI j)), some (aI d)], [aI (0 : Int32)], (cm n t v ld sh o cd pl ka kb kc, D, E))) rfl trivial ?_
  exact z_Ev_zretE rfl rfl (rfl) (by rfl) (by rfl)
theorem p_order_43 {xs : Nat → Int32} {L : Nat} (j : Nat) (n t : Nat → Int32) (v : Nat → Nat → Int32) (ld sh o cd pl ka kb kc : Nat → Int32) (D : Nat → Nat → Int32) (E : Nat → Int64) (hj : j < 60) (e3 : pl 3 = nI j) : z_Mt xs L m_X2_takesOrder [aR 0 19, aI 43] (cm n t v ld sh o cd pl ka kb kc, D, E) (.inl (some (aI 1))) (cm n t v ld sh o cd (upd (upd pl 4 1) 3 (nI (j + 1))) (upd ka j 43) (upd kb j 0) (upd kc j 0), D, E) 0 := by
  refine z_Ev_blk 2 (c' := (4, [some (aR 0 19), some (aI (43 : Int32))], [aI (pl 3)], (cm n t v ld sh o cd pl ka kb kc, D, E))) rfl trivial ?_
  rw [e3]
  refine z_Ev_blk 2 (c' := ((if (nI j) < (60 : Int32) then 11 else 9), [some (aR 0 19), some (aI (43 : Int32))], [], (cm n t v ld sh o cd pl ka kb kc, D, E))) rfl trivial ?_
  refine z_Ev_if (nI_lt (b := 60) hj (by decide)) ?_
  refine z_Ev_blk 2 (c' := (64, [some (aR 0 19), some (aI (43 : Int32))], [], (cm n t v ld sh o cd pl ka kb kc, D, E))) rfl trivial ?_
  refine z_Ev_blk 3 (c' := (69, [some (aR 0 19), some (aI (43 : Int32))], [], (up3 (cm n t v ld sh o cd pl ka kb kc) 0 19 4 (1 : Int32), D, E))) rfl trivial ?_
  rw [cm_19]
  refine z_Ev_blk 5 (c' := (107, [some (aR 0 19), some (aI (43 : Int32))], [aI (pl 3), aR 0 20], (cm n t v ld sh o cd (upd pl 4 (1 : Int32)) ka kb kc, D, E))) rfl trivial ?_
  rw [e3]
  refine z_Ev_blk 2 (c' := (109, [some (aR 0 19), some (aI (43 : Int32))], [], (up3 (cm n t v ld sh o cd (upd pl 4 (1 : Int32)) ka kb kc) 0 20 ((nI j).toNatClampNeg) (43 : Int32), D, E))) rfl ⟨(inb_nI hj (by decide)), trivial⟩ ?_
  rw [nI_clamp (show j < 2 ^ 31 by omega)]
  rw [cm_20]
  refine z_Ev_blk 4 (c' := (117, [some (aR 0 19), some (aI (43 : Int32))], [aI (pl 3), aR 0 21], (cm n t v ld sh o cd (upd pl 4 (1 : Int32)) (upd ka j (43 : Int32)) kb kc, D, E))) rfl trivial ?_
  rw [e3]
  refine z_Ev_blk 2 (c' := (119, [some (aR 0 19), some (aI (43 : Int32))], [], (up3 (cm n t v ld sh o cd (upd pl 4 (1 : Int32)) (upd ka j (43 : Int32)) kb kc) 0 21 ((nI j).toNatClampNeg) (0 : Int32), D, E))) rfl ⟨(inb_nI hj (by decide)), trivial⟩ ?_
  rw [nI_clamp (show j < 2 ^ 31 by omega)]
  rw [cm_21]
  refine z_Ev_blk 4 (c' := (127, [some (aR 0 19), some (aI (43 : Int32))], [aI (pl 3), aR 0 22], (cm n t v ld sh o cd (upd pl 4 (1 : Int32)) (upd ka j (43 : Int32)) (upd kb j (0 : Int32)) kc, D, E))) rfl trivial ?_
  rw [e3]
  refine z_Ev_blk 2 (c' := (129, [some (aR 0 19), some (aI (43 : Int32))], [], (up3 (cm n t v ld sh o cd (upd pl 4 (1 : Int32)) (upd ka j (43 : Int32)) (upd kb j (0 : Int32)) kc) 0 22 ((nI j).toNatClampNeg) (0 : Int32), D, E))) rfl ⟨(inb_nI hj (by decide)), trivial⟩ ?_
  rw [nI_clamp (show j < 2 ^ 31 by omega)]
  rw [cm_22]
  refine z_Ev_blk 3 (c' := (134, [some (aR 0 19), some (aI (43 : Int32))], [aI (pl 3), aR 0 19], (cm n t v ld sh o cd (upd pl 4 (1 : Int32)) (upd ka j (43 : Int32)) (upd kb j (0 : Int32)) (upd kc j (0 : Int32)), D, E))) rfl trivial ?_
  rw [e3]
  refine z_Ev_blk 3 (c' := (139, [some (aR 0 19), some (aI (43 : Int32))], [], (up3 (cm n t v ld sh o cd (upd pl 4 (1 : Int32)) (upd ka j (43 : Int32)) (upd kb j (0 : Int32)) (upd kc j (0 : Int32))) 0 19 3 ((nI j) + (1 : Int32)), D, E))) rfl trivial ?_
  rw [cm_19]
  refine z_Ev_blk 1 (c' := (140, [some (aR 0 19), some (aI (43 : Int32))], [aI (1 : Int32)], (cm n t v ld sh o cd (upd (upd pl 4 (1 : Int32)) 3 ((nI j) + (1 : Int32))) (upd ka j (43 : Int32)) (upd kb j (0 : Int32)) (upd kc j (0 : Int32)), D, E))) rfl trivial ?_
  exact z_Ev_zretE rfl rfl (rfl) (by rfl) (by rw [nI_1])
theorem p_order_45 {xs : Nat → Int32} {L : Nat} (j : Nat) (n t : Nat → Int32) (v : Nat → Nat → Int32) (ld sh o cd pl ka kb kc : Nat → Int32) (D : Nat → Nat → Int32) (E : Nat → Int64) (hj : j < 60) (e3 : pl 3 = nI j) : z_Mt xs L m_X2_takesOrder [aR 0 19, aI 45] (cm n t v ld sh o cd pl ka kb kc, D, E) (.inl (some (aI 1))) (cm n t v ld sh o cd (upd (upd pl 4 1) 3 (nI (j + 1))) (upd ka j 45) (upd kb j 0) (upd kc j 0), D, E) 0 := by
  refine z_Ev_blk 2 (c' := (4, [some (aR 0 19), some (aI (45 : Int32))], [aI (pl 3)], (cm n t v ld sh o cd pl ka kb kc, D, E))) rfl trivial ?_
  rw [e3]
  refine z_Ev_blk 2 (c' := ((if (nI j) < (60 : Int32) then 11 else 9), [some (aR 0 19), some (aI (45 : Int32))], [], (cm n t v ld sh o cd pl ka kb kc, D, E))) rfl trivial ?_
  refine z_Ev_if (nI_lt (b := 60) hj (by decide)) ?_
  refine z_Ev_blk 2 (c' := (64, [some (aR 0 19), some (aI (45 : Int32))], [], (cm n t v ld sh o cd pl ka kb kc, D, E))) rfl trivial ?_
  refine z_Ev_blk 3 (c' := (69, [some (aR 0 19), some (aI (45 : Int32))], [], (up3 (cm n t v ld sh o cd pl ka kb kc) 0 19 4 (1 : Int32), D, E))) rfl trivial ?_
  rw [cm_19]
  refine z_Ev_blk 5 (c' := (107, [some (aR 0 19), some (aI (45 : Int32))], [aI (pl 3), aR 0 20], (cm n t v ld sh o cd (upd pl 4 (1 : Int32)) ka kb kc, D, E))) rfl trivial ?_
  rw [e3]
  refine z_Ev_blk 2 (c' := (109, [some (aR 0 19), some (aI (45 : Int32))], [], (up3 (cm n t v ld sh o cd (upd pl 4 (1 : Int32)) ka kb kc) 0 20 ((nI j).toNatClampNeg) (45 : Int32), D, E))) rfl ⟨(inb_nI hj (by decide)), trivial⟩ ?_
  rw [nI_clamp (show j < 2 ^ 31 by omega)]
  rw [cm_20]
  refine z_Ev_blk 4 (c' := (117, [some (aR 0 19), some (aI (45 : Int32))], [aI (pl 3), aR 0 21], (cm n t v ld sh o cd (upd pl 4 (1 : Int32)) (upd ka j (45 : Int32)) kb kc, D, E))) rfl trivial ?_
  rw [e3]
  refine z_Ev_blk 2 (c' := (119, [some (aR 0 19), some (aI (45 : Int32))], [], (up3 (cm n t v ld sh o cd (upd pl 4 (1 : Int32)) (upd ka j (45 : Int32)) kb kc) 0 21 ((nI j).toNatClampNeg) (0 : Int32), D, E))) rfl ⟨(inb_nI hj (by decide)), trivial⟩ ?_
  rw [nI_clamp (show j < 2 ^ 31 by omega)]
  rw [cm_21]
  refine z_Ev_blk 4 (c' := (127, [some (aR 0 19), some (aI (45 : Int32))], [aI (pl 3), aR 0 22], (cm n t v ld sh o cd (upd pl 4 (1 : Int32)) (upd ka j (45 : Int32)) (upd kb j (0 : Int32)) kc, D, E))) rfl trivial ?_
  rw [e3]
  refine z_Ev_blk 2 (c' := (129, [some (aR 0 19), some (aI (45 : Int32))], [], (up3 (cm n t v ld sh o cd (upd pl 4 (1 : Int32)) (upd ka j (45 : Int32)) (upd kb j (0 : Int32)) kc) 0 22 ((nI j).toNatClampNeg) (0 : Int32), D, E))) rfl ⟨(inb_nI hj (by decide)), trivial⟩ ?_
  rw [nI_clamp (show j < 2 ^ 31 by omega)]
  rw [cm_22]
  refine z_Ev_blk 3 (c' := (134, [some (aR 0 19), some (aI (45 : Int32))], [aI (pl 3), aR 0 19], (cm n t v ld sh o cd (upd pl 4 (1 : Int32)) (upd ka j (45 : Int32)) (upd kb j (0 : Int32)) (upd kc j (0 : Int32)), D, E))) rfl trivial ?_
  rw [e3]
  refine z_Ev_blk 3 (c' := (139, [some (aR 0 19), some (aI (45 : Int32))], [], (up3 (cm n t v ld sh o cd (upd pl 4 (1 : Int32)) (upd ka j (45 : Int32)) (upd kb j (0 : Int32)) (upd kc j (0 : Int32))) 0 19 3 ((nI j) + (1 : Int32)), D, E))) rfl trivial ?_
  rw [cm_19]
  refine z_Ev_blk 1 (c' := (140, [some (aR 0 19), some (aI (45 : Int32))], [aI (1 : Int32)], (cm n t v ld sh o cd (upd (upd pl 4 (1 : Int32)) 3 ((nI j) + (1 : Int32))) (upd ka j (45 : Int32)) (upd kb j (0 : Int32)) (upd kc j (0 : Int32)), D, E))) rfl trivial ?_
  exact z_Ev_zretE rfl rfl (rfl) (by rfl) (by rw [nI_1])
theorem p_order_115 {xs : Nat → Int32} {L : Nat} (j : Nat) (n t : Nat → Int32) (v : Nat → Nat → Int32) (ld sh o cd pl ka kb kc : Nat → Int32) (D : Nat → Nat → Int32) (E : Nat → Int64) (hj : j < 60) (e3 : pl 3 = nI j) : z_Mt xs L m_X2_takesOrder [aR 0 19, aI 115] (cm n t v ld sh o cd pl ka kb kc, D, E) (.inl (some (aI 1))) (cm n t v ld sh o cd (upd (upd pl 4 8) 3 (nI (j + 1))) (upd ka j 115) (upd kb j 0) (upd kc j 0), D, E) 0 := by
  refine z_Ev_blk 2 (c' := (4, [some (aR 0 19), some (aI (115 : Int32))], [aI (pl 3)], (cm n t v ld sh o cd pl ka kb kc, D, E))) rfl trivial ?_
  rw [e3]
  refine z_Ev_blk 2 (c' := ((if (nI j) < (60 : Int32) then 11 else 9), [some (aR 0 19), some (aI (115 : Int32))], [], (cm n t v ld sh o cd pl ka kb kc, D, E))) rfl trivial ?_
  refine z_Ev_if (nI_lt (b := 60) hj (by decide)) ?_
  refine z_Ev_blk 2 (c' := (72, [some (aR 0 19), some (aI (115 : Int32))], [], (cm n t v ld sh o cd pl ka kb kc, D, E))) rfl trivial ?_
  refine z_Ev_blk 3 (c' := (78, [some (aR 0 19), some (aI (115 : Int32))], [], (up3 (cm n t v ld sh o cd pl ka kb kc) 0 19 4 (8 : Int32), D, E))) rfl trivial ?_
  rw [cm_19]
  refine z_Ev_blk 5 (c' := (107, [some (aR 0 19), some (aI (115 : Int32))], [aI (pl 3), aR 0 20], (cm n t v ld sh o cd (upd pl 4 (8 : Int32)) ka kb kc, D, E))) rfl trivial ?_
  rw [e3]
  refine z_Ev_blk 2 (c' := (109, [some (aR 0 19), some (aI (115 : Int32))], [], (up3 (cm n t v ld sh o cd (upd pl 4 (8 : Int32)) ka kb kc) 0 20 ((nI j).toNatClampNeg) (115 : Int32), D, E))) rfl ⟨(inb_nI hj (by decide)), trivial⟩ ?_
  rw [nI_clamp (show j < 2 ^ 31 by omega)]
  rw [cm_20]
  refine z_Ev_blk 4 (c' := (117, [some (aR 0 19), some (aI (115 : Int32))], [aI (pl 3), aR 0 21], (cm n t v ld sh o cd (upd pl 4 (8 : Int32)) (upd ka j (115 : Int32)) kb kc, D, E))) rfl trivial ?_
  rw [e3]
  refine z_Ev_blk 2 (c' := (119, [some (aR 0 19), some (aI (115 : Int32))], [], (up3 (cm n t v ld sh o cd (upd pl 4 (8 : Int32)) (upd ka j (115 : Int32)) kb kc) 0 21 ((nI j).toNatClampNeg) (0 : Int32), D, E))) rfl ⟨(inb_nI hj (by decide)), trivial⟩ ?_
  rw [nI_clamp (show j < 2 ^ 31 by omega)]
  rw [cm_21]
  refine z_Ev_blk 4 (c' := (127, [some (aR 0 19), some (aI (115 : Int32))], [aI (pl 3), aR 0 22], (cm n t v ld sh o cd (upd pl 4 (8 : Int32)) (upd ka j (115 : Int32)) (upd kb j (0 : Int32)) kc, D, E))) rfl trivial ?_
  rw [e3]
  refine z_Ev_blk 2 (c' := (129, [some (aR 0 19), some (aI (115 : Int32))], [], (up3 (cm n t v ld sh o cd (upd pl 4 (8 : Int32)) (upd ka j (115 : Int32)) (upd kb j (0 : Int32)) kc) 0 22 ((nI j).toNatClampNeg) (0 : Int32), D, E))) rfl ⟨(inb_nI hj (by decide)), trivial⟩ ?_
  rw [nI_clamp (show j < 2 ^ 31 by omega)]
  rw [cm_22]
  refine z_Ev_blk 3 (c' := (134, [some (aR 0 19), some (aI (115 : Int32))], [aI (pl 3), aR 0 19], (cm n t v ld sh o cd (upd pl 4 (8 : Int32)) (upd ka j (115 : Int32)) (upd kb j (0 : Int32)) (upd kc j (0 : Int32)), D, E))) rfl trivial ?_
  rw [e3]
  refine z_Ev_blk 3 (c' := (139, [some (aR 0 19), some (aI (115 : Int32))], [], (up3 (cm n t v ld sh o cd (upd pl 4 (8 : Int32)) (upd ka j (115 : Int32)) (upd kb j (0 : Int32)) (upd kc j (0 : Int32))) 0 19 3 ((nI j) + (1 : Int32)), D, E))) rfl trivial ?_
  rw [cm_19]
  refine z_Ev_blk 1 (c' := (140, [some (aR 0 19), some (aI (115 : Int32))], [aI (1 : Int32)], (cm n t v ld sh o cd (upd (upd pl 4 (8 : Int32)) 3 ((nI j) + (1 : Int32))) (upd ka j (115 : Int32)) (upd kb j (0 : Int32)) (upd kc j (0 : Int32)), D, E))) rfl trivial ?_
  exact z_Ev_zretE rfl rfl (rfl) (by rfl) (by rw [nI_1])
theorem p_order_104 {xs : Nat → Int32} {L : Nat} (j : Nat) (n t : Nat → Int32) (v : Nat → Nat → Int32) (ld sh o cd pl ka kb kc : Nat → Int32) (D : Nat → Nat → Int32) (E : Nat → Int64) (hj : j < 60) (e3 : pl 3 = nI j) : z_Mt xs L m_X2_takesOrder [aR 0 19, aI 104] (cm n t v ld sh o cd pl ka kb kc, D, E) (.inl (some (aI 1))) (cm n t v ld sh o cd (upd (upd pl 4 2) 3 (nI (j + 1))) (upd ka j 104) (upd kb j 0) (upd kc j 0), D, E) 0 := by
  refine z_Ev_blk 2 (c' := (4, [some (aR 0 19), some (aI (104 : Int32))], [aI (pl 3)], (cm n t v ld sh o cd pl ka kb kc, D, E))) rfl trivial ?_
  rw [e3]
  refine z_Ev_blk 2 (c' := ((if (nI j) < (60 : Int32) then 11 else 9), [some (aR 0 19), some (aI (104 : Int32))], [], (cm n t v ld sh o cd pl ka kb kc, D, E))) rfl trivial ?_
  refine z_Ev_if (nI_lt (b := 60) hj (by decide)) ?_
  refine z_Ev_blk 2 (c' := (81, [some (aR 0 19), some (aI (104 : Int32))], [], (cm n t v ld sh o cd pl ka kb kc, D, E))) rfl trivial ?_
  refine z_Ev_blk 3 (c' := (86, [some (aR 0 19), some (aI (104 : Int32))], [], (up3 (cm n t v ld sh o cd pl ka kb kc) 0 19 4 (2 : Int32), D, E))) rfl trivial ?_
  rw [cm_19]
  refine z_Ev_blk 5 (c' := (107, [some (aR 0 19), some (aI (104 : Int32))], [aI (pl 3), aR 0 20], (cm n t v ld sh o cd (upd pl 4 (2 : Int32)) ka kb kc, D, E))) rfl trivial ?_
  rw [e3]
  refine z_Ev_blk 2 (c' := (109, [some (aR 0 19), some (aI (104 : Int32))], [], (up3 (cm n t v ld sh o cd (upd pl 4 (2 : Int32)) ka kb kc) 0 20 ((nI j).toNatClampNeg) (104 : Int32), D, E))) rfl ⟨(inb_nI hj (by decide)), trivial⟩ ?_
  rw [nI_clamp (show j < 2 ^ 31 by omega)]
  rw [cm_20]
  refine z_Ev_blk 4 (c' := (117, [some (aR 0 19), some (aI (104 : Int32))], [aI (pl 3), aR 0 21], (cm n t v ld sh o cd (upd pl 4 (2 : Int32)) (upd ka j (104 : Int32)) kb kc, D, E))) rfl trivial ?_
  rw [e3]
  refine z_Ev_blk 2 (c' := (119, [some (aR 0 19), some (aI (104 : Int32))], [], (up3 (cm n t v ld sh o cd (upd pl 4 (2 : Int32)) (upd ka j (104 : Int32)) kb kc) 0 21 ((nI j).toNatClampNeg) (0 : Int32), D, E))) rfl ⟨(inb_nI hj (by decide)), trivial⟩ ?_
  rw [nI_clamp (show j < 2 ^ 31 by omega)]
  rw [cm_21]
  refine z_Ev_blk 4 (c' := (127, [some (aR 0 19), some (aI (104 : Int32))], [aI (pl 3), aR 0 22], (cm n t v ld sh o cd (upd pl 4 (2 : Int32)) (upd ka j (104 : Int32)) (upd kb j (0 : Int32)) kc, D, E))) rfl trivial ?_
  rw [e3]
  refine z_Ev_blk 2 (c' := (129, [some (aR 0 19), some (aI (104 : Int32))], [], (up3 (cm n t v ld sh o cd (upd pl 4 (2 : Int32)) (upd ka j (104 : Int32)) (upd kb j (0 : Int32)) kc) 0 22 ((nI j).toNatClampNeg) (0 : Int32), D, E))) rfl ⟨(inb_nI hj (by decide)), trivial⟩ ?_
  rw [nI_clamp (show j < 2 ^ 31 by omega)]
  rw [cm_22]
  refine z_Ev_blk 3 (c' := (134, [some (aR 0 19), some (aI (104 : Int32))], [aI (pl 3), aR 0 19], (cm n t v ld sh o cd (upd pl 4 (2 : Int32)) (upd ka j (104 : Int32)) (upd kb j (0 : Int32)) (upd kc j (0 : Int32)), D, E))) rfl trivial ?_
  rw [e3]
  refine z_Ev_blk 3 (c' := (139, [some (aR 0 19), some (aI (104 : Int32))], [], (up3 (cm n t v ld sh o cd (upd pl 4 (2 : Int32)) (upd ka j (104 : Int32)) (upd kb j (0 : Int32)) (upd kc j (0 : Int32))) 0 19 3 ((nI j) + (1 : Int32)), D, E))) rfl trivial ?_
  rw [cm_19]
  refine z_Ev_blk 1 (c' := (140, [some (aR 0 19), some (aI (104 : Int32))], [aI (1 : Int32)], (cm n t v ld sh o cd (upd (upd pl 4 (2 : Int32)) 3 ((nI j) + (1 : Int32))) (upd ka j (104 : Int32)) (upd kb j (0 : Int32)) (upd kc j (0 : Int32)), D, E))) rfl trivial ?_
  exact z_Ev_zretE rfl rfl (rfl) (by rfl) (by rw [nI_1])
theorem p_order_102 {xs : Nat → Int32} {L : Nat} (j : Nat) (n t : Nat → Int32) (v : Nat → Nat → Int32) (ld sh o cd pl ka kb kc : Nat → Int32) (D : Nat → Nat → Int32) (E : Nat → Int64) (hj : j < 60) (e3 : pl 3 = nI j) : z_Mt xs L m_X2_takesOrder [aR 0 19, aI 102] (cm n t v ld sh o cd pl ka kb kc, D, E) (.inl (some (aI 1))) (cm n t v ld sh o cd (upd (upd pl 4 4) 3 (nI (j + 1))) (upd ka j 102) (upd kb j 0) (upd kc j 0), D, E) 0 := by
  refine z_Ev_blk 2 (c' := (4, [some (aR 0 19), some (aI (102 : Int32))], [aI (pl 3)], (cm n t v ld sh o cd pl ka kb kc, D, E))) rfl trivial ?_
  rw [e3]
  refine z_Ev_blk 2 (c' := ((if (nI j) < (60 : Int32) then 11 else 9), [some (aR 0 19), some (aI (102 : Int32))], [], (cm n t v ld sh o cd pl ka kb kc, D, E))) rfl trivial ?_
  refine z_Ev_if (nI_lt (b := 60) hj (by decide)) ?_
  refine z_Ev_blk 2 (c' := (89, [some (aR 0 19), some (aI (102 : Int32))], [], (cm n t v ld sh o cd pl ka kb kc, D, E))) rfl trivial ?_
  refine z_Ev_blk 3 (c' := (94, [some (aR 0 19), some (aI (102 : Int32))], [], (up3 (cm n t v ld sh o cd pl ka kb kc) 0 19 4 (4 : Int32), D, E))) rfl trivial ?_
  rw [cm_19]
  refine z_Ev_blk 5 (c' := (107, [some (aR 0 19), some (aI (102 : Int32))], [aI (pl 3), aR 0 20], (cm n t v ld sh o cd (upd pl 4 (4 : Int32)) ka kb kc, D, E))) rfl trivial ?_
  rw [e3]
  refine z_Ev_blk 2 (c' := (109, [some (aR 0 19), some (aI (102 : Int32))], [], (up3 (cm n t v ld sh o cd (upd pl 4 (4 : Int32)) ka kb kc) 0 20 ((nI j).toNatClampNeg) (102 : Int32), D, E))) rfl ⟨(inb_nI hj (by decide)), trivial⟩ ?_
  rw [nI_clamp (show j < 2 ^ 31 by omega)]
  rw [cm_20]
  refine z_Ev_blk 4 (c' := (117, [some (aR 0 19), some (aI (102 : Int32))], [aI (pl 3), aR 0 21], (cm n t v ld sh o cd (upd pl 4 (4 : Int32)) (upd ka j (102 : Int32)) kb kc, D, E))) rfl trivial ?_
  rw [e3]
  refine z_Ev_blk 2 (c' := (119, [some (aR 0 19), some (aI (102 : Int32))], [], (up3 (cm n t v ld sh o cd (upd pl 4 (4 : Int32)) (upd ka j (102 : Int32)) kb kc) 0 21 ((nI j).toNatClampNeg) (0 : Int32), D, E))) rfl ⟨(inb_nI hj (by decide)), trivial⟩ ?_
  rw [nI_clamp (show j < 2 ^ 31 by omega)]
  rw [cm_21]
  refine z_Ev_blk 4 (c' := (127, [some (aR 0 19), some (aI (102 : Int32))], [aI (pl 3), aR 0 22], (cm n t v ld sh o cd (upd pl 4 (4 : Int32)) (upd ka j (102 : Int32)) (upd kb j (0 : Int32)) kc, D, E))) rfl trivial ?_
  rw [e3]
  refine z_Ev_blk 2 (c' := (129, [some (aR 0 19), some (aI (102 : Int32))], [], (up3 (cm n t v ld sh o cd (upd pl 4 (4 : Int32)) (upd ka j (102 : Int32)) (upd kb j (0 : Int32)) kc) 0 22 ((nI j).toNatClampNeg) (0 : Int32), D, E))) rfl ⟨(inb_nI hj (by decide)), trivial⟩ ?_
  rw [nI_clamp (show j < 2 ^ 31 by omega)]
  rw [cm_22]
  refine z_Ev_blk 3 (c' := (134, [some (aR 0 19), some (aI (102 : Int32))], [aI (pl 3), aR 0 19], (cm n t v ld sh o cd (upd pl 4 (4 : Int32)) (upd ka j (102 : Int32)) (upd kb j (0 : Int32)) (upd kc j (0 : Int32)), D, E))) rfl trivial ?_
  rw [e3]
  refine z_Ev_blk 3 (c' := (139, [some (aR 0 19), some (aI (102 : Int32))], [], (up3 (cm n t v ld sh o cd (upd pl 4 (4 : Int32)) (upd ka j (102 : Int32)) (upd kb j (0 : Int32)) (upd kc j (0 : Int32))) 0 19 3 ((nI j) + (1 : Int32)), D, E))) rfl trivial ?_
  rw [cm_19]
  refine z_Ev_blk 1 (c' := (140, [some (aR 0 19), some (aI (102 : Int32))], [aI (1 : Int32)], (cm n t v ld sh o cd (upd (upd pl 4 (4 : Int32)) 3 ((nI j) + (1 : Int32))) (upd ka j (102 : Int32)) (upd kb j (0 : Int32)) (upd kc j (0 : Int32)), D, E))) rfl trivial ?_
  exact z_Ev_zretE rfl rfl (rfl) (by rfl) (by rw [nI_1])
theorem lk_x {x : Int32} (h1 : x ≠ 43) (h2 : x ≠ 45) (e3 : x ≠ 102) (e4 : x ≠ 104) (h5 : x ≠ 115) : z_lkp 12 85 #[(43, 52), (45, 52), (102, 77), (104, 69), (115, 60)] x = some 97 := by
  have e : z_lkp 12 85 #[(43, 52), (45, 52), (102, 77), (104, 69), (115, 60)] x = z_ti ((12 : Int) + Op.lookupswitch.offset [(43, 52), (45, 52), (102, 77), (104, 69), (115, 60)] 85 x.toInt) := rfl
  rw [e]
  simp only [Op.lookupswitch.offset]
  rw [if_neg (fun z => h1 (Int32.toInt_inj.mp (z.symm.trans (show (43 : Int) = (43 : Int32).toInt from rfl)))), if_neg (fun z => h2 (Int32.toInt_inj.mp (z.symm.trans (show (45 : Int) = (45 : Int32).toInt from rfl)))), if_neg (fun z => e3 (Int32.toInt_inj.mp (z.symm.trans (show (102 : Int) = (102 : Int32).toInt from rfl)))), if_neg (fun z => e4 (Int32.toInt_inj.mp (z.symm.trans (show (104 : Int) = (104 : Int32).toInt from rfl)))), if_neg (fun z => h5 (Int32.toInt_inj.mp (z.symm.trans (show (115 : Int) = (115 : Int32).toInt from rfl))))]
  rfl
theorem p_order_x {xs : Nat → Int32} {L : Nat} (j : Nat) (x : Int32) (n t : Nat → Int32) (v : Nat → Nat → Int32) (ld sh o cd pl ka kb kc : Nat → Int32) (D : Nat → Nat → Int32) (E : Nat → Int64) (hj : j < 60) (e3 : pl 3 = nI j) (q1 : x ≠ 43) (q2 : x ≠ 45) (q3 : x ≠ 102) (q4 : x ≠ 104) (q5 : x ≠ 115) : z_Mt xs L m_X2_takesOrder [aR 0 19, aI x] (cm n t v ld sh o cd pl ka kb kc, D, E) (.inl (some (aI 0))) (cm n t v ld sh o cd pl ka kb kc, D, E) 0 := by
  refine z_Ev_blk 4 (c' := ((if pl 3 < 60 then 11 else 9), [some (aR 0 19), some (aI x)], [], (cm n t v ld sh o cd pl ka kb kc, D, E))) rfl trivial ?_
  refine z_Ev_if (by rw [e3]; exact nI_lt (b := 60) hj (by decide)) ?_
  refine z_Ev_blk 1 (c' := (12, [some (aR 0 19), some (aI x)], [aI x], (cm n t v ld sh o cd pl ka kb kc, D, E))) rfl trivial ?_
  refine z_Ev_st (i := .lookupswitch 85 #[(43, 52), (45, 52), (102, 77), (104, 69), (115, 60)]) (c' := (97, [some (aR 0 19), some (aI x)], [], (cm n t v ld sh o cd pl ka kb kc, D, E))) (O := []) rfl (by
    show (match z_lkp 12 85 #[(43, 52), (45, 52), (102, 77), (104, 69), (115, 60)] x with | some q => some ((q, _, _, _), _) | none => none) = _
    rw [lk_x q1 q2 q3 q4 q5]) trivial ?_
  refine z_Ev_blk 1 (c' := (98, [some (aR 0 19), some (aI x)], [aI 0], (cm n t v ld sh o cd pl ka kb kc, D, E))) rfl trivial ?_
  exact z_Ev_zretE rfl rfl rfl rfl rfl
theorem p_t1_none {xs : Nat → Int32} {L : Nat} (j : Nat) (x : Int32) (n t : Nat → Int32) (v : Nat → Nat → Int32) (ld sh o cd pl ka kb kc : Nat → Int32) (D : Nat → Nat → Int32) (E : Nat → Int64) (hj : j < 60) (e3 : pl 3 = nI (j + 1)) (e4 : pl 4 = 1) (hx : ¬ (48 ≤ x ∧ x ≤ 57)) : z_Mt xs L m_X2_takes [aR 0 19, aI x] (cm n t v ld sh o cd pl ka kb kc, D, E) (.inl (some (aI 0))) (cm n t v ld sh o cd pl ka kb kc, D, E) 0 := by
  refine z_Ev_blk 2 (c' := (4, [some (aR 0 19), some (aI x), none], [aI (pl 4)], (cm n t v ld sh o cd pl ka kb kc, D, E))) rfl trivial ?_
  rw [e4]
  refine z_Ev_blk 1 (c' := ((if (1 : Int32) = 0 then 7 else 13), [some (aR 0 19), some (aI x), none], [], (cm n t v ld sh o cd pl ka kb kc, D, E))) rfl trivial ?_
  refine z_Ev_else (by decide) ?_
  refine z_Ev_blk 3 (c' := ((if x = (59 : Int32) then 19 else 33), [some (aR 0 19), some (aI x), none], [], (cm n t v ld sh o cd pl ka kb kc, D, E))) rfl trivial ?_
  refine z_Ev_ite (fun h1 => ?_) (fun h1 => ?_)
  · skip
    refine z_Ev_blk 1 (c' := (20, [some (aR 0 19), some (aI x), none], [aR 0 19], (cm n t v ld sh o cd pl ka kb kc, D, E))) rfl trivial ?_
    refine z_Ev_call0 (m' := m_X2_isWhole) (as := [aR 0 19]) (r := []) ((by have q := p_whole (xs := xs) (L := L) n t v ld sh o cd pl ka kb kc D E; rw [e4, f_b_f (by decide)] at q; exact q)) rfl rfl ?_
    refine z_Ev_blk 1 (c' := ((if (0 : Int32) = 0 then 33 else 26), [some (aR 0 19), some (aI x), none], [], (cm n t v ld sh o cd pl ka kb kc, D, E))) rfl trivial ?_
    refine z_Ev_if (by decide) ?_
    refine z_Ev_blk 3 (c' := ((if x = (61 : Int32) then 39 else 55), [some (aR 0 19), some (aI x), none], [], (cm n t v ld sh o cd pl ka kb kc, D, E))) rfl trivial ?_
    refine z_Ev_ite (fun h2 => ?_) (fun h2 => ?_)
    · skip
      refine z_Ev_blk 2 (c' := (43, [some (aR 0 19), some (aI x), none], [aI (pl 4)], (cm n t v ld sh o cd pl ka kb kc, D, E))) rfl trivial ?_
      rw [e4]
      refine z_Ev_blk 2 (c' := ((if (1 : Int32) = (5 : Int32) then 47 else 55), [some (aR 0 19), some (aI x), none], [], (cm n t v ld sh o cd pl ka kb kc, D, E))) rfl trivial ?_
      refine z_Ev_else (by decide) ?_
      refine z_Ev_blk 2 (c' := (59, [some (aR 0 19), some (aI x), none], [aI (pl 3)], (cm n t v ld sh o cd pl ka kb kc, D, E))) rfl trivial ?_
      rw [e3]
      refine z_Ev_blk 2 (c' := (61, [some (aR 0 19), some (aI x), none], [aI ((nI (j + 1)) - (1 : Int32))], (cm n t v ld sh o cd pl ka kb kc, D, E))) rfl trivial ?_
      rw [nI_pred]
      refine z_Ev_blk 3 (c' := ((if (nI j) < 0 then 99 else 66), [some (aR 0 19), some (aI x), some (aI (nI j))], [], (cm n t v ld sh o cd pl ka kb kc, D, E))) rfl trivial ?_
      refine z_Ev_else (nI_pos (by omega)) ?_
      refine z_Ev_blk 3 (c' := ((if (60 : Int32) ≤ (nI j) then 99 else 72), [some (aR 0 19), some (aI x), some (aI (nI j))], [], (cm n t v ld sh o cd pl ka kb kc, D, E))) rfl trivial ?_
      refine z_Ev_else (nI_ge (b := 60) hj (by decide)) ?_
      refine z_Ev_blk 3 (c' := (77, [some (aR 0 19), some (aI x), some (aI (nI j))], [aI x, aI (57 : Int32), aI (48 : Int32)], (cm n t v ld sh o cd pl ka kb kc, D, E))) rfl trivial ?_
      refine z_Ev_call0 (m' := m_X4_isFrom) (as := [aI (48 : Int32), aI (57 : Int32), aI x]) (r := []) ((by have q := e_isFrom (xs := xs) (L := L) (48 : Int32) (57 : Int32) x (cm n t v ld sh o cd pl ka kb kc) D E; rw [f_b_f (hx)] at q; exact q)) rfl rfl ?_
      refine z_Ev_blk 1 (c' := ((if (0 : Int32) = 0 then 99 else 83), [some (aR 0 19), some (aI x), some (aI (nI j))], [], (cm n t v ld sh o cd pl ka kb kc, D, E))) rfl trivial ?_
      refine z_Ev_if (by decide) ?_
      refine z_Ev_blk 1 (c' := (100, [some (aR 0 19), some (aI x), some (aI (nI j))], [aI (0 : Int32)], (cm n t v ld sh o cd pl ka kb kc, D, E))) rfl trivial ?_
      exact z_Ev_zretE rfl rfl (rfl) (by rfl) (by rfl)
    · skip
      refine z_Ev_blk 2 (c' := (59, [some (aR 0 19), some (aI x), none], [aI (pl 3)], (cm n t v ld sh o cd pl ka kb kc, D, E))) rfl trivial ?_
      rw [e3]
      refine z_Ev_blk 2 (c' := (61, [some (aR 0 19), some (aI x), none], [aI ((nI (j + 1)) - (1 : Int32))], (cm n t v ld sh o cd pl ka kb kc, D, E))) rfl trivial ?_
      rw [nI_pred]
      refine z_Ev_blk 3 (c' := ((if (nI j) < 0 then 99 else 66), [some (aR 0 19), some (aI x), some (aI (nI j))], [], (cm n t v ld sh o cd pl ka kb kc, D, E))) rfl trivial ?_
      refine z_Ev_else (nI_pos (by omega)) ?_
      refine z_Ev_blk 3 (c' := ((if (60 : Int32) ≤ (nI j) then 99 else 72), [some (aR 0 19), some (aI x), some (aI (nI j))], [], (cm n t v ld sh o cd pl ka kb kc, D, E))) rfl trivial ?_
      refine z_Ev_else (nI_ge (b := 60) hj (by decide)) ?_
      refine z_Ev_blk 3 (c' := (77, [some (aR 0 19), some (aI x), some (aI (nI j))], [aI x, aI (57 : Int32), aI (48 : Int32)], (cm n t v ld sh o cd pl ka kb kc, D, E))) rfl trivial ?_
      refine z_Ev_call0 (m' := m_X4_isFrom) (as := [aI (48 : Int32), aI (57 : Int32), aI x]) (r := []) ((by have q := e_isFrom (xs := xs) (L := L) (48 : Int32) (57 : Int32) x (cm n t v ld sh o cd pl ka kb kc) D E; rw [f_b_f (hx)] at q; exact q)) rfl rfl ?_
      refine z_Ev_blk 1 (c' := ((if (0 : Int32) = 0 then 99 else 83), [some (aR 0 19), some (aI x), some (aI (nI j))], [], (cm n t v ld sh o cd pl ka kb kc, D, E))) rfl trivial ?_
      refine z_Ev_if (by decide) ?_
      refine z_Ev_blk 1 (c' := (100, [some (aR 0 19), some (aI x), some (aI (nI j))], [aI (0 : Int32)], (cm n t v ld sh o cd pl ka kb kc, D, E))) rfl trivial ?_
      exact z_Ev_zretE rfl rfl (rfl) (by rfl) (by rfl)
  · skip
    refine z_Ev_blk 3 (c' := ((if x = (61 : Int32) then 39 else 55), [some (aR 0 19), some (aI x), none], [], (cm n t v ld sh o cd pl ka kb kc, D, E))) rfl trivial ?_
    refine z_Ev_ite (fun h3 => ?_) (fun h3 => ?_)
    · skip
      refine z_Ev_blk 2 (c' := (43, [some (aR 0 19), some (aI x), none], [aI (pl 4)], (cm n t v ld sh o cd pl ka kb kc, D, E))) rfl trivial ?_
      rw [e4]
      refine z_Ev_blk 2 (c' := ((if (1 : Int32) = (5 : Int32) then 47 else 55), [some (aR 0 19), some (aI x), none], [], (cm n t v ld sh o cd pl ka kb kc, D, E))) rfl trivial ?_
      refine z_Ev_else (by decide) ?_
      refine z_Ev_blk 2 (c' := (59, [some (aR 0 19), some (aI x), none], [aI (pl 3)], (cm n t v ld sh o cd pl ka kb kc, D, E))) rfl trivial ?_
      rw [e3]
      refine z_Ev_blk 2 (c' := (61, [some (aR 0 19), some (aI x), none], [aI ((nI (j + 1)) - (1 : Int32))], (cm n t v ld sh o cd pl ka kb kc, D, E))) rfl trivial ?_
      rw [nI_pred]
      refine z_Ev_blk 3 (c' := ((if (nI j) < 0 then 99 else 66), [some (aR 0 19), some (aI x), some (aI (nI j))], [], (cm n t v ld sh o cd pl ka kb kc, D, E))) rfl trivial ?_
      refine z_Ev_else (nI_pos (by omega)) ?_
      refine z_Ev_blk 3 (c' := ((if (60 : Int32) ≤ (nI j) then 99 else 72), [some (aR 0 19), some (aI x), some (aI (nI j))], [], (cm n t v ld sh o cd pl ka kb kc, D, E))) rfl trivial ?_
      refine z_Ev_else (nI_ge (b := 60) hj (by decide)) ?_
      refine z_Ev_blk 3 (c' := (77, [some (aR 0 19), some (aI x), some (aI (nI j))], [aI x, aI (57 : Int32), aI (48 : Int32)], (cm n t v ld sh o cd pl ka kb kc, D, E))) rfl trivial ?_
      refine z_Ev_call0 (m' := m_X4_isFrom) (as := [aI (48 : Int32), aI (57 : Int32), aI x]) (r := []) ((by have q := e_isFrom (xs := xs) (L := L) (48 : Int32) (57 : Int32) x (cm n t v ld sh o cd pl ka kb kc) D E; rw [f_b_f (hx)] at q; exact q)) rfl rfl ?_
      refine z_Ev_blk 1 (c' := ((if (0 : Int32) = 0 then 99 else 83), [some (aR 0 19), some (aI x), some (aI (nI j))], [], (cm n t v ld sh o cd pl ka kb kc, D, E))) rfl trivial ?_
      refine z_Ev_if (by decide) ?_
      refine z_Ev_blk 1 (c' := (100, [some (aR 0 19), some (aI x), some (aI (nI j))], [aI (0 : Int32)], (cm n t v ld sh o cd pl ka kb kc, D, E))) rfl trivial ?_
      exact z_Ev_zretE rfl rfl (rfl) (by rfl) (by rfl)
    · skip
      refine z_Ev_blk 2 (c' := (59, [some (aR 0 19), some (aI x), none], [aI (pl 3)], (cm n t v ld sh o cd pl ka kb kc, D, E))) rfl trivial ?_
      rw [e3]
      refine z_Ev_blk 2 (c' := (61, [some (aR 0 19), some (aI x), none], [aI ((nI (j + 1)) - (1 : Int32))], (cm n t v ld sh o cd pl ka kb kc, D, E))) rfl trivial ?_
      rw [nI_pred]
      refine z_Ev_blk 3 (c' := ((if (nI j) < 0 then 99 else 66), [some (aR 0 19), some (aI x), some (aI (nI j))], [], (cm n t v ld sh o cd pl ka kb kc, D, E))) rfl trivial ?_
      refine z_Ev_else (nI_pos (by omega)) ?_
      refine z_Ev_blk 3 (c' := ((if (60 : Int32) ≤ (nI j) then 99 else 72), [some (aR 0 19), some (aI x), some (aI (nI j))], [], (cm n t v ld sh o cd pl ka kb kc, D, E))) rfl trivial ?_
      refine z_Ev_else (nI_ge (b := 60) hj (by decide)) ?_
      refine z_Ev_blk 3 (c' := (77, [some (aR 0 19), some (aI x), some (aI (nI j))], [aI x, aI (57 : Int32), aI (48 : Int32)], (cm n t v ld sh o cd pl ka kb kc, D, E))) rfl trivial ?_
      refine z_Ev_call0 (m' := m_X4_isFrom) (as := [aI (48 : Int32), aI (57 : Int32), aI x]) (r := []) ((by have q := e_isFrom (xs := xs) (L := L) (48 : Int32) (57 : Int32) x (cm n t v ld sh o cd pl ka kb kc) D E; rw [f_b_f (hx)] at q; exact q)) rfl rfl ?_
      refine z_Ev_blk 1 (c' := ((if (0 : Int32) = 0 then 99 else 83), [some (aR 0 19), some (aI x), some (aI (nI j))], [], (cm n t v ld sh o cd pl ka kb kc, D, E))) rfl trivial ?_
      refine z_Ev_if (by decide) ?_
      refine z_Ev_blk 1 (c' := (100, [some (aR 0 19), some (aI x), some (aI (nI j))], [aI (0 : Int32)], (cm n t v ld sh o cd pl ka kb kc, D, E))) rfl trivial ?_
      exact z_Ev_zretE rfl rfl (rfl) (by rfl) (by rfl)
theorem p_t1_d1 {xs : Nat → Int32} {L : Nat} (j : Nat) (x : Int32) (n t : Nat → Int32) (v : Nat → Nat → Int32) (ld sh o cd pl ka kb kc : Nat → Int32) (D : Nat → Nat → Int32) (E : Nat → Int64) (hj : j < 60) (e3 : pl 3 = nI (j + 1)) (e4 : pl 4 = 1) (hx : 48 ≤ x ∧ x ≤ 57) (hd : (0 ≤ x - 48 ∧ x - 48 ≤ 3)) : z_Mt xs L m_X2_takes [aR 0 19, aI x] (cm n t v ld sh o cd pl ka kb kc, D, E) (.inl (some (aI 1))) (cm n t v ld sh o cd (upd pl 4 8) ka (upd kb j (x - 48)) kc, D, E) 0 := by
  refine z_Ev_blk 2 (c' := (4, [some (aR 0 19), some (aI x), none], [aI (pl 4)], (cm n t v ld sh o cd pl ka kb kc, D, E))) rfl trivial ?_
  rw [e4]
  refine z_Ev_blk 1 (c' := ((if (1 : Int32) = 0 then 7 else 13), [some (aR 0 19), some (aI x), none], [], (cm n t v ld sh o cd pl ka kb kc, D, E))) rfl trivial ?_
  refine z_Ev_else (by decide) ?_
  refine z_Ev_blk 3 (c' := ((if x = (59 : Int32) then 19 else 33), [some (aR 0 19), some (aI x), none], [], (cm n t v ld sh o cd pl ka kb kc, D, E))) rfl trivial ?_
  refine z_Ev_else ((fun z => by rw [z] at hx; exact absurd hx (by decide))) ?_
  refine z_Ev_blk 3 (c' := ((if x = (61 : Int32) then 39 else 55), [some (aR 0 19), some (aI x), none], [], (cm n t v ld sh o cd pl ka kb kc, D, E))) rfl trivial ?_
  refine z_Ev_else ((fun z => by rw [z] at hx; exact absurd hx (by decide))) ?_
  refine z_Ev_blk 2 (c' := (59, [some (aR 0 19), some (aI x), none], [aI (pl 3)], (cm n t v ld sh o cd pl ka kb kc, D, E))) rfl trivial ?_
  rw [e3]
  refine z_Ev_blk 2 (c' := (61, [some (aR 0 19), some (aI x), none], [aI ((nI (j + 1)) - (1 : Int32))], (cm n t v ld sh o cd pl ka kb kc, D, E))) rfl trivial ?_
  rw [nI_pred]
  refine z_Ev_blk 3 (c' := ((if (nI j) < 0 then 99 else 66), [some (aR 0 19), some (aI x), some (aI (nI j))], [], (cm n t v ld sh o cd pl ka kb kc, D, E))) rfl trivial ?_
  refine z_Ev_else (nI_pos (by omega)) ?_
  refine z_Ev_blk 3 (c' := ((if (60 : Int32) ≤ (nI j) then 99 else 72), [some (aR 0 19), some (aI x), some (aI (nI j))], [], (cm n t v ld sh o cd pl ka kb kc, D, E))) rfl trivial ?_
  refine z_Ev_else (nI_ge (b := 60) hj (by decide)) ?_
  refine z_Ev_blk 3 (c' := (77, [some (aR 0 19), some (aI x), some (aI (nI j))], [aI x, aI (57 : Int32), aI (48 : Int32)], (cm n t v ld sh o cd pl ka kb kc, D, E))) rfl trivial ?_
  refine z_Ev_call0 (m' := m_X4_isFrom) (as := [aI (48 : Int32), aI (57 : Int32), aI x]) (r := []) ((by have q := e_isFrom (xs := xs) (L := L) (48 : Int32) (57 : Int32) x (cm n t v ld sh o cd pl ka kb kc) D E; rw [f_b_t (hx)] at q; exact q)) rfl rfl ?_
  refine z_Ev_blk 1 (c' := ((if (1 : Int32) = 0 then 99 else 83), [some (aR 0 19), some (aI x), some (aI (nI j))], [], (cm n t v ld sh o cd pl ka kb kc, D, E))) rfl trivial ?_
  refine z_Ev_else (by decide) ?_
  refine z_Ev_blk 5 (c' := (89, [some (aR 0 19), some (aI x), some (aI (nI j))], [aI (x - (48 : Int32)), aI (nI j), aR 0 19], (cm n t v ld sh o cd pl ka kb kc, D, E))) rfl trivial ?_
  refine z_Ev_call0 (m' := m_X2_takesDigit) (as := [aR 0 19, aI (nI j), aI (x - (48 : Int32))]) (r := []) (p_digit_1_1 j (x - (48 : Int32)) n t v ld sh o cd pl ka kb kc D E hj e4 hd) rfl rfl ?_
  refine z_Ev_blk 1 (c' := ((if (1 : Int32) = 0 then 99 else 95), [some (aR 0 19), some (aI x), some (aI (nI j))], [], (cm n t v ld sh o cd (upd pl 4 8) ka (upd kb j (x - (48 : Int32))) kc, D, E))) rfl trivial ?_
  refine z_Ev_else (by decide) ?_
  refine z_Ev_blk 2 (c' := (100, [some (aR 0 19), some (aI x), some (aI (nI j))], [aI (1 : Int32)], (cm n t v ld sh o cd (upd pl 4 8) ka (upd kb j (x - (48 : Int32))) kc, D, E))) rfl trivial ?_
  exact z_Ev_zretE rfl rfl (rfl) (by rfl) (by rfl)
theorem p_t1_d0 {xs : Nat → Int32} {L : Nat} (j : Nat) (x : Int32) (n t : Nat → Int32) (v : Nat → Nat → Int32) (ld sh o cd pl ka kb kc : Nat → Int32) (D : Nat → Nat → Int32) (E : Nat → Int64) (hj : j < 60) (e3 : pl 3 = nI (j + 1)) (e4 : pl 4 = 1) (hx : 48 ≤ x ∧ x ≤ 57) (hd : ¬ (0 ≤ x - 48 ∧ x - 48 ≤ 3)) : z_Mt xs L m_X2_takes [aR 0 19, aI x] (cm n t v ld sh o cd pl ka kb kc, D, E) (.inl (some (aI 0))) (cm n t v ld sh o cd pl ka kb kc, D, E) 0 := by
  refine z_Ev_blk 2 (c' := (4, [some (aR 0 19), some (aI x), none], [aI (pl 4)], (cm n t v ld sh o cd pl ka kb kc, D, E))) rfl trivial ?_
  rw [e4]
  refine z_Ev_blk 1 (c' := ((if (1 : Int32) = 0 then 7 else 13), [some (aR 0 19), some (aI x), none], [], (cm n t v ld sh o cd pl ka kb kc, D, E))) rfl trivial ?_
  refine z_Ev_else (by decide) ?_
  refine z_Ev_blk 3 (c' := ((if x = (59 : Int32) then 19 else 33), [some (aR 0 19), some (aI x), none], [], (cm n t v ld sh o cd pl ka kb kc, D, E))) rfl trivial ?_
  refine z_Ev_else ((fun z => by rw [z] at hx; exact absurd hx (by decide))) ?_
  refine z_Ev_blk 3 (c' := ((if x = (61 : Int32) then 39 else 55), [some (aR 0 19), some (aI x), none], [], (cm n t v ld sh o cd pl ka kb kc, D, E))) rfl trivial ?_
  refine z_Ev_else ((fun z => by rw [z] at hx; exact absurd hx (by decide))) ?_
  refine z_Ev_blk 2 (c' := (59, [some (aR 0 19), some (aI x), none], [aI (pl 3)], (cm n t v ld sh o cd pl ka kb kc, D, E))) rfl trivial ?_
  rw [e3]
  refine z_Ev_blk 2 (c' := (61, [some (aR 0 19), some (aI x), none], [aI ((nI (j + 1)) - (1 : Int32))], (cm n t v ld sh o cd pl ka kb kc, D, E))) rfl trivial ?_
  rw [nI_pred]
  refine z_Ev_blk 3 (c' := ((if (nI j) < 0 then 99 else 66), [some (aR 0 19), some (aI x), some (aI (nI j))], [], (cm n t v ld sh o cd pl ka kb kc, D, E))) rfl trivial ?_
  refine z_Ev_else (nI_pos (by omega)) ?_
  refine z_Ev_blk 3 (c' := ((if (60 : Int32) ≤ (nI j) then 99 else 72), [some (aR 0 19), some (aI x), some (aI (nI j))], [], (cm n t v ld sh o cd pl ka kb kc, D, E))) rfl trivial ?_
  refine z_Ev_else (nI_ge (b := 60) hj (by decide)) ?_
  refine z_Ev_blk 3 (c' := (77, [some (aR 0 19), some (aI x), some (aI (nI j))], [aI x, aI (57 : Int32), aI (48 : Int32)], (cm n t v ld sh o cd pl ka kb kc, D, E))) rfl trivial ?_
  refine z_Ev_call0 (m' := m_X4_isFrom) (as := [aI (48 : Int32), aI (57 : Int32), aI x]) (r := []) ((by have q := e_isFrom (xs := xs) (L := L) (48 : Int32) (57 : Int32) x (cm n t v ld sh o cd pl ka kb kc) D E; rw [f_b_t (hx)] at q; exact q)) rfl rfl ?_
  refine z_Ev_blk 1 (c' := ((if (1 : Int32) = 0 then 99 else 83), [some (aR 0 19), some (aI x), some (aI (nI j))], [], (cm n t v ld sh o cd pl ka kb kc, D, E))) rfl trivial ?_
  refine z_Ev_else (by decide) ?_
  refine z_Ev_blk 5 (c' := (89, [some (aR 0 19), some (aI x), some (aI (nI j))], [aI (x - (48 : Int32)), aI (nI j), aR 0 19], (cm n t v ld sh o cd pl ka kb kc, D, E))) rfl trivial ?_
  refine z_Ev_call0 (m' := m_X2_takesDigit) (as := [aR 0 19, aI (nI j), aI (x - (48 : Int32))]) (r := []) (p_digit_1_0 j (x - (48 : Int32)) n t v ld sh o cd pl ka kb kc D E hj e4 hd) rfl rfl ?_
  refine z_Ev_blk 1 (c' := ((if (0 : Int32) = 0 then 99 else 95), [some (aR 0 19), some (aI x), some (aI (nI j))], [], (cm n t v ld sh o cd pl ka kb kc, D, E))) rfl trivial ?_
  refine z_Ev_if (by decide) ?_
  refine z_Ev_blk 1 (c' := (100, [some (aR 0 19), some (aI x), some (aI (nI j))], [aI (0 : Int32)], (cm n t v ld sh o cd pl ka kb kc, D, E))) rfl trivial ?_
  exact z_Ev_zretE rfl rfl (rfl) (by rfl) (by rfl)
theorem p_t2_none {xs : Nat → Int32} {L : Nat} (j : Nat) (x : Int32) (n t : Nat → Int32) (v : Nat → Nat → Int32) (ld sh o cd pl ka kb kc : Nat → Int32) (D : Nat → Nat → Int32) (E : Nat → Int64) (hj : j < 60) (e3 : pl 3 = nI (j + 1)) (e4 : pl 4 = 2) (hx : ¬ (48 ≤ x ∧ x ≤ 57)) : z_Mt xs L m_X2_takes [aR 0 19, aI x] (cm n t v ld sh o cd pl ka kb kc, D, E) (.inl (some (aI 0))) (cm n t v ld sh o cd pl ka kb kc, D, E) 0 := by
  refine z_Ev_blk 2 (c' := (4, [some (aR 0 19), some (aI x), none], [aI (pl 4)], (cm n t v ld sh o cd pl ka kb kc, D, E))) rfl trivial ?_
  rw [e4]
  refine z_Ev_blk 1 (c' := ((if (2 : Int32) = 0 then 7 else 13), [some (aR 0 19), some (aI x), none], [], (cm n t v ld sh o cd pl ka kb kc, D, E))) rfl trivial ?_
  refine z_Ev_else (by decide) ?_
  refine z_Ev_blk 3 (c' := ((if x = (59 : Int32) then 19 else 33), [some (aR 0 19), some (aI x), none], [], (cm n t v ld sh o cd pl ka kb kc, D, E))) rfl trivial ?_
  refine z_Ev_ite (fun h1 => ?_) (fun h1 => ?_)
  · skip
    refine z_Ev_blk 1 (c' := (20, [some (aR 0 19), some (aI x), none], [aR 0 19], (cm n t v ld sh o cd pl ka kb kc, D, E))) rfl trivial ?_
    refine z_Ev_call0 (m' := m_X2_isWhole) (as := [aR 0 19]) (r := []) ((by have q := p_whole (xs := xs) (L := L) n t v ld sh o cd pl ka kb kc D E; rw [e4, f_b_f (by decide)] at q; exact q)) rfl rfl ?_
    refine z_Ev_blk 1 (c' := ((if (0 : Int32) = 0 then 33 else 26), [some (aR 0 19), some (aI x), none], [], (cm n t v ld sh o cd pl ka kb kc, D, E))) rfl trivial ?_
    refine z_Ev_if (by decide) ?_
    refine z_Ev_blk 3 (c' := ((if x = (61 : Int32) then 39 else 55), [some (aR 0 19), some (aI x), none], [], (cm n t v ld sh o cd pl ka kb kc, D, E))) rfl trivial ?_
    refine z_Ev_ite (fun h2 => ?_) (fun h2 => ?_)
    · skip
      refine z_Ev_blk 2 (c' := (43, [some (aR 0 19), some (aI x), none], [aI (pl 4)], (cm n t v ld sh o cd pl ka kb kc, D, E))) rfl trivial ?_
      rw [e4]
      refine z_Ev_blk 2 (c' := ((if (2 : Int32) = (5 : Int32) then 47 else 55), [some (aR 0 19), some (aI x), none], [], (cm n t v ld sh o cd pl ka kb kc, D, E))) rfl trivial ?_
      refine z_Ev_else (by decide) ?_
      refine z_Ev_blk 2 (c' := (59, [some (aR 0 19), some (aI x), none], [aI (pl 3)], (cm n t v ld sh o cd pl ka kb kc, D, E))) rfl trivial ?_
      rw [e3]
      refine z_Ev_blk 2 (c' := (61, [some (aR 0 19), some (aI x), none], [aI ((nI (j + 1)) - (1 : Int32))], (cm n t v ld sh o cd pl ka kb kc, D, E))) rfl trivial ?_
      rw [nI_pred]
      refine z_Ev_blk 3 (c' := ((if (nI j) < 0 then 99 else 66), [some (aR 0 19), some (aI x), some (aI (nI j))], [], (cm n t v ld sh o cd pl ka kb kc, D, E))) rfl trivial ?_
      refine z_Ev_else (nI_pos (by omega)) ?_
      refine z_Ev_blk 3 (c' := ((if (60 : Int32) ≤ (nI j) then 99 else 72), [some (aR 0 19), some (aI x), some (aI (nI j))], [], (cm n t v ld sh o cd pl ka kb kc, D, E))) rfl trivial ?_
      refine z_Ev_else (nI_ge (b := 60) hj (by decide)) ?_
      refine z_Ev_blk 3 (c' := (77, [some (aR 0 19), some (aI x), some (aI (nI j))], [aI x, aI (57 : Int32), aI (48 : Int32)], (cm n t v ld sh o cd pl ka kb kc, D, E))) rfl trivial ?_
      refine z_Ev_call0 (m' := m_X4_isFrom) (as := [aI (48 : Int32), aI (57 : Int32), aI x]) (r := []) ((by have q := e_isFrom (xs := xs) (L := L) (48 : Int32) (57 : Int32) x (cm n t v ld sh o cd pl ka kb kc) D E; rw [f_b_f (hx)] at q; exact q)) rfl rfl ?_
      refine z_Ev_blk 1 (c' := ((if (0 : Int32) = 0 then 99 else 83), [some (aR 0 19), some (aI x), some (aI (nI j))], [], (cm n t v ld sh o cd pl ka kb kc, D, E))) rfl trivial ?_
      refine z_Ev_if (by decide) ?_
      refine z_Ev_blk 1 (c' := (100, [some (aR 0 19), some (aI x), some (aI (nI j))], [aI (0 : Int32)], (cm n t v ld sh o cd pl ka kb kc, D, E))) rfl trivial ?_
      exact z_Ev_zretE rfl rfl (rfl) (by rfl) (by rfl)
    · skip
      refine z_Ev_blk 2 (c' := (59, [some (aR 0 19), some (aI x), none], [aI (pl 3)], (cm n t v ld sh o cd pl ka kb kc, D, E))) rfl trivial ?_
      rw [e3]
      refine z_Ev_blk 2 (c' := (61, [some (aR 0 19), some (aI x), none], [aI ((nI (j + 1)) - (1 : Int32))], (cm n t v ld sh o cd pl ka kb kc, D, E))) rfl trivial ?_
      rw [nI_pred]
      refine z_Ev_blk 3 (c' := ((if (nI j) < 0 then 99 else 66), [some (aR 0 19), some (aI x), some (aI (nI j))], [], (cm n t v ld sh o cd pl ka kb kc, D, E))) rfl trivial ?_
      refine z_Ev_else (nI_pos (by omega)) ?_
      refine z_Ev_blk 3 (c' := ((if (60 : Int32) ≤ (nI j) then 99 else 72), [some (aR 0 19), some (aI x), some (aI (nI j))], [], (cm n t v ld sh o cd pl ka kb kc, D, E))) rfl trivial ?_
      refine z_Ev_else (nI_ge (b := 60) hj (by decide)) ?_
      refine z_Ev_blk 3 (c' := (77, [some (aR 0 19), some (aI x), some (aI (nI j))], [aI x, aI (57 : Int32), aI (48 : Int32)], (cm n t v ld sh o cd pl ka kb kc, D, E))) rfl trivial ?_
      refine z_Ev_call0 (m' := m_X4_isFrom) (as := [aI (48 : Int32), aI (57 : Int32), aI x]) (r := []) ((by have q := e_isFrom (xs := xs) (L := L) (48 : Int32) (57 : Int32) x (cm n t v ld sh o cd pl ka kb kc) D E; rw [f_b_f (hx)] at q; exact q)) rfl rfl ?_
      refine z_Ev_blk 1 (c' := ((if (0 : Int32) = 0 then 99 else 83), [some (aR 0 19), some (aI x), some (aI (nI j))], [], (cm n t v ld sh o cd pl ka kb kc, D, E))) rfl trivial ?_
      refine z_Ev_if (by decide) ?_
      refine z_Ev_blk 1 (c' := (100, [some (aR 0 19), some (aI x), some (aI (nI j))], [aI (0 : Int32)], (cm n t v ld sh o cd pl ka kb kc, D, E))) rfl trivial ?_
      exact z_Ev_zretE rfl rfl (rfl) (by rfl) (by rfl)
  · skip
    refine z_Ev_blk 3 (c' := ((if x = (61 : Int32) then 39 else 55), [some (aR 0 19), some (aI x), none], [], (cm n t v ld sh o cd pl ka kb kc, D, E))) rfl trivial ?_
    refine z_Ev_ite (fun h3 => ?_) (fun h3 => ?_)
    · skip
      refine z_Ev_blk 2 (c' := (43, [some (aR 0 19), some (aI x), none], [aI (pl 4)], (cm n t v ld sh o cd pl ka kb kc, D, E))) rfl trivial ?_
      rw [e4]
      refine z_Ev_blk 2 (c' := ((if (2 : Int32) = (5 : Int32) then 47 else 55), [some (aR 0 19), some (aI x), none], [], (cm n t v ld sh o cd pl ka kb kc, D, E))) rfl trivial ?_
      refine z_Ev_else (by decide) ?_
      refine z_Ev_blk 2 (c' := (59, [some (aR 0 19), some (aI x), none], [aI (pl 3)], (cm n t v ld sh o cd pl ka kb kc, D, E))) rfl trivial ?_
      rw [e3]
      refine z_Ev_blk 2 (c' := (61, [some (aR 0 19), some (aI x), none], [aI ((nI (j + 1)) - (1 : Int32))], (cm n t v ld sh o cd pl ka kb kc, D, E))) rfl trivial ?_
      rw [nI_pred]
      refine z_Ev_blk 3 (c' := ((if (nI j) < 0 then 99 else 66), [some (aR 0 19), some (aI x), some (aI (nI j))], [], (cm n t v ld sh o cd pl ka kb kc, D, E))) rfl trivial ?_
      refine z_Ev_else (nI_pos (by omega)) ?_
      refine z_Ev_blk 3 (c' := ((if (60 : Int32) ≤ (nI j) then 99 else 72), [some (aR 0 19), some (aI x), some (aI (nI j))], [], (cm n t v ld sh o cd pl ka kb kc, D, E))) rfl trivial ?_
      refine z_Ev_else (nI_ge (b := 60) hj (by decide)) ?_
      refine z_Ev_blk 3 (c' := (77, [some (aR 0 19), some (aI x), some (aI (nI j))], [aI x, aI (57 : Int32), aI (48 : Int32)], (cm n t v ld sh o cd pl ka kb kc, D, E))) rfl trivial ?_
      refine z_Ev_call0 (m' := m_X4_isFrom) (as := [aI (48 : Int32), aI (57 : Int32), aI x]) (r := []) ((by have q := e_isFrom (xs := xs) (L := L) (48 : Int32) (57 : Int32) x (cm n t v ld sh o cd pl ka kb kc) D E; rw [f_b_f (hx)] at q; exact q)) rfl rfl ?_
      refine z_Ev_blk 1 (c' := ((if (0 : Int32) = 0 then 99 else 83), [some (aR 0 19), some (aI x), some (aI (nI j))], [], (cm n t v ld sh o cd pl ka kb kc, D, E))) rfl trivial ?_
      refine z_Ev_if (by decide) ?_
      refine z_Ev_blk 1 (c' := (100, [some (aR 0 19), some (aI x), some (aI (nI j))], [aI (0 : Int32)], (cm n t v ld sh o cd pl ka kb kc, D, E))) rfl trivial ?_
      exact z_Ev_zretE rfl rfl (rfl) (by rfl) (by rfl)
    · skip
      refine z_Ev_blk 2 (c' := (59, [some (aR 0 19), some (aI x), none], [aI (pl 3)], (cm n t v ld sh o cd pl ka kb kc, D, E))) rfl trivial ?_
      rw [e3]
      refine z_Ev_blk 2 (c' := (61, [some (aR 0 19), some (aI x), none], [aI ((nI (j + 1)) - (1 : Int32))], (cm n t v ld sh o cd pl ka kb kc, D, E))) rfl trivial ?_
      rw [nI_pred]
      refine z_Ev_blk 3 (c' := ((if (nI j) < 0 then 99 else 66), [some (aR 0 19), some (aI x), some (aI (nI j))], [], (cm n t v ld sh o cd pl ka kb kc, D, E))) rfl trivial ?_
      refine z_Ev_else (nI_pos (by omega)) ?_
      refine z_Ev_blk 3 (c' := ((if (60 : Int32) ≤ (nI j) then 99 else 72), [some (aR 0 19), some (aI x), some (aI (nI j))], [], (cm n t v ld sh o cd pl ka kb kc, D, E))) rfl trivial ?_
      refine z_Ev_else (nI_ge (b := 60) hj (by decide)) ?_
      refine z_Ev_blk 3 (c' := (77, [some (aR 0 19), some (aI x), some (aI (nI j))], [aI x, aI (57 : Int32), aI (48 : Int32)], (cm n t v ld sh o cd pl ka kb kc, D, E))) rfl trivial ?_
      refine z_Ev_call0 (m' := m_X4_isFrom) (as := [aI (48 : Int32), aI (57 : Int32), aI x]) (r := []) ((by have q := e_isFrom (xs := xs) (L := L) (48 : Int32) (57 : Int32) x (cm n t v ld sh o cd pl ka kb kc) D E; rw [f_b_f (hx)] at q; exact q)) rfl rfl ?_
      refine z_Ev_blk 1 (c' := ((if (0 : Int32) = 0 then 99 else 83), [some (aR 0 19), some (aI x), some (aI (nI j))], [], (cm n t v ld sh o cd pl ka kb kc, D, E))) rfl trivial ?_
      refine z_Ev_if (by decide) ?_
      refine z_Ev_blk 1 (c' := (100, [some (aR 0 19), some (aI x), some (aI (nI j))], [aI (0 : Int32)], (cm n t v ld sh o cd pl ka kb kc, D, E))) rfl trivial ?_
      exact z_Ev_zretE rfl rfl (rfl) (by rfl) (by rfl)
theorem p_t2_d1 {xs : Nat → Int32} {L : Nat} (j : Nat) (x : Int32) (n t : Nat → Int32) (v : Nat → Nat → Int32) (ld sh o cd pl ka kb kc : Nat → Int32) (D : Nat → Nat → Int32) (E : Nat → Int64) (hj : j < 60) (e3 : pl 3 = nI (j + 1)) (e4 : pl 4 = 2) (hx : 48 ≤ x ∧ x ≤ 57) (hd : 0 < x - 48) : z_Mt xs L m_X2_takes [aR 0 19, aI x] (cm n t v ld sh o cd pl ka kb kc, D, E) (.inl (some (aI 1))) (cm n t v ld sh o cd (upd pl 4 3) ka (upd kb j (x - 48)) kc, D, E) 0 := by
  refine z_Ev_blk 2 (c' := (4, [some (aR 0 19), some (aI x), none], [aI (pl 4)], (cm n t v ld sh o cd pl ka kb kc, D, E))) rfl trivial ?_
  rw [e4]
  refine z_Ev_blk 1 (c' := ((if (2 : Int32) = 0 then 7 else 13), [some (aR 0 19), some (aI x), none], [], (cm n t v ld sh o cd pl ka kb kc, D, E))) rfl trivial ?_
  refine z_Ev_else (by decide) ?_
  refine z_Ev_blk 3 (c' := ((if x = (59 : Int32) then 19 else 33), [some (aR 0 19), some (aI x), none], [], (cm n t v ld sh o cd pl ka kb kc, D, E))) rfl trivial ?_
  refine z_Ev_else ((fun z => by rw [z] at hx; exact absurd hx (by decide))) ?_
  refine z_Ev_blk 3 (c' := ((if x = (61 : Int32) then 39 else 55), [some (aR 0 19), some (aI x), none], [], (cm n t v ld sh o cd pl ka kb kc, D, E))) rfl trivial ?_
  refine z_Ev_else ((fun z => by rw [z] at hx; exact absurd hx (by decide))) ?_
  refine z_Ev_blk 2 (c' := (59, [some (aR 0 19), some (aI x), none], [aI (pl 3)], (cm n t v ld sh o cd pl ka kb kc, D, E))) rfl trivial ?_
  rw [e3]
  refine z_Ev_blk 2 (c' := (61, [some (aR 0 19), some (aI x), none], [aI ((nI (j + 1)) - (1 : Int32))], (cm n t v ld sh o cd pl ka kb kc, D, E))) rfl trivial ?_
  rw [nI_pred]
  refine z_Ev_blk 3 (c' := ((if (nI j) < 0 then 99 else 66), [some (aR 0 19), some (aI x), some (aI (nI j))], [], (cm n t v ld sh o cd pl ka kb kc, D, E))) rfl trivial ?_
  refine z_Ev_else (nI_pos (by omega)) ?_
  refine z_Ev_blk 3 (c' := ((if (60 : Int32) ≤ (nI j) then 99 else 72), [some (aR 0 19), some (aI x), some (aI (nI j))], [], (cm n t v ld sh o cd pl ka kb kc, D, E))) rfl trivial ?_
  refine z_Ev_else (nI_ge (b := 60) hj (by decide)) ?_
  refine z_Ev_blk 3 (c' := (77, [some (aR 0 19), some (aI x), some (aI (nI j))], [aI x, aI (57 : Int32), aI (48 : Int32)], (cm n t v ld sh o cd pl ka kb kc, D, E))) rfl trivial ?_
  refine z_Ev_call0 (m' := m_X4_isFrom) (as := [aI (48 : Int32), aI (57 : Int32), aI x]) (r := []) ((by have q := e_isFrom (xs := xs) (L := L) (48 : Int32) (57 : Int32) x (cm n t v ld sh o cd pl ka kb kc) D E; rw [f_b_t (hx)] at q; exact q)) rfl rfl ?_
  refine z_Ev_blk 1 (c' := ((if (1 : Int32) = 0 then 99 else 83), [some (aR 0 19), some (aI x), some (aI (nI j))], [], (cm n t v ld sh o cd pl ka kb kc, D, E))) rfl trivial ?_
  refine z_Ev_else (by decide) ?_
  refine z_Ev_blk 5 (c' := (89, [some (aR 0 19), some (aI x), some (aI (nI j))], [aI (x - (48 : Int32)), aI (nI j), aR 0 19], (cm n t v ld sh o cd pl ka kb kc, D, E))) rfl trivial ?_
  refine z_Ev_call0 (m' := m_X2_takesDigit) (as := [aR 0 19, aI (nI j), aI (x - (48 : Int32))]) (r := []) (p_digit_2_1 j (x - (48 : Int32)) n t v ld sh o cd pl ka kb kc D E hj e4 hd) rfl rfl ?_
  refine z_Ev_blk 1 (c' := ((if (1 : Int32) = 0 then 99 else 95), [some (aR 0 19), some (aI x), some (aI (nI j))], [], (cm n t v ld sh o cd (upd pl 4 3) ka (upd kb j (x - (48 : Int32))) kc, D, E))) rfl trivial ?_
  refine z_Ev_else (by decide) ?_
  refine z_Ev_blk 2 (c' := (100, [some (aR 0 19), some (aI x), some (aI (nI j))], [aI (1 : Int32)], (cm n t v ld sh o cd (upd pl 4 3) ka (upd kb j (x - (48 : Int32))) kc, D, E))) rfl trivial ?_
  exact z_Ev_zretE rfl rfl (rfl) (by rfl) (by rfl)
theorem p_t2_d0 {xs : Nat → Int32} {L : Nat} (j : Nat) (x : Int32) (n t : Nat → Int32) (v : Nat → Nat → Int32) (ld sh o cd pl ka kb kc : Nat → Int32) (D : Nat → Nat → Int32) (E : Nat → Int64) (hj : j < 60) (e3 : pl 3 = nI (j + 1)) (e4 : pl 4 = 2) (hx : 48 ≤ x ∧ x ≤ 57) (hd : ¬ 0 < x - 48) : z_Mt xs L m_X2_takes [aR 0 19, aI x] (cm n t v ld sh o cd pl ka kb kc, D, E) (.inl (some (aI 0))) (cm n t v ld sh o cd pl ka kb kc, D, E) 0 := by
  refine z_Ev_blk 2 (c' := (4, [some (aR 0 19), some (aI x), none], [aI (pl 4)], (cm n t v ld sh o cd pl ka kb kc, D, E))) rfl trivial ?_
  rw [e4]
  refine z_Ev_blk 1 (c' := ((if (2 : Int32) = 0 then 7 else 13), [some (aR 0 19), some (aI x), none], [], (cm n t v ld sh o cd pl ka kb kc, D, E))) rfl trivial ?_
  refine z_Ev_else (by decide) ?_
  refine z_Ev_blk 3 (c' := ((if x = (59 : Int32) then 19 else 33), [some (aR 0 19), some (aI x), none], [], (cm n t v ld sh o cd pl ka kb kc, D, E))) rfl trivial ?_
  refine z_Ev_else ((fun z => by rw [z] at hx; exact absurd hx (by decide))) ?_
  refine z_Ev_blk 3 (c' := ((if x = (61 : Int32) then 39 else 55), [some (aR 0 19), some (aI x), none], [], (cm n t v ld sh o cd pl ka kb kc, D, E))) rfl trivial ?_
  refine z_Ev_else ((fun z => by rw [z] at hx; exact absurd hx (by decide))) ?_
  refine z_Ev_blk 2 (c' := (59, [some (aR 0 19), some (aI x), none], [aI (pl 3)], (cm n t v ld sh o cd pl ka kb kc, D, E))) rfl trivial ?_
  rw [e3]
  refine z_Ev_blk 2 (c' := (61, [some (aR 0 19), some (aI x), none], [aI ((nI (j + 1)) - (1 : Int32))], (cm n t v ld sh o cd pl ka kb kc, D, E))) rfl trivial ?_
  rw [nI_pred]
  refine z_Ev_blk 3 (c' := ((if (nI j) < 0 then 99 else 66), [some (aR 0 19), some (aI x), some (aI (nI j))], [], (cm n t v ld sh o cd pl ka kb kc, D, E))) rfl trivial ?_
  refine z_Ev_else (nI_pos (by omega)) ?_
  refine z_Ev_blk 3 (c' := ((if (60 : Int32) ≤ (nI j) then 99 else 72), [some (aR 0 19), some (aI x), some (aI (nI j))], [], (cm n t v ld sh o cd pl ka kb kc, D, E))) rfl trivial ?_
  refine z_Ev_else (nI_ge (b := 60) hj (by decide)) ?_
  refine z_Ev_blk 3 (c' := (77, [some (aR 0 19), some (aI x), some (aI (nI j))], [aI x, aI (57 : Int32), aI (48 : Int32)], (cm n t v ld sh o cd pl ka kb kc, D, E))) rfl trivial ?_
  refine z_Ev_call0 (m' := m_X4_isFrom) (as := [aI (48 : Int32), aI (57 : Int32), aI x]) (r := []) ((by have q := e_isFrom (xs := xs) (L := L) (48 : Int32) (57 : Int32) x (cm n t v ld sh o cd pl ka kb kc) D E; rw [f_b_t (hx)] at q; exact q)) rfl rfl ?_
  refine z_Ev_blk 1 (c' := ((if (1 : Int32) = 0 then 99 else 83), [some (aR 0 19), some (aI x), some (aI (nI j))], [], (cm n t v ld sh o cd pl ka kb kc, D, E))) rfl trivial ?_
  refine z_Ev_else (by decide) ?_
  refine z_Ev_blk 5 (c' := (89, [some (aR 0 19), some (aI x), some (aI (nI j))], [aI (x - (48 : Int32)), aI (nI j), aR 0 19], (cm n t v ld sh o cd pl ka kb kc, D, E))) rfl trivial ?_
  refine z_Ev_call0 (m' := m_X2_takesDigit) (as := [aR 0 19, aI (nI j), aI (x - (48 : Int32))]) (r := []) (p_digit_2_0 j (x - (48 : Int32)) n t v ld sh o cd pl ka kb kc D E hj e4 hd) rfl rfl ?_
  refine z_Ev_blk 1 (c' := ((if (0 : Int32) = 0 then 99 else 95), [some (aR 0 19), some (aI x), some (aI (nI j))], [], (cm n t v ld sh o cd pl ka kb kc, D, E))) rfl trivial ?_
  refine z_Ev_if (by decide) ?_
  refine z_Ev_blk 1 (c' := (100, [some (aR 0 19), some (aI x), some (aI (nI j))], [aI (0 : Int32)], (cm n t v ld sh o cd pl ka kb kc, D, E))) rfl trivial ?_
  exact z_Ev_zretE rfl rfl (rfl) (by rfl) (by rfl)
theorem p_t3_semi {xs : Nat → Int32} {L : Nat} (j : Nat) (n t : Nat → Int32) (v : Nat → Nat → Int32) (ld sh o cd pl ka kb kc : Nat → Int32) (D : Nat → Nat → Int32) (E : Nat → Int64) (hj : j < 60) (e3 : pl 3 = nI (j + 1)) (e4 : pl 4 = 3)  : z_Mt xs L m_X2_takes [aR 0 19, aI (59 : Int32)] (cm n t v ld sh o cd pl ka kb kc, D, E) (.inl (some (aI 1))) (cm n t v ld sh o cd (upd pl 4 0) ka kb kc, D, E) 0 := by
  refine z_Ev_blk 2 (c' := (4, [some (aR 0 19), some (aI (59 : Int32)), none], [aI (pl 4)], (cm n t v ld sh o cd pl ka kb kc, D, E))) rfl trivial ?_
  rw [e4]
  refine z_Ev_blk 1 (c' := ((if (3 : Int32) = 0 then 7 else 13), [some (aR 0 19), some (aI (59 : Int32)), none], [], (cm n t v ld sh o cd pl ka kb kc, D, E))) rfl trivial ?_
  refine z_Ev_else (by decide) ?_
  refine z_Ev_blk 3 (c' := ((if (59 : Int32) = (59 : Int32) then 19 else 33), [some (aR 0 19), some (aI (59 : Int32)), none], [], (cm n t v ld sh o cd pl ka kb kc, D, E))) rfl trivial ?_
  refine z_Ev_if (by decide) ?_
  refine z_Ev_blk 1 (c' := (20, [some (aR 0 19), some (aI (59 : Int32)), none], [aR 0 19], (cm n t v ld sh o cd pl ka kb kc, D, E))) rfl trivial ?_
  refine z_Ev_call0 (m' := m_X2_isWhole) (as := [aR 0 19]) (r := []) ((by have q := p_whole (xs := xs) (L := L) n t v ld sh o cd pl ka kb kc D E; rw [e4, f_b_t (by decide)] at q; exact q)) rfl rfl ?_
  refine z_Ev_blk 1 (c' := ((if (1 : Int32) = 0 then 33 else 26), [some (aR 0 19), some (aI (59 : Int32)), none], [], (cm n t v ld sh o cd pl ka kb kc, D, E))) rfl trivial ?_
  refine z_Ev_else (by decide) ?_
  refine z_Ev_blk 3 (c' := (31, [some (aR 0 19), some (aI (59 : Int32)), none], [], (up3 (cm n t v ld sh o cd pl ka kb kc) 0 19 4 (0 : Int32), D, E))) rfl trivial ?_
  rw [cm_19]
  refine z_Ev_blk 1 (c' := (32, [some (aR 0 19), some (aI (59 : Int32)), none], [aI (1 : Int32)], (cm n t v ld sh o cd (upd pl 4 (0 : Int32)) ka kb kc, D, E))) rfl trivial ?_
  exact z_Ev_zretE rfl rfl (rfl) (by rfl) (by rfl)
theorem p_t3_none {xs : Nat → Int32} {L : Nat} (j : Nat) (x : Int32) (n t : Nat → Int32) (v : Nat → Nat → Int32) (ld sh o cd pl ka kb kc : Nat → Int32) (D : Nat → Nat → Int32) (E : Nat → Int64) (hj : j < 60) (e3 : pl 3 = nI (j + 1)) (e4 : pl 4 = 3) (hx : ¬ (48 ≤ x ∧ x ≤ 57)) (h59 : ¬ x = 59) : z_Mt xs L m_X2_takes [aR 0 19, aI x] (cm n t v ld sh o cd pl ka kb kc, D, E) (.inl (some (aI 0))) (cm n t v ld sh o cd pl ka kb kc, D, E) 0 := by
  refine z_Ev_blk 2 (c' := (4, [some (aR 0 19), some (aI x), none], [aI (pl 4)], (cm n t v ld sh o cd pl ka kb kc, D, E))) rfl trivial ?_
  rw [e4]
  refine z_Ev_blk 1 (c' := ((if (3 : Int32) = 0 then 7 else 13), [some (aR 0 19), some (aI x), none], [], (cm n t v ld sh o cd pl ka kb kc, D, E))) rfl trivial ?_
  refine z_Ev_else (by decide) ?_
  refine z_Ev_blk 3 (c' := ((if x = (59 : Int32) then 19 else 33), [some (aR 0 19), some (aI x), none], [], (cm n t v ld sh o cd pl ka kb kc, D, E))) rfl trivial ?_
  refine z_Ev_else (h59) ?_
  refine z_Ev_blk 3 (c' := ((if x = (61 : Int32) then 39 else 55), [some (aR 0 19), some (aI x), none], [], (cm n t v ld sh o cd pl ka kb kc, D, E))) rfl trivial ?_
  refine z_Ev_ite (fun h1 => ?_) (fun h1 => ?_)
  · skip
    refine z_Ev_blk 2 (c' := (43, [some (aR 0 19), some (aI x), none], [aI (pl 4)], (cm n t v ld sh o cd pl ka kb kc, D, E))) rfl trivial ?_
    rw [e4]
    refine z_Ev_blk 2 (c' := ((if (3 : Int32) = (5 : Int32) then 47 else 55), [some (aR 0 19), some (aI x), none], [], (cm n t v ld sh o cd pl ka kb kc, D, E))) rfl trivial ?_
    refine z_Ev_else (by decide) ?_
    refine z_Ev_blk 2 (c' := (59, [some (aR 0 19), some (aI x), none], [aI (pl 3)], (cm n t v ld sh o cd pl ka kb kc, D, E))) rfl trivial ?_
    rw [e3]
    refine z_Ev_blk 2 (c' := (61, [some (aR 0 19), some (aI x), none], [aI ((nI (j + 1)) - (1 : Int32))], (cm n t v ld sh o cd pl ka kb kc, D, E))) rfl trivial ?_
    rw [nI_pred]
    refine z_Ev_blk 3 (c' := ((if (nI j) < 0 then 99 else 66), [some (aR 0 19), some (aI x), some (aI (nI j))], [], (cm n t v ld sh o cd pl ka kb kc, D, E))) rfl trivial ?_
    refine z_Ev_else (nI_pos (by omega)) ?_
    refine z_Ev_blk 3 (c' := ((if (60 : Int32) ≤ (nI j) then 99 else 72), [some (aR 0 19), some (aI x), some (aI (nI j))], [], (cm n t v ld sh o cd pl ka kb kc, D, E))) rfl trivial ?_
    refine z_Ev_else (nI_ge (b := 60) hj (by decide)) ?_
    refine z_Ev_blk 3 (c' := (77, [some (aR 0 19), some (aI x), some (aI (nI j))], [aI x, aI (57 : Int32), aI (48 : Int32)], (cm n t v ld sh o cd pl ka kb kc, D, E))) rfl trivial ?_
    refine z_Ev_call0 (m' := m_X4_isFrom) (as := [aI (48 : Int32), aI (57 : Int32), aI x]) (r := []) ((by have q := e_isFrom (xs := xs) (L := L) (48 : Int32) (57 : Int32) x (cm n t v ld sh o cd pl ka kb kc) D E; rw [f_b_f (hx)] at q; exact q)) rfl rfl ?_
    refine z_Ev_blk 1 (c' := ((if (0 : Int32) = 0 then 99 else 83), [some (aR 0 19), some (aI x), some (aI (nI j))], [], (cm n t v ld sh o cd pl ka kb kc, D, E))) rfl trivial ?_
    refine z_Ev_if (by decide) ?_
    refine z_Ev_blk 1 (c' := (100, [some (aR 0 19), some (aI x), some (aI (nI j))], [aI (0 : Int32)], (cm n t v ld sh o cd pl ka kb kc, D, E))) rfl trivial ?_
    exact z_Ev_zretE rfl rfl (rfl) (by rfl) (by rfl)
  · skip
    refine z_Ev_blk 2 (c' := (59, [some (aR 0 19), some (aI x), none], [aI (pl 3)], (cm n t v ld sh o cd pl ka kb kc, D, E))) rfl trivial ?_
    rw [e3]
    refine z_Ev_blk 2 (c' := (61, [some (aR 0 19), some (aI x), none], [aI ((nI (j + 1)) - (1 : Int32))], (cm n t v ld sh o cd pl ka kb kc, D, E))) rfl trivial ?_
    rw [nI_pred]
    refine z_Ev_blk 3 (c' := ((if (nI j) < 0 then 99 else 66), [some (aR 0 19), some (aI x), some (aI (nI j))], [], (cm n t v ld sh o cd pl ka kb kc, D, E))) rfl trivial ?_
    refine z_Ev_else (nI_pos (by omega)) ?_
    refine z_Ev_blk 3 (c' := ((if (60 : Int32) ≤ (nI j) then 99 else 72), [some (aR 0 19), some (aI x), some (aI (nI j))], [], (cm n t v ld sh o cd pl ka kb kc, D, E))) rfl trivial ?_
    refine z_Ev_else (nI_ge (b := 60) hj (by decide)) ?_
    refine z_Ev_blk 3 (c' := (77, [some (aR 0 19), some (aI x), some (aI (nI j))], [aI x, aI (57 : Int32), aI (48 : Int32)], (cm n t v ld sh o cd pl ka kb kc, D, E))) rfl trivial ?_
    refine z_Ev_call0 (m' := m_X4_isFrom) (as := [aI (48 : Int32), aI (57 : Int32), aI x]) (r := []) ((by have q := e_isFrom (xs := xs) (L := L) (48 : Int32) (57 : Int32) x (cm n t v ld sh o cd pl ka kb kc) D E; rw [f_b_f (hx)] at q; exact q)) rfl rfl ?_
    refine z_Ev_blk 1 (c' := ((if (0 : Int32) = 0 then 99 else 83), [some (aR 0 19), some (aI x), some (aI (nI j))], [], (cm n t v ld sh o cd pl ka kb kc, D, E))) rfl trivial ?_
    refine z_Ev_if (by decide) ?_
    refine z_Ev_blk 1 (c' := (100, [some (aR 0 19), some (aI x), some (aI (nI j))], [aI (0 : Int32)], (cm n t v ld sh o cd pl ka kb kc, D, E))) rfl trivial ?_
    exact z_Ev_zretE rfl rfl (rfl) (by rfl) (by rfl)
theorem p_t3_d1 {xs : Nat → Int32} {L : Nat} (j : Nat) (x : Int32) (n t : Nat → Int32) (v : Nat → Nat → Int32) (ld sh o cd pl ka kb kc : Nat → Int32) (D : Nat → Nat → Int32) (E : Nat → Int64) (hj : j < 60) (e3 : pl 3 = nI (j + 1)) (e4 : pl 4 = 3) (hx : 48 ≤ x ∧ x ≤ 57) (hd : ¬ kb j = 0 ∧ 10 * kb j + (x - 48) ≤ 48) : z_Mt xs L m_X2_takes [aR 0 19, aI x] (cm n t v ld sh o cd pl ka kb kc, D, E) (.inl (some (aI 1))) (cm n t v ld sh o cd pl ka (upd kb j (10 * kb j + (x - 48))) kc, D, E) 0 := by
  refine z_Ev_blk 2 (c' := (4, [some (aR 0 19), some (aI x), none], [aI (pl 4)], (cm n t v ld sh o cd pl ka kb kc, D, E))) rfl trivial ?_
  rw [e4]
  refine z_Ev_blk 1 (c' := ((if (3 : Int32) = 0 then 7 else 13), [some (aR 0 19), some (aI x), none], [], (cm n t v ld sh o cd pl ka kb kc, D, E))) rfl trivial ?_
  refine z_Ev_else (by decide) ?_
  refine z_Ev_blk 3 (c' := ((if x = (59 : Int32) then 19 else 33), [some (aR 0 19), some (aI x), none], [], (cm n t v ld sh o cd pl ka kb kc, D, E))) rfl trivial ?_
  refine z_Ev_else ((fun z => by rw [z] at hx; exact absurd hx (by decide))) ?_
  refine z_Ev_blk 3 (c' := ((if x = (61 : Int32) then 39 else 55), [some (aR 0 19), some (aI x), none], [], (cm n t v ld sh o cd pl ka kb kc, D, E))) rfl trivial ?_
  refine z_Ev_else ((fun z => by rw [z] at hx; exact absurd hx (by decide))) ?_
  refine z_Ev_blk 2 (c' := (59, [some (aR 0 19), some (aI x), none], [aI (pl 3)], (cm n t v ld sh o cd pl ka kb kc, D, E))) rfl trivial ?_
  rw [e3]
  refine z_Ev_blk 2 (c' := (61, [some (aR 0 19), some (aI x), none], [aI ((nI (j + 1)) - (1 : Int32))], (cm n t v ld sh o cd pl ka kb kc, D, E))) rfl trivial ?_
  rw [nI_pred]
  refine z_Ev_blk 3 (c' := ((if (nI j) < 0 then 99 else 66), [some (aR 0 19), some (aI x), some (aI (nI j))], [], (cm n t v ld sh o cd pl ka kb kc, D, E))) rfl trivial ?_
  refine z_Ev_else (nI_pos (by omega)) ?_
  refine z_Ev_blk 3 (c' := ((if (60 : Int32) ≤ (nI j) then 99 else 72), [some (aR 0 19), some (aI x), some (aI (nI j))], [], (cm n t v ld sh o cd pl ka kb kc, D, E))) rfl trivial ?_
  refine z_Ev_else (nI_ge (b := 60) hj (by decide)) ?_
  refine z_Ev_blk 3 (c' := (77, [some (aR 0 19), some (aI x), some (aI (nI j))], [aI x, aI (57 : Int32), aI (48 : Int32)], (cm n t v ld sh o cd pl ka kb kc, D, E))) rfl trivial ?_
  refine z_Ev_call0 (m' := m_X4_isFrom) (as := [aI (48 : Int32), aI (57 : Int32), aI x]) (r := []) ((by have q := e_isFrom (xs := xs) (L := L) (48 : Int32) (57 : Int32) x (cm n t v ld sh o cd pl ka kb kc) D E; rw [f_b_t (hx)] at q; exact q)) rfl rfl ?_
  refine z_Ev_blk 1 (c' := ((if (1 : Int32) = 0 then 99 else 83), [some (aR 0 19), some (aI x), some (aI (nI j))], [], (cm n t v ld sh o cd pl ka kb kc, D, E))) rfl trivial ?_
  refine z_Ev_else (by decide) ?_
  refine z_Ev_blk 5 (c' := (89, [some (aR 0 19), some (aI x), some (aI (nI j))], [aI (x - (48 : Int32)), aI (nI j), aR 0 19], (cm n t v ld sh o cd pl ka kb kc, D, E))) rfl trivial ?_
  refine z_Ev_call0 (m' := m_X2_takesDigit) (as := [aR 0 19, aI (nI j), aI (x - (48 : Int32))]) (r := []) (p_digit_3_1 j (x - (48 : Int32)) n t v ld sh o cd pl ka kb kc D E hj e4 hd) rfl rfl ?_
  refine z_Ev_blk 1 (c' := ((if (1 : Int32) = 0 then 99 else 95), [some (aR 0 19), some (aI x), some (aI (nI j))], [], (cm n t v ld sh o cd pl ka (upd kb j (10 * kb j + (x - (48 : Int32)))) kc, D, E))) rfl trivial ?_
  refine z_Ev_else (by decide) ?_
  refine z_Ev_blk 2 (c' := (100, [some (aR 0 19), some (aI x), some (aI (nI j))], [aI (1 : Int32)], (cm n t v ld sh o cd pl ka (upd kb j (10 * kb j + (x - (48 : Int32)))) kc, D, E))) rfl trivial ?_
  exact z_Ev_zretE rfl rfl (rfl) (by rfl) (by rfl)
theorem p_t3_d0 {xs : Nat → Int32} {L : Nat} (j : Nat) (x : Int32) (n t : Nat → Int32) (v : Nat → Nat → Int32) (ld sh o cd pl ka kb kc : Nat → Int32) (D : Nat → Nat → Int32) (E : Nat → Int64) (hj : j < 60) (e3 : pl 3 = nI (j + 1)) (e4 : pl 4 = 3) (hx : 48 ≤ x ∧ x ≤ 57) (hd : kb j = 0 ∨ ¬ 10 * kb j + (x - 48) ≤ 48) : z_Mt xs L m_X2_takes [aR 0 19, aI x] (cm n t v ld sh o cd pl ka kb kc, D, E) (.inl (some (aI 0))) (cm n t v ld sh o cd pl ka kb kc, D, E) 0 := by
  refine z_Ev_blk 2 (c' := (4, [some (aR 0 19), some (aI x), none], [aI (pl 4)], (cm n t v ld sh o cd pl ka kb kc, D, E))) rfl trivial ?_
  rw [e4]
  refine z_Ev_blk 1 (c' := ((if (3 : Int32) = 0 then 7 else 13), [some (aR 0 19), some (aI x), none], [], (cm n t v ld sh o cd pl ka kb kc, D, E))) rfl trivial ?_
  refine z_Ev_else (by decide) ?_
  refine z_Ev_blk 3 (c' := ((if x = (59 : Int32) then 19 else 33), [some (aR 0 19), some (aI x), none], [], (cm n t v ld sh o cd pl ka kb kc, D, E))) rfl trivial ?_
  refine z_Ev_else ((fun z => by rw [z] at hx; exact absurd hx (by decide))) ?_
  refine z_Ev_blk 3 (c' := ((if x = (61 : Int32) then 39 else 55), [some (aR 0 19), some (aI x), none], [], (cm n t v ld sh o cd pl ka kb kc, D, E))) rfl trivial ?_
  refine z_Ev_else ((fun z => by rw [z] at hx; exact absurd hx (by decide))) ?_
  refine z_Ev_blk 2 (c' := (59, [some (aR 0 19), some (aI x), none], [aI (pl 3)], (cm n t v ld sh o cd pl ka kb kc, D, E))) rfl trivial ?_
  rw [e3]
  refine z_Ev_blk 2 (c' := (61, [some (aR 0 19), some (aI x), none], [aI ((nI (j + 1)) - (1 : Int32))], (cm n t v ld sh o cd pl ka kb kc, D, E))) rfl trivial ?_
  rw [nI_pred]
  refine z_Ev_blk 3 (c' := ((if (nI j) < 0 then 99 else 66), [some (aR 0 19), some (aI x), some (aI (nI j))], [], (cm n t v ld sh o cd pl ka kb kc, D, E))) rfl trivial ?_
  refine z_Ev_else (nI_pos (by omega)) ?_
  refine z_Ev_blk 3 (c' := ((if (60 : Int32) ≤ (nI j) then 99 else 72), [some (aR 0 19), some (aI x), some (aI (nI j))], [], (cm n t v ld sh o cd pl ka kb kc, D, E))) rfl trivial ?_
  refine z_Ev_else (nI_ge (b := 60) hj (by decide)) ?_
  refine z_Ev_blk 3 (c' := (77, [some (aR 0 19), some (aI x), some (aI (nI j))], [aI x, aI (57 : Int32), aI (48 : Int32)], (cm n t v ld sh o cd pl ka kb kc, D, E))) rfl trivial ?_
  refine z_Ev_call0 (m' := m_X4_isFrom) (as := [aI (48 : Int32), aI (57 : Int32), aI x]) (r := []) ((by have q := e_isFrom (xs := xs) (L := L) (48 : Int32) (57 : Int32) x (cm n t v ld sh o cd pl ka kb kc) D E; rw [f_b_t (hx)] at q; exact q)) rfl rfl ?_
  refine z_Ev_blk 1 (c' := ((if (1 : Int32) = 0 then 99 else 83), [some (aR 0 19), some (aI x), some (aI (nI j))], [], (cm n t v ld sh o cd pl ka kb kc, D, E))) rfl trivial ?_
  refine z_Ev_else (by decide) ?_
  refine z_Ev_blk 5 (c' := (89, [some (aR 0 19), some (aI x), some (aI (nI j))], [aI (x - (48 : Int32)), aI (nI j), aR 0 19], (cm n t v ld sh o cd pl ka kb kc, D, E))) rfl trivial ?_
  refine z_Ev_call0 (m' := m_X2_takesDigit) (as := [aR 0 19, aI (nI j), aI (x - (48 : Int32))]) (r := []) (p_digit_3_0 j (x - (48 : Int32)) n t v ld sh o cd pl ka kb kc D E hj e4 hd) rfl rfl ?_
  refine z_Ev_blk 1 (c' := ((if (0 : Int32) = 0 then 99 else 95), [some (aR 0 19), some (aI x), some (aI (nI j))], [], (cm n t v ld sh o cd pl ka kb kc, D, E))) rfl trivial ?_
  refine z_Ev_if (by decide) ?_
  refine z_Ev_blk 1 (c' := (100, [some (aR 0 19), some (aI x), some (aI (nI j))], [aI (0 : Int32)], (cm n t v ld sh o cd pl ka kb kc, D, E))) rfl trivial ?_
  exact z_Ev_zretE rfl rfl (rfl) (by rfl) (by rfl)
theorem p_t4_none {xs : Nat → Int32} {L : Nat} (j : Nat) (x : Int32) (n t : Nat → Int32) (v : Nat → Nat → Int32) (ld sh o cd pl ka kb kc : Nat → Int32) (D : Nat → Nat → Int32) (E : Nat → Int64) (hj : j < 60) (e3 : pl 3 = nI (j + 1)) (e4 : pl 4 = 4) (hx : ¬ (48 ≤ x ∧ x ≤ 57)) : z_Mt xs L m_X2_takes [aR 0 19, aI x] (cm n t v ld sh o cd pl ka kb kc, D, E) (.inl (some (aI 0))) (cm n t v ld sh o cd pl ka kb kc, D, E) 0 := by
  refine z_Ev_blk 2 (c' := (4, [some (aR 0 19), some (aI x), none], [aI (pl 4)], (cm n t v ld sh o cd pl ka kb kc, D, E))) rfl trivial ?_
  rw [e4]
  refine z_Ev_blk 1 (c' := ((if (4 : Int32) = 0 then 7 else 13), [some (aR 0 19), some (aI x), none], [], (cm n t v ld sh o cd pl ka kb kc, D, E))) rfl trivial ?_
  refine z_Ev_else (by decide) ?_
  refine z_Ev_blk 3 (c' := ((if x = (59 : Int32) then 19 else 33), [some (aR 0 19), some (aI x), none], [], (cm n t v ld sh o cd pl ka kb kc, D, E))) rfl trivial ?_
  refine z_Ev_ite (fun h1 => ?_) (fun h1 => ?_)
  · skip
    refine z_Ev_blk 1 (c' := (20, [some (aR 0 19), some (aI x), none], [aR 0 19], (cm n t v ld sh o cd pl ka kb kc, D, E))) rfl trivial ?_
    refine z_Ev_call0 (m' := m_X2_isWhole) (as := [aR 0 19]) (r := []) ((by have q := p_whole (xs := xs) (L := L) n t v ld sh o cd pl ka kb kc D E; rw [e4, f_b_f (by decide)] at q; exact q)) rfl rfl ?_
    refine z_Ev_blk 1 (c' := ((if (0 : Int32) = 0 then 33 else 26), [some (aR 0 19), some (aI x), none], [], (cm n t v ld sh o cd pl ka kb kc, D, E))) rfl trivial ?_
    refine z_Ev_if (by decide) ?_
    refine z_Ev_blk 3 (c' := ((if x = (61 : Int32) then 39 else 55), [some (aR 0 19), some (aI x), none], [], (cm n t v ld sh o cd pl ka kb kc, D, E))) rfl trivial ?_
    refine z_Ev_ite (fun h2 => ?_) (fun h2 => ?_)
    · skip
      refine z_Ev_blk 2 (c' := (43, [some (aR 0 19), some (aI x), none], [aI (pl 4)], (cm n t v ld sh o cd pl ka kb kc, D, E))) rfl trivial ?_
      rw [e4]
      refine z_Ev_blk 2 (c' := ((if (4 : Int32) = (5 : Int32) then 47 else 55), [some (aR 0 19), some (aI x), none], [], (cm n t v ld sh o cd pl ka kb kc, D, E))) rfl trivial ?_
      refine z_Ev_else (by decide) ?_
      refine z_Ev_blk 2 (c' := (59, [some (aR 0 19), some (aI x), none], [aI (pl 3)], (cm n t v ld sh o cd pl ka kb kc, D, E))) rfl trivial ?_
      rw [e3]
      refine z_Ev_blk 2 (c' := (61, [some (aR 0 19), some (aI x), none], [aI ((nI (j + 1)) - (1 : Int32))], (cm n t v ld sh o cd pl ka kb kc, D, E))) rfl trivial ?_
      rw [nI_pred]
      refine z_Ev_blk 3 (c' := ((if (nI j) < 0 then 99 else 66), [some (aR 0 19), some (aI x), some (aI (nI j))], [], (cm n t v ld sh o cd pl ka kb kc, D, E))) rfl trivial ?_
      refine z_Ev_else (nI_pos (by omega)) ?_
      refine z_Ev_blk 3 (c' := ((if (60 : Int32) ≤ (nI j) then 99 else 72), [some (aR 0 19), some (aI x), some (aI (nI j))], [], (cm n t v ld sh o cd pl ka kb kc, D, E))) rfl trivial ?_
      refine z_Ev_else (nI_ge (b := 60) hj (by decide)) ?_
      refine z_Ev_blk 3 (c' := (77, [some (aR 0 19), some (aI x), some (aI (nI j))], [aI x, aI (57 : Int32), aI (48 : Int32)], (cm n t v ld sh o cd pl ka kb kc, D, E))) rfl trivial ?_
      refine z_Ev_call0 (m' := m_X4_isFrom) (as := [aI (48 : Int32), aI (57 : Int32), aI x]) (r := []) ((by have q := e_isFrom (xs := xs) (L := L) (48 : Int32) (57 : Int32) x (cm n t v ld sh o cd pl ka kb kc) D E; rw [f_b_f (hx)] at q; exact q)) rfl rfl ?_
      refine z_Ev_blk 1 (c' := ((if (0 : Int32) = 0 then 99 else 83), [some (aR 0 19), some (aI x), some (aI (nI j))], [], (cm n t v ld sh o cd pl ka kb kc, D, E))) rfl trivial ?_
      refine z_Ev_if (by decide) ?_
      refine z_Ev_blk 1 (c' := (100, [some (aR 0 19), some (aI x), some (aI (nI j))], [aI (0 : Int32)], (cm n t v ld sh o cd pl ka kb kc, D, E))) rfl trivial ?_
      exact z_Ev_zretE rfl rfl (rfl) (by rfl) (by rfl)
    · skip
      refine z_Ev_blk 2 (c' := (59, [some (aR 0 19), some (aI x), none], [aI (pl 3)], (cm n t v ld sh o cd pl ka kb kc, D, E))) rfl trivial ?_
      rw [e3]
      refine z_Ev_blk 2 (c' := (61, [some (aR 0 19), some (aI x), none], [aI ((nI (j + 1)) - (1 : Int32))], (cm n t v ld sh o cd pl ka kb kc, D, E))) rfl trivial ?_
      rw [nI_pred]
      refine z_Ev_blk 3 (c' := ((if (nI j) < 0 then 99 else 66), [some (aR 0 19), some (aI x), some (aI (nI j))], [], (cm n t v ld sh o cd pl ka kb kc, D, E))) rfl trivial ?_
      refine z_Ev_else (nI_pos (by omega)) ?_
      refine z_Ev_blk 3 (c' := ((if (60 : Int32) ≤ (nI j) then 99 else 72), [some (aR 0 19), some (aI x), some (aI (nI j))], [], (cm n t v ld sh o cd pl ka kb kc, D, E))) rfl trivial ?_
      refine z_Ev_else (nI_ge (b := 60) hj (by decide)) ?_
      refine z_Ev_blk 3 (c' := (77, [some (aR 0 19), some (aI x), some (aI (nI j))], [aI x, aI (57 : Int32), aI (48 : Int32)], (cm n t v ld sh o cd pl ka kb kc, D, E))) rfl trivial ?_
      refine z_Ev_call0 (m' := m_X4_isFrom) (as := [aI (48 : Int32), aI (57 : Int32), aI x]) (r := []) ((by have q := e_isFrom (xs := xs) (L := L) (48 : Int32) (57 : Int32) x (cm n t v ld sh o cd pl ka kb kc) D E; rw [f_b_f (hx)] at q; exact q)) rfl rfl ?_
      refine z_Ev_blk 1 (c' := ((if (0 : Int32) = 0 then 99 else 83), [some (aR 0 19), some (aI x), some (aI (nI j))], [], (cm n t v ld sh o cd pl ka kb kc, D, E))) rfl trivial ?_
      refine z_Ev_if (by decide) ?_
      refine z_Ev_blk 1 (c' := (100, [some (aR 0 19), some (aI x), some (aI (nI j))], [aI (0 : Int32)], (cm n t v ld sh o cd pl ka kb kc, D, E))) rfl trivial ?_
      exact z_Ev_zretE rfl rfl (rfl) (by rfl) (by rfl)
  · skip
    refine z_Ev_blk 3 (c' := ((if x = (61 : Int32) then 39 else 55), [some (aR 0 19), some (aI x), none], [], (cm n t v ld sh o cd pl ka kb kc, D, E))) rfl trivial ?_
    refine z_Ev_ite (fun h3 => ?_) (fun h3 => ?_)
    · skip
      refine z_Ev_blk 2 (c' := (43, [some (aR 0 19), some (aI x), none], [aI (pl 4)], (cm n t v ld sh o cd pl ka kb kc, D, E))) rfl trivial ?_
      rw [e4]
      refine z_Ev_blk 2 (c' := ((if (4 : Int32) = (5 : Int32) then 47 else 55), [some (aR 0 19), some (aI x), none], [], (cm n t v ld sh o cd pl ka kb kc, D, E))) rfl trivial ?_
      refine z_Ev_else (by decide) ?_
      refine z_Ev_blk 2 (c' := (59, [some (aR 0 19), some (aI x), none], [aI (pl 3)], (cm n t v ld sh o cd pl ka kb kc, D, E))) rfl trivial ?_
      rw [e3]
      refine z_Ev_blk 2 (c' := (61, [some (aR 0 19), some (aI x), none], [aI ((nI (j + 1)) - (1 : Int32))], (cm n t v ld sh o cd pl ka kb kc, D, E))) rfl trivial ?_
      rw [nI_pred]
      refine z_Ev_blk 3 (c' := ((if (nI j) < 0 then 99 else 66), [some (aR 0 19), some (aI x), some (aI (nI j))], [], (cm n t v ld sh o cd pl ka kb kc, D, E))) rfl trivial ?_
      refine z_Ev_else (nI_pos (by omega)) ?_
      refine z_Ev_blk 3 (c' := ((if (60 : Int32) ≤ (nI j) then 99 else 72), [some (aR 0 19), some (aI x), some (aI (nI j))], [], (cm n t v ld sh o cd pl ka kb kc, D, E))) rfl trivial ?_
      refine z_Ev_else (nI_ge (b := 60) hj (by decide)) ?_
      refine z_Ev_blk 3 (c' := (77, [some (aR 0 19), some (aI x), some (aI (nI j))], [aI x, aI (57 : Int32), aI (48 : Int32)], (cm n t v ld sh o cd pl ka kb kc, D, E))) rfl trivial ?_
      refine z_Ev_call0 (m' := m_X4_isFrom) (as := [aI (48 : Int32), aI (57 : Int32), aI x]) (r := []) ((by have q := e_isFrom (xs := xs) (L := L) (48 : Int32) (57 : Int32) x (cm n t v ld sh o cd pl ka kb kc) D E; rw [f_b_f (hx)] at q; exact q)) rfl rfl ?_
      refine z_Ev_blk 1 (c' := ((if (0 : Int32) = 0 then 99 else 83), [some (aR 0 19), some (aI x), some (aI (nI j))], [], (cm n t v ld sh o cd pl ka kb kc, D, E))) rfl trivial ?_
      refine z_Ev_if (by decide) ?_
      refine z_Ev_blk 1 (c' := (100, [some (aR 0 19), some (aI x), some (aI (nI j))], [aI (0 : Int32)], (cm n t v ld sh o cd pl ka kb kc, D, E))) rfl trivial ?_
      exact z_Ev_zretE rfl rfl (rfl) (by rfl) (by rfl)
    · skip
      refine z_Ev_blk 2 (c' := (59, [some (aR 0 19), some (aI x), none], [aI (pl 3)], (cm n t v ld sh o cd pl ka kb kc, D, E))) rfl trivial ?_
      rw [e3]
      refine z_Ev_blk 2 (c' := (61, [some (aR 0 19), some (aI x), none], [aI ((nI (j + 1)) - (1 : Int32))], (cm n t v ld sh o cd pl ka kb kc, D, E))) rfl trivial ?_
      rw [nI_pred]
      refine z_Ev_blk 3 (c' := ((if (nI j) < 0 then 99 else 66), [some (aR 0 19), some (aI x), some (aI (nI j))], [], (cm n t v ld sh o cd pl ka kb kc, D, E))) rfl trivial ?_
      refine z_Ev_else (nI_pos (by omega)) ?_
      refine z_Ev_blk 3 (c' := ((if (60 : Int32) ≤ (nI j) then 99 else 72), [some (aR 0 19), some (aI x), some (aI (nI j))], [], (cm n t v ld sh o cd pl ka kb kc, D, E))) rfl trivial ?_
      refine z_Ev_else (nI_ge (b := 60) hj (by decide)) ?_
      refine z_Ev_blk 3 (c' := (77, [some (aR 0 19), some (aI x), some (aI (nI j))], [aI x, aI (57 : Int32), aI (48 : Int32)], (cm n t v ld sh o cd pl ka kb kc, D, E))) rfl trivial ?_
      refine z_Ev_call0 (m' := m_X4_isFrom) (as := [aI (48 : Int32), aI (57 : Int32), aI x]) (r := []) ((by have q := e_isFrom (xs := xs) (L := L) (48 : Int32) (57 : Int32) x (cm n t v ld sh o cd pl ka kb kc) D E; rw [f_b_f (hx)] at q; exact q)) rfl rfl ?_
      refine z_Ev_blk 1 (c' := ((if (0 : Int32) = 0 then 99 else 83), [some (aR 0 19), some (aI x), some (aI (nI j))], [], (cm n t v ld sh o cd pl ka kb kc, D, E))) rfl trivial ?_
      refine z_Ev_if (by decide) ?_
      refine z_Ev_blk 1 (c' := (100, [some (aR 0 19), some (aI x), some (aI (nI j))], [aI (0 : Int32)], (cm n t v ld sh o cd pl ka kb kc, D, E))) rfl trivial ?_
      exact z_Ev_zretE rfl rfl (rfl) (by rfl) (by rfl)
theorem p_t4_d1 {xs : Nat → Int32} {L : Nat} (j : Nat) (x : Int32) (n t : Nat → Int32) (v : Nat → Nat → Int32) (ld sh o cd pl ka kb kc : Nat → Int32) (D : Nat → Nat → Int32) (E : Nat → Int64) (hj : j < 60) (e3 : pl 3 = nI (j + 1)) (e4 : pl 4 = 4) (hx : 48 ≤ x ∧ x ≤ 57)  : z_Mt xs L m_X2_takes [aR 0 19, aI x] (cm n t v ld sh o cd pl ka kb kc, D, E) (.inl (some (aI 1))) (cm n t v ld sh o cd (upd pl 4 5) ka (upd kb j (x - 48)) kc, D, E) 0 := by
  refine z_Ev_blk 2 (c' := (4, [some (aR 0 19), some (aI x), none], [aI (pl 4)], (cm n t v ld sh o cd pl ka kb kc, D, E))) rfl trivial ?_
  rw [e4]
  refine z_Ev_blk 1 (c' := ((if (4 : Int32) = 0 then 7 else 13), [some (aR 0 19), some (aI x), none], [], (cm n t v ld sh o cd pl ka kb kc, D, E))) rfl trivial ?_
  refine z_Ev_else (by decide) ?_
  refine z_Ev_blk 3 (c' := ((if x = (59 : Int32) then 19 else 33), [some (aR 0 19), some (aI x), none], [], (cm n t v ld sh o cd pl ka kb kc, D, E))) rfl trivial ?_
  refine z_Ev_else ((fun z => by rw [z] at hx; exact absurd hx (by decide))) ?_
  refine z_Ev_blk 3 (c' := ((if x = (61 : Int32) then 39 else 55), [some (aR 0 19), some (aI x), none], [], (cm n t v ld sh o cd pl ka kb kc, D, E))) rfl trivial ?_
  refine z_Ev_else ((fun z => by rw [z] at hx; exact absurd hx (by decide))) ?_
  refine z_Ev_blk 2 (c' := (59, [some (aR 0 19), some (aI x), none], [aI (pl 3)], (cm n t v ld sh o cd pl ka kb kc, D, E))) rfl trivial ?_
  rw [e3]
  refine z_Ev_blk 2 (c' := (61, [some (aR 0 19), some (aI x), none], [aI ((nI (j + 1)) - (1 : Int32))], (cm n t v ld sh o cd pl ka kb kc, D, E))) rfl trivial ?_
  rw [nI_pred]
  refine z_Ev_blk 3 (c' := ((if (nI j) < 0 then 99 else 66), [some (aR 0 19), some (aI x), some (aI (nI j))], [], (cm n t v ld sh o cd pl ka kb kc, D, E))) rfl trivial ?_
  refine z_Ev_else (nI_pos (by omega)) ?_
  refine z_Ev_blk 3 (c' := ((if (60 : Int32) ≤ (nI j) then 99 else 72), [some (aR 0 19), some (aI x), some (aI (nI j))], [], (cm n t v ld sh o cd pl ka kb kc, D, E))) rfl trivial ?_
  refine z_Ev_else (nI_ge (b := 60) hj (by decide)) ?_
  refine z_Ev_blk 3 (c' := (77, [some (aR 0 19), some (aI x), some (aI (nI j))], [aI x, aI (57 : Int32), aI (48 : Int32)], (cm n t v ld sh o cd pl ka kb kc, D, E))) rfl trivial ?_
  refine z_Ev_call0 (m' := m_X4_isFrom) (as := [aI (48 : Int32), aI (57 : Int32), aI x]) (r := []) ((by have q := e_isFrom (xs := xs) (L := L) (48 : Int32) (57 : Int32) x (cm n t v ld sh o cd pl ka kb kc) D E; rw [f_b_t (hx)] at q; exact q)) rfl rfl ?_
  refine z_Ev_blk 1 (c' := ((if (1 : Int32) = 0 then 99 else 83), [some (aR 0 19), some (aI x), some (aI (nI j))], [], (cm n t v ld sh o cd pl ka kb kc, D, E))) rfl trivial ?_
  refine z_Ev_else (by decide) ?_
  refine z_Ev_blk 5 (c' := (89, [some (aR 0 19), some (aI x), some (aI (nI j))], [aI (x - (48 : Int32)), aI (nI j), aR 0 19], (cm n t v ld sh o cd pl ka kb kc, D, E))) rfl trivial ?_
  refine z_Ev_call0 (m' := m_X2_takesDigit) (as := [aR 0 19, aI (nI j), aI (x - (48 : Int32))]) (r := []) (p_digit_4_1 j (x - (48 : Int32)) n t v ld sh o cd pl ka kb kc D E hj e4) rfl rfl ?_
  refine z_Ev_blk 1 (c' := ((if (1 : Int32) = 0 then 99 else 95), [some (aR 0 19), some (aI x), some (aI (nI j))], [], (cm n t v ld sh o cd (upd pl 4 5) ka (upd kb j (x - (48 : Int32))) kc, D, E))) rfl trivial ?_
  refine z_Ev_else (by decide) ?_
  refine z_Ev_blk 2 (c' := (100, [some (aR 0 19), some (aI x), some (aI (nI j))], [aI (1 : Int32)], (cm n t v ld sh o cd (upd pl 4 5) ka (upd kb j (x - (48 : Int32))) kc, D, E))) rfl trivial ?_
  exact z_Ev_zretE rfl rfl (rfl) (by rfl) (by rfl)
theorem p_t5_eq {xs : Nat → Int32} {L : Nat} (j : Nat) (n t : Nat → Int32) (v : Nat → Nat → Int32) (ld sh o cd pl ka kb kc : Nat → Int32) (D : Nat → Nat → Int32) (E : Nat → Int64) (hj : j < 60) (e3 : pl 3 = nI (j + 1)) (e4 : pl 4 = 5)  : z_Mt xs L m_X2_takes [aR 0 19, aI (61 : Int32)] (cm n t v ld sh o cd pl ka kb kc, D, E) (.inl (some (aI 1))) (cm n t v ld sh o cd (upd pl 4 6) ka kb kc, D, E) 0 := by
  refine z_Ev_blk 2 (c' := (4, [some (aR 0 19), some (aI (61 : Int32)), none], [aI (pl 4)], (cm n t v ld sh o cd pl ka kb kc, D, E))) rfl trivial ?_
  rw [e4]
  refine z_Ev_blk 1 (c' := ((if (5 : Int32) = 0 then 7 else 13), [some (aR 0 19), some (aI (61 : Int32)), none], [], (cm n t v ld sh o cd pl ka kb kc, D, E))) rfl trivial ?_
  refine z_Ev_else (by decide) ?_
  refine z_Ev_blk 3 (c' := ((if (61 : Int32) = (59 : Int32) then 19 else 33), [some (aR 0 19), some (aI (61 : Int32)), none], [], (cm n t v ld sh o cd pl ka kb kc, D, E))) rfl trivial ?_
  refine z_Ev_else (by decide) ?_
  refine z_Ev_blk 3 (c' := ((if (61 : Int32) = (61 : Int32) then 39 else 55), [some (aR 0 19), some (aI (61 : Int32)), none], [], (cm n t v ld sh o cd pl ka kb kc, D, E))) rfl trivial ?_
  refine z_Ev_if (by decide) ?_
  refine z_Ev_blk 2 (c' := (43, [some (aR 0 19), some (aI (61 : Int32)), none], [aI (pl 4)], (cm n t v ld sh o cd pl ka kb kc, D, E))) rfl trivial ?_
  rw [e4]
  refine z_Ev_blk 2 (c' := ((if (5 : Int32) = (5 : Int32) then 47 else 55), [some (aR 0 19), some (aI (61 : Int32)), none], [], (cm n t v ld sh o cd pl ka kb kc, D, E))) rfl trivial ?_
  refine z_Ev_if (by decide) ?_
  refine z_Ev_blk 3 (c' := (53, [some (aR 0 19), some (aI (61 : Int32)), none], [], (up3 (cm n t v ld sh o cd pl ka kb kc) 0 19 4 (6 : Int32), D, E))) rfl trivial ?_
  rw [cm_19]
  refine z_Ev_blk 1 (c' := (54, [some (aR 0 19), some (aI (61 : Int32)), none], [aI (1 : Int32)], (cm n t v ld sh o cd (upd pl 4 (6 : Int32)) ka kb kc, D, E))) rfl trivial ?_
  exact z_Ev_zretE rfl rfl (rfl) (by rfl) (by rfl)
theorem p_t5_none {xs : Nat → Int32} {L : Nat} (j : Nat) (x : Int32) (n t : Nat → Int32) (v : Nat → Nat → Int32) (ld sh o cd pl ka kb kc : Nat → Int32) (D : Nat → Nat → Int32) (E : Nat → Int64) (hj : j < 60) (e3 : pl 3 = nI (j + 1)) (e4 : pl 4 = 5) (hx : ¬ (48 ≤ x ∧ x ≤ 57)) (h61 : ¬ x = 61) : z_Mt xs L m_X2_takes [aR 0 19, aI x] (cm n t v ld sh o cd pl ka kb kc, D, E) (.inl (some (aI 0))) (cm n t v ld sh o cd pl ka kb kc, D, E) 0 := by
  refine z_Ev_blk 2 (c' := (4, [some (aR 0 19), some (aI x), none], [aI (pl 4)], (cm n t v ld sh o cd pl ka kb kc, D, E))) rfl trivial ?_
  rw [e4]
  refine z_Ev_blk 1 (c' := ((if (5 : Int32) = 0 then 7 else 13), [some (aR 0 19), some (aI x), none], [], (cm n t v ld sh o cd pl ka kb kc, D, E))) rfl trivial ?_
  refine z_Ev_else (by decide) ?_
  refine z_Ev_blk 3 (c' := ((if x = (59 : Int32) then 19 else 33), [some (aR 0 19), some (aI x), none], [], (cm n t v ld sh o cd pl ka kb kc, D, E))) rfl trivial ?_
  refine z_Ev_ite (fun h1 => ?_) (fun h1 => ?_)
  · skip
    refine z_Ev_blk 1 (c' := (20, [some (aR 0 19), some (aI x), none], [aR 0 19], (cm n t v ld sh o cd pl ka kb kc, D, E))) rfl trivial ?_
    refine z_Ev_call0 (m' := m_X2_isWhole) (as := [aR 0 19]) (r := []) ((by have q := p_whole (xs := xs) (L := L) n t v ld sh o cd pl ka kb kc D E; rw [e4, f_b_f (by decide)] at q; exact q)) rfl rfl ?_
    refine z_Ev_blk 1 (c' := ((if (0 : Int32) = 0 then 33 else 26), [some (aR 0 19), some (aI x), none], [], (cm n t v ld sh o cd pl ka kb kc, D, E))) rfl trivial ?_
    refine z_Ev_if (by decide) ?_
    refine z_Ev_blk 3 (c' := ((if x = (61 : Int32) then 39 else 55), [some (aR 0 19), some (aI x), none], [], (cm n t v ld sh o cd pl ka kb kc, D, E))) rfl trivial ?_
    refine z_Ev_else (h61) ?_
    refine z_Ev_blk 2 (c' := (59, [some (aR 0 19), some (aI x), none], [aI (pl 3)], (cm n t v ld sh o cd pl ka kb kc, D, E))) rfl trivial ?_
    rw [e3]
    refine z_Ev_blk 2 (c' := (61, [some (aR 0 19), some (aI x), none], [aI ((nI (j + 1)) - (1 : Int32))], (cm n t v ld sh o cd pl ka kb kc, D, E))) rfl trivial ?_
    rw [nI_pred]
    refine z_Ev_blk 3 (c' := ((if (nI j) < 0 then 99 else 66), [some (aR 0 19), some (aI x), some (aI (nI j))], [], (cm n t v ld sh o cd pl ka kb kc, D, E))) rfl trivial ?_
    refine z_Ev_else (nI_pos (by omega)) ?_
    refine z_Ev_blk 3 (c' := ((if (60 : Int32) ≤ (nI j) then 99 else 72), [some (aR 0 19), some (aI x), some (aI (nI j))], [], (cm n t v ld sh o cd pl ka kb kc, D, E))) rfl trivial ?_
    refine z_Ev_else (nI_ge (b := 60) hj (by decide)) ?_
    refine z_Ev_blk 3 (c' := (77, [some (aR 0 19), some (aI x), some (aI (nI j))], [aI x, aI (57 : Int32), aI (48 : Int32)], (cm n t v ld sh o cd pl ka kb kc, D, E))) rfl trivial ?_
    refine z_Ev_call0 (m' := m_X4_isFrom) (as := [aI (48 : Int32), aI (57 : Int32), aI x]) (r := []) ((by have q := e_isFrom (xs := xs) (L := L) (48 : Int32) (57 : Int32) x (cm n t v ld sh o cd pl ka kb kc) D E; rw [f_b_f (hx)] at q; exact q)) rfl rfl ?_
    refine z_Ev_blk 1 (c' := ((if (0 : Int32) = 0 then 99 else 83), [some (aR 0 19), some (aI x), some (aI (nI j))], [], (cm n t v ld sh o cd pl ka kb kc, D, E))) rfl trivial ?_
    refine z_Ev_if (by decide) ?_
    refine z_Ev_blk 1 (c' := (100, [some (aR 0 19), some (aI x), some (aI (nI j))], [aI (0 : Int32)], (cm n t v ld sh o cd pl ka kb kc, D, E))) rfl trivial ?_
    exact z_Ev_zretE rfl rfl (rfl) (by rfl) (by rfl)
  · skip
    refine z_Ev_blk 3 (c' := ((if x = (61 : Int32) then 39 else 55), [some (aR 0 19), some (aI x), none], [], (cm n t v ld sh o cd pl ka kb kc, D, E))) rfl trivial ?_
    refine z_Ev_else (h61) ?_
    refine z_Ev_blk 2 (c' := (59, [some (aR 0 19), some (aI x), none], [aI (pl 3)], (cm n t v ld sh o cd pl ka kb kc, D, E))) rfl trivial ?_
    rw [e3]
    refine z_Ev_blk 2 (c' := (61, [some (aR 0 19), some (aI x), none], [aI ((nI (j + 1)) - (1 : Int32))], (cm n t v ld sh o cd pl ka kb kc, D, E))) rfl trivial ?_
    rw [nI_pred]
    refine z_Ev_blk 3 (c' := ((if (nI j) < 0 then 99 else 66), [some (aR 0 19), some (aI x), some (aI (nI j))], [], (cm n t v ld sh o cd pl ka kb kc, D, E))) rfl trivial ?_
    refine z_Ev_else (nI_pos (by omega)) ?_
    refine z_Ev_blk 3 (c' := ((if (60 : Int32) ≤ (nI j) then 99 else 72), [some (aR 0 19), some (aI x), some (aI (nI j))], [], (cm n t v ld sh o cd pl ka kb kc, D, E))) rfl trivial ?_
    refine z_Ev_else (nI_ge (b := 60) hj (by decide)) ?_
    refine z_Ev_blk 3 (c' := (77, [some (aR 0 19), some (aI x), some (aI (nI j))], [aI x, aI (57 : Int32), aI (48 : Int32)], (cm n t v ld sh o cd pl ka kb kc, D, E))) rfl trivial ?_
    refine z_Ev_call0 (m' := m_X4_isFrom) (as := [aI (48 : Int32), aI (57 : Int32), aI x]) (r := []) ((by have q := e_isFrom (xs := xs) (L := L) (48 : Int32) (57 : Int32) x (cm n t v ld sh o cd pl ka kb kc) D E; rw [f_b_f (hx)] at q; exact q)) rfl rfl ?_
    refine z_Ev_blk 1 (c' := ((if (0 : Int32) = 0 then 99 else 83), [some (aR 0 19), some (aI x), some (aI (nI j))], [], (cm n t v ld sh o cd pl ka kb kc, D, E))) rfl trivial ?_
    refine z_Ev_if (by decide) ?_
    refine z_Ev_blk 1 (c' := (100, [some (aR 0 19), some (aI x), some (aI (nI j))], [aI (0 : Int32)], (cm n t v ld sh o cd pl ka kb kc, D, E))) rfl trivial ?_
    exact z_Ev_zretE rfl rfl (rfl) (by rfl) (by rfl)
theorem p_t5_d1 {xs : Nat → Int32} {L : Nat} (j : Nat) (x : Int32) (n t : Nat → Int32) (v : Nat → Nat → Int32) (ld sh o cd pl ka kb kc : Nat → Int32) (D : Nat → Nat → Int32) (E : Nat → Int64) (hj : j < 60) (e3 : pl 3 = nI (j + 1)) (e4 : pl 4 = 5) (hx : 48 ≤ x ∧ x ≤ 57) (hd : ¬ kb j = 0 ∧ 10 * kb j + (x - 48) ≤ 47) : z_Mt xs L m_X2_takes [aR 0 19, aI x] (cm n t v ld sh o cd pl ka kb kc, D, E) (.inl (some (aI 1))) (cm n t v ld sh o cd pl ka (upd kb j (10 * kb j + (x - 48))) kc, D, E) 0 := by
  refine z_Ev_blk 2 (c' := (4, [some (aR 0 19), some (aI x), none], [aI (pl 4)], (cm n t v ld sh o cd pl ka kb kc, D, E))) rfl trivial ?_
  rw [e4]
  refine z_Ev_blk 1 (c' := ((if (5 : Int32) = 0 then 7 else 13), [some (aR 0 19), some (aI x), none], [], (cm n t v ld sh o cd pl ka kb kc, D, E))) rfl trivial ?_
  refine z_Ev_else (by decide) ?_
  refine z_Ev_blk 3 (c' := ((if x = (59 : Int32) then 19 else 33), [some (aR 0 19), some (aI x), none], [], (cm n t v ld sh o cd pl ka kb kc, D, E))) rfl trivial ?_
  refine z_Ev_else ((fun z => by rw [z] at hx; exact absurd hx (by decide))) ?_
  refine z_Ev_blk 3 (c' := ((if x = (61 : Int32) then 39 else 55), [some (aR 0 19), some (aI x), none], [], (cm n t v ld sh o cd pl ka kb kc, D, E))) rfl trivial ?_
  refine z_Ev_else ((fun z => by rw [z] at hx; exact absurd hx (by decide))) ?_
  refine z_Ev_blk 2 (c' := (59, [some (aR 0 19), some (aI x), none], [aI (pl 3)], (cm n t v ld sh o cd pl ka kb kc, D, E))) rfl trivial ?_
  rw [e3]
  refine z_Ev_blk 2 (c' := (61, [some (aR 0 19), some (aI x), none], [aI ((nI (j + 1)) - (1 : Int32))], (cm n t v ld sh o cd pl ka kb kc, D, E))) rfl trivial ?_
  rw [nI_pred]
  refine z_Ev_blk 3 (c' := ((if (nI j) < 0 then 99 else 66), [some (aR 0 19), some (aI x), some (aI (nI j))], [], (cm n t v ld sh o cd pl ka kb kc, D, E))) rfl trivial ?_
  refine z_Ev_else (nI_pos (by omega)) ?_
  refine z_Ev_blk 3 (c' := ((if (60 : Int32) ≤ (nI j) then 99 else 72), [some (aR 0 19), some (aI x), some (aI (nI j))], [], (cm n t v ld sh o cd pl ka kb kc, D, E))) rfl trivial ?_
  refine z_Ev_else (nI_ge (b := 60) hj (by decide)) ?_
  refine z_Ev_blk 3 (c' := (77, [some (aR 0 19), some (aI x), some (aI (nI j))], [aI x, aI (57 : Int32), aI (48 : Int32)], (cm n t v ld sh o cd pl ka kb kc, D, E))) rfl trivial ?_
  refine z_Ev_call0 (m' := m_X4_isFrom) (as := [aI (48 : Int32), aI (57 : Int32), aI x]) (r := []) ((by have q := e_isFrom (xs := xs) (L := L) (48 : Int32) (57 : Int32) x (cm n t v ld sh o cd pl ka kb kc) D E; rw [f_b_t (hx)] at q; exact q)) rfl rfl ?_
  refine z_Ev_blk 1 (c' := ((if (1 : Int32) = 0 then 99 else 83), [some (aR 0 19), some (aI x), some (aI (nI j))], [], (cm n t v ld sh o cd pl ka kb kc, D, E))) rfl trivial ?_
  refine z_Ev_else (by decide) ?_
  refine z_Ev_blk 5 (c' := (89, [some (aR 0 19), some (aI x), some (aI (nI j))], [aI (x - (48 : Int32)), aI (nI j), aR 0 19], (cm n t v ld sh o cd pl ka kb kc, D, E))) rfl trivial ?_
  refine z_Ev_call0 (m' := m_X2_takesDigit) (as := [aR 0 19, aI (nI j), aI (x - (48 : Int32))]) (r := []) (p_digit_5_1 j (x - (48 : Int32)) n t v ld sh o cd pl ka kb kc D E hj e4 hd) rfl rfl ?_
  refine z_Ev_blk 1 (c' := ((if (1 : Int32) = 0 then 99 else 95), [some (aR 0 19), some (aI x), some (aI (nI j))], [], (cm n t v ld sh o cd pl ka (upd kb j (10 * kb j + (x - (48 : Int32)))) kc, D, E))) rfl trivial ?_
  refine z_Ev_else (by decide) ?_
  refine z_Ev_blk 2 (c' := (100, [some (aR 0 19), some (aI x), some (aI (nI j))], [aI (1 : Int32)], (cm n t v ld sh o cd pl ka (upd kb j (10 * kb j + (x - (48 : Int32)))) kc, D, E))) rfl trivial ?_
  exact z_Ev_zretE rfl rfl (rfl) (by rfl) (by rfl)
theorem p_t5_d0 {xs : Nat → Int32} {L : Nat} (j : Nat) (x : Int32) (n t : Nat → Int32) (v : Nat → Nat → Int32) (ld sh o cd pl ka kb kc : Nat → Int32) (D : Nat → Nat → Int32) (E : Nat → Int64) (hj : j < 60) (e3 : pl 3 = nI (j + 1)) (e4 : pl 4 = 5) (hx : 48 ≤ x ∧ x ≤ 57) (hd : kb j = 0 ∨ ¬ 10 * kb j + (x - 48) ≤ 47) : z_Mt xs L m_X2_takes [aR 0 19, aI x] (cm n t v ld sh o cd pl ka kb kc, D, E) (.inl (some (aI 0))) (cm n t v ld sh o cd pl ka kb kc, D, E) 0 := by
  refine z_Ev_blk 2 (c' := (4, [some (aR 0 19), some (aI x), none], [aI (pl 4)], (cm n t v ld sh o cd pl ka kb kc, D, E))) rfl trivial ?_
  rw [e4]
  refine z_Ev_blk 1 (c' := ((if (5 : Int32) = 0 then 7 else 13), [some (aR 0 19), some (aI x), none], [], (cm n t v ld sh o cd pl ka kb kc, D, E))) rfl trivial ?_
  refine z_Ev_else (by decide) ?_
  refine z_Ev_blk 3 (c' := ((if x = (59 : Int32) then 19 else 33), [some (aR 0 19), some (aI x), none], [], (cm n t v ld sh o cd pl ka kb kc, D, E))) rfl trivial ?_
  refine z_Ev_else ((fun z => by rw [z] at hx; exact absurd hx (by decide))) ?_
  refine z_Ev_blk 3 (c' := ((if x = (61 : Int32) then 39 else 55), [some (aR 0 19), some (aI x), none], [], (cm n t v ld sh o cd pl ka kb kc, D, E))) rfl trivial ?_
  refine z_Ev_else ((fun z => by rw [z] at hx; exact absurd hx (by decide))) ?_
  refine z_Ev_blk 2 (c' := (59, [some (aR 0 19), some (aI x), none], [aI (pl 3)], (cm n t v ld sh o cd pl ka kb kc, D, E))) rfl trivial ?_
  rw [e3]
  refine z_Ev_blk 2 (c' := (61, [some (aR 0 19), some (aI x), none], [aI ((nI (j + 1)) - (1 : Int32))], (cm n t v ld sh o cd pl ka kb kc, D, E))) rfl trivial ?_
  rw [nI_pred]
  refine z_Ev_blk 3 (c' := ((if (nI j) < 0 then 99 else 66), [some (aR 0 19), some (aI x), some (aI (nI j))], [], (cm n t v ld sh o cd pl ka kb kc, D, E))) rfl trivial ?_
  refine z_Ev_else (nI_pos (by omega)) ?_
  refine z_Ev_blk 3 (c' := ((if (60 : Int32) ≤ (nI j) then 99 else 72), [some (aR 0 19), some (aI x), some (aI (nI j))], [], (cm n t v ld sh o cd pl ka kb kc, D, E))) rfl trivial ?_
  refine z_Ev_else (nI_ge (b := 60) hj (by decide)) ?_
  refine z_Ev_blk 3 (c' := (77, [some (aR 0 19), some (aI x), some (aI (nI j))], [aI x, aI (57 : Int32), aI (48 : Int32)], (cm n t v ld sh o cd pl ka kb kc, D, E))) rfl trivial ?_
  refine z_Ev_call0 (m' := m_X4_isFrom) (as := [aI (48 : Int32), aI (57 : Int32), aI x]) (r := []) ((by have q := e_isFrom (xs := xs) (L := L) (48 : Int32) (57 : Int32) x (cm n t v ld sh o cd pl ka kb kc) D E; rw [f_b_t (hx)] at q; exact q)) rfl rfl ?_
  refine z_Ev_blk 1 (c' := ((if (1 : Int32) = 0 then 99 else 83), [some (aR 0 19), some (aI x), some (aI (nI j))], [], (cm n t v ld sh o cd pl ka kb kc, D, E))) rfl trivial ?_
  refine z_Ev_else (by decide) ?_
  refine z_Ev_blk 5 (c' := (89, [some (aR 0 19), some (aI x), some (aI (nI j))], [aI (x - (48 : Int32)), aI (nI j), aR 0 19], (cm n t v ld sh o cd pl ka kb kc, D, E))) rfl trivial ?_
  refine z_Ev_call0 (m' := m_X2_takesDigit) (as := [aR 0 19, aI (nI j), aI (x - (48 : Int32))]) (r := []) (p_digit_5_0 j (x - (48 : Int32)) n t v ld sh o cd pl ka kb kc D E hj e4 hd) rfl rfl ?_
  refine z_Ev_blk 1 (c' := ((if (0 : Int32) = 0 then 99 else 95), [some (aR 0 19), some (aI x), some (aI (nI j))], [], (cm n t v ld sh o cd pl ka kb kc, D, E))) rfl trivial ?_
  refine z_Ev_if (by decide) ?_
  refine z_Ev_blk 1 (c' := (100, [some (aR 0 19), some (aI x), some (aI (nI j))], [aI (0 : Int32)], (cm n t v ld sh o cd pl ka kb kc, D, E))) rfl trivial ?_
  exact z_Ev_zretE rfl rfl (rfl) (by rfl) (by rfl)
theorem p_t6_none {xs : Nat → Int32} {L : Nat} (j : Nat) (x : Int32) (n t : Nat → Int32) (v : Nat → Nat → Int32) (ld sh o cd pl ka kb kc : Nat → Int32) (D : Nat → Nat → Int32) (E : Nat → Int64) (hj : j < 60) (e3 : pl 3 = nI (j + 1)) (e4 : pl 4 = 6) (hx : ¬ (48 ≤ x ∧ x ≤ 57)) : z_Mt xs L m_X2_takes [aR 0 19, aI x] (cm n t v ld sh o cd pl ka kb kc, D, E) (.inl (some (aI 0))) (cm n t v ld sh o cd pl ka kb kc, D, E) 0 := by
  refine z_Ev_blk 2 (c' := (4, [some (aR 0 19), some (aI x), none], [aI (pl 4)], (cm n t v ld sh o cd pl ka kb kc, D, E))) rfl trivial ?_
  rw [e4]
  refine z_Ev_blk 1 (c' := ((if (6 : Int32) = 0 then 7 else 13), [some (aR 0 19), some (aI x), none], [], (cm n t v ld sh o cd pl ka kb kc, D, E))) rfl trivial ?_
  refine z_Ev_else (by decide) ?_
  refine z_Ev_blk 3 (c' := ((if x = (59 : Int32) then 19 else 33), [some (aR 0 19), some (aI x), none], [], (cm n t v ld sh o cd pl ka kb kc, D, E))) rfl trivial ?_
  refine z_Ev_ite (fun h1 => ?_) (fun h1 => ?_)
  · skip
    refine z_Ev_blk 1 (c' := (20, [some (aR 0 19), some (aI x), none], [aR 0 19], (cm n t v ld sh o cd pl ka kb kc, D, E))) rfl trivial ?_
    refine z_Ev_call0 (m' := m_X2_isWhole) (as := [aR 0 19]) (r := []) ((by have q := p_whole (xs := xs) (L := L) n t v ld sh o cd pl ka kb kc D E; rw [e4, f_b_f (by decide)] at q; exact q)) rfl rfl ?_
    refine z_Ev_blk 1 (c' := ((if (0 : Int32) = 0 then 33 else 26), [some (aR 0 19), some (aI x), none], [], (cm n t v ld sh o cd pl ka kb kc, D, E))) rfl trivial ?_
    refine z_Ev_if (by decide) ?_
    refine z_Ev_blk 3 (c' := ((if x = (61 : Int32) then 39 else 55), [some (aR 0 19), some (aI x), none], [], (cm n t v ld sh o cd pl ka kb kc, D, E))) rfl trivial ?_
    refine z_Ev_ite (fun h2 => ?_) (fun h2 => ?_)
    · skip
      refine z_Ev_blk 2 (c' := (43, [some (aR 0 19), some (aI x), none], [aI (pl 4)], (cm n t v ld sh o cd pl ka kb kc, D, E))) rfl trivial ?_
      rw [e4]
      refine z_Ev_blk 2 (c' := ((if (6 : Int32) = (5 : Int32) then 47 else 55), [some (aR 0 19), some (aI x), none], [], (cm n t v ld sh o cd pl ka kb kc, D, E))) rfl trivial ?_
      refine z_Ev_else (by decide) ?_
      refine z_Ev_blk 2 (c' := (59, [some (aR 0 19), some (aI x), none], [aI (pl 3)], (cm n t v ld sh o cd pl ka kb kc, D, E))) rfl trivial ?_
      rw [e3]
      refine z_Ev_blk 2 (c' := (61, [some (aR 0 19), some (aI x), none], [aI ((nI (j + 1)) - (1 : Int32))], (cm n t v ld sh o cd pl ka kb kc, D, E))) rfl trivial ?_
      rw [nI_pred]
      refine z_Ev_blk 3 (c' := ((if (nI j) < 0 then 99 else 66), [some (aR 0 19), some (aI x), some (aI (nI j))], [], (cm n t v ld sh o cd pl ka kb kc, D, E))) rfl trivial ?_
      refine z_Ev_else (nI_pos (by omega)) ?_
      refine z_Ev_blk 3 (c' := ((if (60 : Int32) ≤ (nI j) then 99 else 72), [some (aR 0 19), some (aI x), some (aI (nI j))], [], (cm n t v ld sh o cd pl ka kb kc, D, E))) rfl trivial ?_
      refine z_Ev_else (nI_ge (b := 60) hj (by decide)) ?_
      refine z_Ev_blk 3 (c' := (77, [some (aR 0 19), some (aI x), some (aI (nI j))], [aI x, aI (57 : Int32), aI (48 : Int32)], (cm n t v ld sh o cd pl ka kb kc, D, E))) rfl trivial ?_
      refine z_Ev_call0 (m' := m_X4_isFrom) (as := [aI (48 : Int32), aI (57 : Int32), aI x]) (r := []) ((by have q := e_isFrom (xs := xs) (L := L) (48 : Int32) (57 : Int32) x (cm n t v ld sh o cd pl ka kb kc) D E; rw [f_b_f (hx)] at q; exact q)) rfl rfl ?_
      refine z_Ev_blk 1 (c' := ((if (0 : Int32) = 0 then 99 else 83), [some (aR 0 19), some (aI x), some (aI (nI j))], [], (cm n t v ld sh o cd pl ka kb kc, D, E))) rfl trivial ?_
      refine z_Ev_if (by decide) ?_
      refine z_Ev_blk 1 (c' := (100, [some (aR 0 19), some (aI x), some (aI (nI j))], [aI (0 : Int32)], (cm n t v ld sh o cd pl ka kb kc, D, E))) rfl trivial ?_
      exact z_Ev_zretE rfl rfl (rfl) (by rfl) (by rfl)
    · skip
      refine z_Ev_blk 2 (c' := (59, [some (aR 0 19), some (aI x), none], [aI (pl 3)], (cm n t v ld sh o cd pl ka kb kc, D, E))) rfl trivial ?_
      rw [e3]
      refine z_Ev_blk 2 (c' := (61, [some (aR 0 19), some (aI x), none], [aI ((nI (j + 1)) - (1 : Int32))], (cm n t v ld sh o cd pl ka kb kc, D, E))) rfl trivial ?_
      rw [nI_pred]
      refine z_Ev_blk 3 (c' := ((if (nI j) < 0 then 99 else 66), [some (aR 0 19), some (aI x), some (aI (nI j))], [], (cm n t v ld sh o cd pl ka kb kc, D, E))) rfl trivial ?_
      refine z_Ev_else (nI_pos (by omega)) ?_
      refine z_Ev_blk 3 (c' := ((if (60 : Int32) ≤ (nI j) then 99 else 72), [some (aR 0 19), some (aI x), some (aI (nI j))], [], (cm n t v ld sh o cd pl ka kb kc, D, E))) rfl trivial ?_
      refine z_Ev_else (nI_ge (b := 60) hj (by decide)) ?_
      refine z_Ev_blk 3 (c' := (77, [some (aR 0 19), some (aI x), some (aI (nI j))], [aI x, aI (57 : Int32), aI (48 : Int32)], (cm n t v ld sh o cd pl ka kb kc, D, E))) rfl trivial ?_
      refine z_Ev_call0 (m' := m_X4_isFrom) (as := [aI (48 : Int32), aI (57 : Int32), aI x]) (r := []) ((by have q := e_isFrom (xs := xs) (L := L) (48 : Int32) (57 : Int32) x (cm n t v ld sh o cd pl ka kb kc) D E; rw [f_b_f (hx)] at q; exact q)) rfl rfl ?_
      refine z_Ev_blk 1 (c' := ((if (0 : Int32) = 0 then 99 else 83), [some (aR 0 19), some (aI x), some (aI (nI j))], [], (cm n t v ld sh o cd pl ka kb kc, D, E))) rfl trivial ?_
      refine z_Ev_if (by decide) ?_
      refine z_Ev_blk 1 (c' := (100, [some (aR 0 19), some (aI x), some (aI (nI j))], [aI (0 : Int32)], (cm n t v ld sh o cd pl ka kb kc, D, E))) rfl trivial ?_
      exact z_Ev_zretE rfl rfl (rfl) (by rfl) (by rfl)
  · skip
    refine z_Ev_blk 3 (c' := ((if x = (61 : Int32) then 39 else 55), [some (aR 0 19), some (aI x), none], [], (cm n t v ld sh o cd pl ka kb kc, D, E))) rfl trivial ?_
    refine z_Ev_ite (fun h3 => ?_) (fun h3 => ?_)
    · skip
      refine z_Ev_blk 2 (c' := (43, [some (aR 0 19), some (aI x), none], [aI (pl 4)], (cm n t v ld sh o cd pl ka kb kc, D, E))) rfl trivial ?_
      rw [e4]
      refine z_Ev_blk 2 (c' := ((if (6 : Int32) = (5 : Int32) then 47 else 55), [some (aR 0 19), some (aI x), none], [], (cm n t v ld sh o cd pl ka kb kc, D, E))) rfl trivial ?_
      refine z_Ev_else (by decide) ?_
      refine z_Ev_blk 2 (c' := (59, [some (aR 0 19), some (aI x), none], [aI (pl 3)], (cm n t v ld sh o cd pl ka kb kc, D, E))) rfl trivial ?_
      rw [e3]
      refine z_Ev_blk 2 (c' := (61, [some (aR 0 19), some (aI x), none], [aI ((nI (j + 1)) - (1 : Int32))], (cm n t v ld sh o cd pl ka kb kc, D, E))) rfl trivial ?_
      rw [nI_pred]
      refine z_Ev_blk 3 (c' := ((if (nI j) < 0 then 99 else 66), [some (aR 0 19), some (aI x), some (aI (nI j))], [], (cm n t v ld sh o cd pl ka kb kc, D, E))) rfl trivial ?_
      refine z_Ev_else (nI_pos (by omega)) ?_
      refine z_Ev_blk 3 (c' := ((if (60 : Int32) ≤ (nI j) then 99 else 72), [some (aR 0 19), some (aI x), some (aI (nI j))], [], (cm n t v ld sh o cd pl ka kb kc, D, E))) rfl trivial ?_
      refine z_Ev_else (nI_ge (b := 60) hj (by decide)) ?_
      refine z_Ev_blk 3 (c' := (77, [some (aR 0 19), some (aI x), some (aI (nI j))], [aI x, aI (57 : Int32), aI (48 : Int32)], (cm n t v ld sh o cd pl ka kb kc, D, E))) rfl trivial ?_
      refine z_Ev_call0 (m' := m_X4_isFrom) (as := [aI (48 : Int32), aI (57 : Int32), aI x]) (r := []) ((by have q := e_isFrom (xs := xs) (L := L) (48 : Int32) (57 : Int32) x (cm n t v ld sh o cd pl ka kb kc) D E; rw [f_b_f (hx)] at q; exact q)) rfl rfl ?_
      refine z_Ev_blk 1 (c' := ((if (0 : Int32) = 0 then 99 else 83), [some (aR 0 19), some (aI x), some (aI (nI j))], [], (cm n t v ld sh o cd pl ka kb kc, D, E))) rfl trivial ?_
      refine z_Ev_if (by decide) ?_
      refine z_Ev_blk 1 (c' := (100, [some (aR 0 19), some (aI x), some (aI (nI j))], [aI (0 : Int32)], (cm n t v ld sh o cd pl ka kb kc, D, E))) rfl trivial ?_
      exact z_Ev_zretE rfl rfl (rfl) (by rfl) (by rfl)
    · skip
      refine z_Ev_blk 2 (c' := (59, [some (aR 0 19), some (aI x), none], [aI (pl 3)], (cm n t v ld sh o cd pl ka kb kc, D, E))) rfl trivial ?_
      rw [e3]
      refine z_Ev_blk 2 (c' := (61, [some (aR 0 19), some (aI x), none], [aI ((nI (j + 1)) - (1 : Int32))], (cm n t v ld sh o cd pl ka kb kc, D, E))) rfl trivial ?_
      rw [nI_pred]
      refine z_Ev_blk 3 (c' := ((if (nI j) < 0 then 99 else 66), [some (aR 0 19), some (aI x), some (aI (nI j))], [], (cm n t v ld sh o cd pl ka kb kc, D, E))) rfl trivial ?_
      refine z_Ev_else (nI_pos (by omega)) ?_
      refine z_Ev_blk 3 (c' := ((if (60 : Int32) ≤ (nI j) then 99 else 72), [some (aR 0 19), some (aI x), some (aI (nI j))], [], (cm n t v ld sh o cd pl ka kb kc, D, E))) rfl trivial ?_
      refine z_Ev_else (nI_ge (b := 60) hj (by decide)) ?_
      refine z_Ev_blk 3 (c' := (77, [some (aR 0 19), some (aI x), some (aI (nI j))], [aI x, aI (57 : Int32), aI (48 : Int32)], (cm n t v ld sh o cd pl ka kb kc, D, E))) rfl trivial ?_
      refine z_Ev_call0 (m' := m_X4_isFrom) (as := [aI (48 : Int32), aI (57 : Int32), aI x]) (r := []) ((by have q := e_isFrom (xs := xs) (L := L) (48 : Int32) (57 : Int32) x (cm n t v ld sh o cd pl ka kb kc) D E; rw [f_b_f (hx)] at q; exact q)) rfl rfl ?_
      refine z_Ev_blk 1 (c' := ((if (0 : Int32) = 0 then 99 else 83), [some (aR 0 19), some (aI x), some (aI (nI j))], [], (cm n t v ld sh o cd pl ka kb kc, D, E))) rfl trivial ?_
      refine z_Ev_if (by decide) ?_
      refine z_Ev_blk 1 (c' := (100, [some (aR 0 19), some (aI x), some (aI (nI j))], [aI (0 : Int32)], (cm n t v ld sh o cd pl ka kb kc, D, E))) rfl trivial ?_
      exact z_Ev_zretE rfl rfl (rfl) (by rfl) (by rfl)
theorem p_t6_d1 {xs : Nat → Int32} {L : Nat} (j : Nat) (x : Int32) (n t : Nat → Int32) (v : Nat → Nat → Int32) (ld sh o cd pl ka kb kc : Nat → Int32) (D : Nat → Nat → Int32) (E : Nat → Int64) (hj : j < 60) (e3 : pl 3 = nI (j + 1)) (e4 : pl 4 = 6) (hx : 48 ≤ x ∧ x ≤ 57)  : z_Mt xs L m_X2_takes [aR 0 19, aI x] (cm n t v ld sh o cd pl ka kb kc, D, E) (.inl (some (aI 1))) (cm n t v ld sh o cd (upd pl 4 7) ka kb (upd kc j (x - 48)), D, E) 0 := by
  refine z_Ev_blk 2 (c' := (4, [some (aR 0 19), some (aI x), none], [aI (pl 4)], (cm n t v ld sh o cd pl ka kb kc, D, E))) rfl trivial ?_
  rw [e4]
  refine z_Ev_blk 1 (c' := ((if (6 : Int32) = 0 then 7 else 13), [some (aR 0 19), some (aI x), none], [], (cm n t v ld sh o cd pl ka kb kc, D, E))) rfl trivial ?_
  refine z_Ev_else (by decide) ?_
  refine z_Ev_blk 3 (c' := ((if x = (59 : Int32) then 19 else 33), [some (aR 0 19), some (aI x), none], [], (cm n t v ld sh o cd pl ka kb kc, D, E))) rfl trivial ?_
  refine z_Ev_else ((fun z => by rw [z] at hx; exact absurd hx (by decide))) ?_
  refine z_Ev_blk 3 (c' := ((if x = (61 : Int32) then 39 else 55), [some (aR 0 19), some (aI x), none], [], (cm n t v ld sh o cd pl ka kb kc, D, E))) rfl trivial ?_
  refine z_Ev_else ((fun z => by rw [z] at hx; exact absurd hx (by decide))) ?_
  refine z_Ev_blk 2 (c' := (59, [some (aR 0 19), some (aI x), none], [aI (pl 3)], (cm n t v ld sh o cd pl ka kb kc, D, E))) rfl trivial ?_
  rw [e3]
  refine z_Ev_blk 2 (c' := (61, [some (aR 0 19), some (aI x), none], [aI ((nI (j + 1)) - (1 : Int32))], (cm n t v ld sh o cd pl ka kb kc, D, E))) rfl trivial ?_
  rw [nI_pred]
  refine z_Ev_blk 3 (c' := ((if (nI j) < 0 then 99 else 66), [some (aR 0 19), some (aI x), some (aI (nI j))], [], (cm n t v ld sh o cd pl ka kb kc, D, E))) rfl trivial ?_
  refine z_Ev_else (nI_pos (by omega)) ?_
  refine z_Ev_blk 3 (c' := ((if (60 : Int32) ≤ (nI j) then 99 else 72), [some (aR 0 19), some (aI x), some (aI (nI j))], [], (cm n t v ld sh o cd pl ka kb kc, D, E))) rfl trivial ?_
  refine z_Ev_else (nI_ge (b := 60) hj (by decide)) ?_
  refine z_Ev_blk 3 (c' := (77, [some (aR 0 19), some (aI x), some (aI (nI j))], [aI x, aI (57 : Int32), aI (48 : Int32)], (cm n t v ld sh o cd pl ka kb kc, D, E))) rfl trivial ?_
  refine z_Ev_call0 (m' := m_X4_isFrom) (as := [aI (48 : Int32), aI (57 : Int32), aI x]) (r := []) ((by have q := e_isFrom (xs := xs) (L := L) (48 : Int32) (57 : Int32) x (cm n t v ld sh o cd pl ka kb kc) D E; rw [f_b_t (hx)] at q; exact q)) rfl rfl ?_
  refine z_Ev_blk 1 (c' := ((if (1 : Int32) = 0 then 99 else 83), [some (aR 0 19), some (aI x), some (aI (nI j))], [], (cm n t v ld sh o cd pl ka kb kc, D, E))) rfl trivial ?_
  refine z_Ev_else (by decide) ?_
  refine z_Ev_blk 5 (c' := (89, [some (aR 0 19), some (aI x), some (aI (nI j))], [aI (x - (48 : Int32)), aI (nI j), aR 0 19], (cm n t v ld sh o cd pl ka kb kc, D, E))) rfl trivial ?_
  refine z_Ev_call0 (m' := m_X2_takesDigit) (as := [aR 0 19, aI (nI j), aI (x - (48 : Int32))]) (r := []) (p_digit_6_1 j (x - (48 : Int32)) n t v ld sh o cd pl ka kb kc D E hj e4) rfl rfl ?_
  refine z_Ev_blk 1 (c' := ((if (1 : Int32) = 0 then 99 else 95), [some (aR 0 19), some (aI x), some (aI (nI j))], [], (cm n t v ld sh o cd (upd pl 4 7) ka kb (upd kc j (x - (48 : Int32))), D, E))) rfl trivial ?_
  refine z_Ev_else (by decide) ?_
  refine z_Ev_blk 2 (c' := (100, [some (aR 0 19), some (aI x), some (aI (nI j))], [aI (1 : Int32)], (cm n t v ld sh o cd (upd pl 4 7) ka kb (upd kc j (x - (48 : Int32))), D, E))) rfl trivial ?_
  exact z_Ev_zretE rfl rfl (rfl) (by rfl) (by rfl)
theorem p_t7_semi {xs : Nat → Int32} {L : Nat} (j : Nat) (n t : Nat → Int32) (v : Nat → Nat → Int32) (ld sh o cd pl ka kb kc : Nat → Int32) (D : Nat → Nat → Int32) (E : Nat → Int64) (hj : j < 60) (e3 : pl 3 = nI (j + 1)) (e4 : pl 4 = 7)  : z_Mt xs L m_X2_takes [aR 0 19, aI (59 : Int32)] (cm n t v ld sh o cd pl ka kb kc, D, E) (.inl (some (aI 1))) (cm n t v ld sh o cd (upd pl 4 0) ka kb kc, D, E) 0 := by
  refine z_Ev_blk 2 (c' := (4, [some (aR 0 19), some (aI (59 : Int32)), none], [aI (pl 4)], (cm n t v ld sh o cd pl ka kb kc, D, E))) rfl trivial ?_
  rw [e4]
  refine z_Ev_blk 1 (c' := ((if (7 : Int32) = 0 then 7 else 13), [some (aR 0 19), some (aI (59 : Int32)), none], [], (cm n t v ld sh o cd pl ka kb kc, D, E))) rfl trivial ?_
  refine z_Ev_else (by decide) ?_
  refine z_Ev_blk 3 (c' := ((if (59 : Int32) = (59 : Int32) then 19 else 33), [some (aR 0 19), some (aI (59 : Int32)), none], [], (cm n t v ld sh o cd pl ka kb kc, D, E))) rfl trivial ?_
  refine z_Ev_if (by decide) ?_
  refine z_Ev_blk 1 (c' := (20, [some (aR 0 19), some (aI (59 : Int32)), none], [aR 0 19], (cm n t v ld sh o cd pl ka kb kc, D, E))) rfl trivial ?_
  refine z_Ev_call0 (m' := m_X2_isWhole) (as := [aR 0 19]) (r := []) ((by have q := p_whole (xs := xs) (L := L) n t v ld sh o cd pl ka kb kc D E; rw [e4, f_b_t (by decide)] at q; exact q)) rfl rfl ?_
  refine z_Ev_blk 1 (c' := ((if (1 : Int32) = 0 then 33 else 26), [some (aR 0 19), some (aI (59 : Int32)), none], [], (cm n t v ld sh o cd pl ka kb kc, D, E))) rfl trivial ?_
  refine z_Ev_else (by decide) ?_
  refine z_Ev_blk 3 (c' := (31, [some (aR 0 19), some (aI (59 : Int32)), none], [], (up3 (cm n t v ld sh o cd pl ka kb kc) 0 19 4 (0 : Int32), D, E))) rfl trivial ?_
  rw [cm_19]
  refine z_Ev_blk 1 (c' := (32, [some (aR 0 19), some (aI (59 : Int32)), none], [aI (1 : Int32)], (cm n t v ld sh o cd (upd pl 4 (0 : Int32)) ka kb kc, D, E))) rfl trivial ?_
  exact z_Ev_zretE rfl rfl (rfl) (by rfl) (by rfl)
theorem p_t7_none {xs : Nat → Int32} {L : Nat} (j : Nat) (x : Int32) (n t : Nat → Int32) (v : Nat → Nat → Int32) (ld sh o cd pl ka kb kc : Nat → Int32) (D : Nat → Nat → Int32) (E : Nat → Int64) (hj : j < 60) (e3 : pl 3 = nI (j + 1)) (e4 : pl 4 = 7) (hx : ¬ (48 ≤ x ∧ x ≤ 57)) (h59 : ¬ x = 59) : z_Mt xs L m_X2_takes [aR 0 19, aI x] (cm n t v ld sh o cd pl ka kb kc, D, E) (.inl (some (aI 0))) (cm n t v ld sh o cd pl ka kb kc, D, E) 0 := by
  refine z_Ev_blk 2 (c' := (4, [some (aR 0 19), some (aI x), none], [aI (pl 4)], (cm n t v ld sh o cd pl ka kb kc, D, E))) rfl trivial ?_
  rw [e4]
  refine z_Ev_blk 1 (c' := ((if (7 : Int32) = 0 then 7 else 13), [some (aR 0 19), some (aI x), none], [], (cm n t v ld sh o cd pl ka kb kc, D, E))) rfl trivial ?_
  refine z_Ev_else (by decide) ?_
  refine z_Ev_blk 3 (c' := ((if x = (59 : Int32) then 19 else 33), [some (aR 0 19), some (aI x), none], [], (cm n t v ld sh o cd pl ka kb kc, D, E))) rfl trivial ?_
  refine z_Ev_else (h59) ?_
  refine z_Ev_blk 3 (c' := ((if x = (61 : Int32) then 39 else 55), [some (aR 0 19), some (aI x), none], [], (cm n t v ld sh o cd pl ka kb kc, D, E))) rfl trivial ?_
  refine z_Ev_ite (fun h1 => ?_) (fun h1 => ?_)
  · skip
    refine z_Ev_blk 2 (c' := (43, [some (aR 0 19), some (aI x), none], [aI (pl 4)], (cm n t v ld sh o cd pl ka kb kc, D, E))) rfl trivial ?_
    rw [e4]
    refine z_Ev_blk 2 (c' := ((if (7 : Int32) = (5 : Int32) then 47 else 55), [some (aR 0 19), some (aI x), none], [], (cm n t v ld sh o cd pl ka kb kc, D, E))) rfl trivial ?_
    refine z_Ev_else (by decide) ?_
    refine z_Ev_blk 2 (c' := (59, [some (aR 0 19), some (aI x), none], [aI (pl 3)], (cm n t v ld sh o cd pl ka kb kc, D, E))) rfl trivial ?_
    rw [e3]
    refine z_Ev_blk 2 (c' := (61, [some (aR 0 19), some (aI x), none], [aI ((nI (j + 1)) - (1 : Int32))], (cm n t v ld sh o cd pl ka kb kc, D, E))) rfl trivial ?_
    rw [nI_pred]
    refine z_Ev_blk 3 (c' := ((if (nI j) < 0 then 99 else 66), [some (aR 0 19), some (aI x), some (aI (nI j))], [], (cm n t v ld sh o cd pl ka kb kc, D, E))) rfl trivial ?_
    refine z_Ev_else (nI_pos (by omega)) ?_
    refine z_Ev_blk 3 (c' := ((if (60 : Int32) ≤ (nI j) then 99 else 72), [some (aR 0 19), some (aI x), some (aI (nI j))], [], (cm n t v ld sh o cd pl ka kb kc, D, E))) rfl trivial ?_
    refine z_Ev_else (nI_ge (b := 60) hj (by decide)) ?_
    refine z_Ev_blk 3 (c' := (77, [some (aR 0 19), some (aI x), some (aI (nI j))], [aI x, aI (57 : Int32), aI (48 : Int32)], (cm n t v ld sh o cd pl ka kb kc, D, E))) rfl trivial ?_
    refine z_Ev_call0 (m' := m_X4_isFrom) (as := [aI (48 : Int32), aI (57 : Int32), aI x]) (r := []) ((by have q := e_isFrom (xs := xs) (L := L) (48 : Int32) (57 : Int32) x (cm n t v ld sh o cd pl ka kb kc) D E; rw [f_b_f (hx)] at q; exact q)) rfl rfl ?_
    refine z_Ev_blk 1 (c' := ((if (0 : Int32) = 0 then 99 else 83), [some (aR 0 19), some (aI x), some (aI (nI j))], [], (cm n t v ld sh o cd pl ka kb kc, D, E))) rfl trivial ?_
    refine z_Ev_if (by decide) ?_
    refine z_Ev_blk 1 (c' := (100, [some (aR 0 19), some (aI x), some (aI (nI j))], [aI (0 : Int32)], (cm n t v ld sh o cd pl ka kb kc, D, E))) rfl trivial ?_
    exact z_Ev_zretE rfl rfl (rfl) (by rfl) (by rfl)
  · skip
    refine z_Ev_blk 2 (c' := (59, [some (aR 0 19), some (aI x), none], [aI (pl 3)], (cm n t v ld sh o cd pl ka kb kc, D, E))) rfl trivial ?_
    rw [e3]
    refine z_Ev_blk 2 (c' := (61, [some (aR 0 19), some (aI x), none], [aI ((nI (j + 1)) - (1 : Int32))], (cm n t v ld sh o cd pl ka kb kc, D, E))) rfl trivial ?_
    rw [nI_pred]
    refine z_Ev_blk 3 (c' := ((if (nI j) < 0 then 99 else 66), [some (aR 0 19), some (aI x), some (aI (nI j))], [], (cm n t v ld sh o cd pl ka kb kc, D, E))) rfl trivial ?_
    refine z_Ev_else (nI_pos (by omega)) ?_
    refine z_Ev_blk 3 (c' := ((if (60 : Int32) ≤ (nI j) then 99 else 72), [some (aR 0 19), some (aI x), some (aI (nI j))], [], (cm n t v ld sh o cd pl ka kb kc, D, E))) rfl trivial ?_
    refine z_Ev_else (nI_ge (b := 60) hj (by decide)) ?_
    refine z_Ev_blk 3 (c' := (77, [some (aR 0 19), some (aI x), some (aI (nI j))], [aI x, aI (57 : Int32), aI (48 : Int32)], (cm n t v ld sh o cd pl ka kb kc, D, E))) rfl trivial ?_
    refine z_Ev_call0 (m' := m_X4_isFrom) (as := [aI (48 : Int32), aI (57 : Int32), aI x]) (r := []) ((by have q := e_isFrom (xs := xs) (L := L) (48 : Int32) (57 : Int32) x (cm n t v ld sh o cd pl ka kb kc) D E; rw [f_b_f (hx)] at q; exact q)) rfl rfl ?_
    refine z_Ev_blk 1 (c' := ((if (0 : Int32) = 0 then 99 else 83), [some (aR 0 19), some (aI x), some (aI (nI j))], [], (cm n t v ld sh o cd pl ka kb kc, D, E))) rfl trivial ?_
    refine z_Ev_if (by decide) ?_
    refine z_Ev_blk 1 (c' := (100, [some (aR 0 19), some (aI x), some (aI (nI j))], [aI (0 : Int32)], (cm n t v ld sh o cd pl ka kb kc, D, E))) rfl trivial ?_
    exact z_Ev_zretE rfl rfl (rfl) (by rfl) (by rfl)
theorem p_t7_d1 {xs : Nat → Int32} {L : Nat} (j : Nat) (x : Int32) (n t : Nat → Int32) (v : Nat → Nat → Int32) (ld sh o cd pl ka kb kc : Nat → Int32) (D : Nat → Nat → Int32) (E : Nat → Int64) (hj : j < 60) (e3 : pl 3 = nI (j + 1)) (e4 : pl 4 = 7) (hx : 48 ≤ x ∧ x ≤ 57) (hd : ¬ kc j = 0 ∧ 10 * kc j + (x - 48) ≤ 1500) : z_Mt xs L m_X2_takes [aR 0 19, aI x] (cm n t v ld sh o cd pl ka kb kc, D, E) (.inl (some (aI 1))) (cm n t v ld sh o cd pl ka kb (upd kc j (10 * kc j + (x - 48))), D, E) 0 := by
  refine z_Ev_blk 2 (c' := (4, [some (aR 0 19), some (aI x), none], [aI (pl 4)], (cm n t v ld sh o cd pl ka kb kc, D, E))) rfl trivial ?_
  rw [e4]
  refine z_Ev_blk 1 (c' := ((if (7 : Int32) = 0 then 7 else 13), [some (aR 0 19), some (aI x), none], [], (cm n t v ld sh o cd pl ka kb kc, D, E))) rfl trivial ?_
  refine z_Ev_else (by decide) ?_
  refine z_Ev_blk 3 (c' := ((if x = (59 : Int32) then 19 else 33), [some (aR 0 19), some (aI x), none], [], (cm n t v ld sh o cd pl ka kb kc, D, E))) rfl trivial ?_
  refine z_Ev_else ((fun z => by rw [z] at hx; exact absurd hx (by decide))) ?_
  refine z_Ev_blk 3 (c' := ((if x = (61 : Int32) then 39 else 55), [some (aR 0 19), some (aI x), none], [], (cm n t v ld sh o cd pl ka kb kc, D, E))) rfl trivial ?_
  refine z_Ev_else ((fun z => by rw [z] at hx; exact absurd hx (by decide))) ?_
  refine z_Ev_blk 2 (c' := (59, [some (aR 0 19), some (aI x), none], [aI (pl 3)], (cm n t v ld sh o cd pl ka kb kc, D, E))) rfl trivial ?_
  rw [e3]
  refine z_Ev_blk 2 (c' := (61, [some (aR 0 19), some (aI x), none], [aI ((nI (j + 1)) - (1 : Int32))], (cm n t v ld sh o cd pl ka kb kc, D, E))) rfl trivial ?_
  rw [nI_pred]
  refine z_Ev_blk 3 (c' := ((if (nI j) < 0 then 99 else 66), [some (aR 0 19), some (aI x), some (aI (nI j))], [], (cm n t v ld sh o cd pl ka kb kc, D, E))) rfl trivial ?_
  refine z_Ev_else (nI_pos (by omega)) ?_
  refine z_Ev_blk 3 (c' := ((if (60 : Int32) ≤ (nI j) then 99 else 72), [some (aR 0 19), some (aI x), some (aI (nI j))], [], (cm n t v ld sh o cd pl ka kb kc, D, E))) rfl trivial ?_
  refine z_Ev_else (nI_ge (b := 60) hj (by decide)) ?_
  refine z_Ev_blk 3 (c' := (77, [some (aR 0 19), some (aI x), some (aI (nI j))], [aI x, aI (57 : Int32), aI (48 : Int32)], (cm n t v ld sh o cd pl ka kb kc, D, E))) rfl trivial ?_
  refine z_Ev_call0 (m' := m_X4_isFrom) (as := [aI (48 : Int32), aI (57 : Int32), aI x]) (r := []) ((by have q := e_isFrom (xs := xs) (L := L) (48 : Int32) (57 : Int32) x (cm n t v ld sh o cd pl ka kb kc) D E; rw [f_b_t (hx)] at q; exact q)) rfl rfl ?_
  refine z_Ev_blk 1 (c' := ((if (1 : Int32) = 0 then 99 else 83), [some (aR 0 19), some (aI x), some (aI (nI j))], [], (cm n t v ld sh o cd pl ka kb kc, D, E))) rfl trivial ?_
  refine z_Ev_else (by decide) ?_
  refine z_Ev_blk 5 (c' := (89, [some (aR 0 19), some (aI x), some (aI (nI j))], [aI (x - (48 : Int32)), aI (nI j), aR 0 19], (cm n t v ld sh o cd pl ka kb kc, D, E))) rfl trivial ?_
  refine z_Ev_call0 (m' := m_X2_takesDigit) (as := [aR 0 19, aI (nI j), aI (x - (48 : Int32))]) (r := []) (p_digit_7_1 j (x - (48 : Int32)) n t v ld sh o cd pl ka kb kc D E hj e4 hd) rfl rfl ?_
  refine z_Ev_blk 1 (c' := ((if (1 : Int32) = 0 then 99 else 95), [some (aR 0 19), some (aI x), some (aI (nI j))], [], (cm n t v ld sh o cd pl ka kb (upd kc j (10 * kc j + (x - (48 : Int32)))), D, E))) rfl trivial ?_
  refine z_Ev_else (by decide) ?_
  refine z_Ev_blk 2 (c' := (100, [some (aR 0 19), some (aI x), some (aI (nI j))], [aI (1 : Int32)], (cm n t v ld sh o cd pl ka kb (upd kc j (10 * kc j + (x - (48 : Int32)))), D, E))) rfl trivial ?_
  exact z_Ev_zretE rfl rfl (rfl) (by rfl) (by rfl)
theorem p_t7_d0 {xs : Nat → Int32} {L : Nat} (j : Nat) (x : Int32) (n t : Nat → Int32) (v : Nat → Nat → Int32) (ld sh o cd pl ka kb kc : Nat → Int32) (D : Nat → Nat → Int32) (E : Nat → Int64) (hj : j < 60) (e3 : pl 3 = nI (j + 1)) (e4 : pl 4 = 7) (hx : 48 ≤ x ∧ x ≤ 57) (hd : kc j = 0 ∨ ¬ 10 * kc j + (x - 48) ≤ 1500) : z_Mt xs L m_X2_takes [aR 0 19, aI x] (cm n t v ld sh o cd pl ka kb kc, D, E) (.inl (some (aI 0))) (cm n t v ld sh o cd pl ka kb kc, D, E) 0 := by
  refine z_Ev_blk 2 (c' := (4, [some (aR 0 19), some (aI x), none], [aI (pl 4)], (cm n t v ld sh o cd pl ka kb kc, D, E))) rfl trivial ?_
  rw [e4]
  refine z_Ev_blk 1 (c' := ((if (7 : Int32) = 0 then 7 else 13), [some (aR 0 19), some (aI x), none], [], (cm n t v ld sh o cd pl ka kb kc, D, E))) rfl trivial ?_
  refine z_Ev_else (by decide) ?_
  refine z_Ev_blk 3 (c' := ((if x = (59 : Int32) then 19 else 33), [some (aR 0 19), some (aI x), none], [], (cm n t v ld sh o cd pl ka kb kc, D, E))) rfl trivial ?_
  refine z_Ev_else ((fun z => by rw [z] at hx; exact absurd hx (by decide))) ?_
  refine z_Ev_blk 3 (c' := ((if x = (61 : Int32) then 39 else 55), [some (aR 0 19), some (aI x), none], [], (cm n t v ld sh o cd pl ka kb kc, D, E))) rfl trivial ?_
  refine z_Ev_else ((fun z => by rw [z] at hx; exact absurd hx (by decide))) ?_
  refine z_Ev_blk 2 (c' := (59, [some (aR 0 19), some (aI x), none], [aI (pl 3)], (cm n t v ld sh o cd pl ka kb kc, D, E))) rfl trivial ?_
  rw [e3]
  refine z_Ev_blk 2 (c' := (61, [some (aR 0 19), some (aI x), none], [aI ((nI (j + 1)) - (1 : Int32))], (cm n t v ld sh o cd pl ka kb kc, D, E))) rfl trivial ?_
  rw [nI_pred]
  refine z_Ev_blk 3 (c' := ((if (nI j) < 0 then 99 else 66), [some (aR 0 19), some (aI x), some (aI (nI j))], [], (cm n t v ld sh o cd pl ka kb kc, D, E))) rfl trivial ?_
  refine z_Ev_else (nI_pos (by omega)) ?_
  refine z_Ev_blk 3 (c' := ((if (60 : Int32) ≤ (nI j) then 99 else 72), [some (aR 0 19), some (aI x), some (aI (nI j))], [], (cm n t v ld sh o cd pl ka kb kc, D, E))) rfl trivial ?_
  refine z_Ev_else (nI_ge (b := 60) hj (by decide)) ?_
  refine z_Ev_blk 3 (c' := (77, [some (aR 0 19), some (aI x), some (aI (nI j))], [aI x, aI (57 : Int32), aI (48 : Int32)], (cm n t v ld sh o cd pl ka kb kc, D, E))) rfl trivial ?_
  refine z_Ev_call0 (m' := m_X4_isFrom) (as := [aI (48 : Int32), aI (57 : Int32), aI x]) (r := []) ((by have q := e_isFrom (xs := xs) (L := L) (48 : Int32) (57 : Int32) x (cm n t v ld sh o cd pl ka kb kc) D E; rw [f_b_t (hx)] at q; exact q)) rfl rfl ?_
  refine z_Ev_blk 1 (c' := ((if (1 : Int32) = 0 then 99 else 83), [some (aR 0 19), some (aI x), some (aI (nI j))], [], (cm n t v ld sh o cd pl ka kb kc, D, E))) rfl trivial ?_
  refine z_Ev_else (by decide) ?_
  refine z_Ev_blk 5 (c' := (89, [some (aR 0 19), some (aI x), some (aI (nI j))], [aI (x - (48 : Int32)), aI (nI j), aR 0 19], (cm n t v ld sh o cd pl ka kb kc, D, E))) rfl trivial ?_
  refine z_Ev_call0 (m' := m_X2_takesDigit) (as := [aR 0 19, aI (nI j), aI (x - (48 : Int32))]) (r := []) (p_digit_7_0 j (x - (48 : Int32)) n t v ld sh o cd pl ka kb kc D E hj e4 hd) rfl rfl ?_
  refine z_Ev_blk 1 (c' := ((if (0 : Int32) = 0 then 99 else 95), [some (aR 0 19), some (aI x), some (aI (nI j))], [], (cm n t v ld sh o cd pl ka kb kc, D, E))) rfl trivial ?_
  refine z_Ev_if (by decide) ?_
  refine z_Ev_blk 1 (c' := (100, [some (aR 0 19), some (aI x), some (aI (nI j))], [aI (0 : Int32)], (cm n t v ld sh o cd pl ka kb kc, D, E))) rfl trivial ?_
  exact z_Ev_zretE rfl rfl (rfl) (by rfl) (by rfl)
theorem p_t8_semi {xs : Nat → Int32} {L : Nat} (j : Nat) (n t : Nat → Int32) (v : Nat → Nat → Int32) (ld sh o cd pl ka kb kc : Nat → Int32) (D : Nat → Nat → Int32) (E : Nat → Int64) (hj : j < 60) (e3 : pl 3 = nI (j + 1)) (e4 : pl 4 = 8)  : z_Mt xs L m_X2_takes [aR 0 19, aI (59 : Int32)] (cm n t v ld sh o cd pl ka kb kc, D, E) (.inl (some (aI 1))) (cm n t v ld sh o cd (upd pl 4 0) ka kb kc, D, E) 0 := by
  refine z_Ev_blk 2 (c' := (4, [some (aR 0 19), some (aI (59 : Int32)), none], [aI (pl 4)], (cm n t v ld sh o cd pl ka kb kc, D, E))) rfl trivial ?_
  rw [e4]
  refine z_Ev_blk 1 (c' := ((if (8 : Int32) = 0 then 7 else 13), [some (aR 0 19), some (aI (59 : Int32)), none], [], (cm n t v ld sh o cd pl ka kb kc, D, E))) rfl trivial ?_
  refine z_Ev_else (by decide) ?_
  refine z_Ev_blk 3 (c' := ((if (59 : Int32) = (59 : Int32) then 19 else 33), [some (aR 0 19), some (aI (59 : Int32)), none], [], (cm n t v ld sh o cd pl ka kb kc, D, E))) rfl trivial ?_
  refine z_Ev_if (by decide) ?_
  refine z_Ev_blk 1 (c' := (20, [some (aR 0 19), some (aI (59 : Int32)), none], [aR 0 19], (cm n t v ld sh o cd pl ka kb kc, D, E))) rfl trivial ?_
  refine z_Ev_call0 (m' := m_X2_isWhole) (as := [aR 0 19]) (r := []) ((by have q := p_whole (xs := xs) (L := L) n t v ld sh o cd pl ka kb kc D E; rw [e4, f_b_t (by decide)] at q; exact q)) rfl rfl ?_
  refine z_Ev_blk 1 (c' := ((if (1 : Int32) = 0 then 33 else 26), [some (aR 0 19), some (aI (59 : Int32)), none], [], (cm n t v ld sh o cd pl ka kb kc, D, E))) rfl trivial ?_
  refine z_Ev_else (by decide) ?_
  refine z_Ev_blk 3 (c' := (31, [some (aR 0 19), some (aI (59 : Int32)), none], [], (up3 (cm n t v ld sh o cd pl ka kb kc) 0 19 4 (0 : Int32), D, E))) rfl trivial ?_
  rw [cm_19]
  refine z_Ev_blk 1 (c' := (32, [some (aR 0 19), some (aI (59 : Int32)), none], [aI (1 : Int32)], (cm n t v ld sh o cd (upd pl 4 (0 : Int32)) ka kb kc, D, E))) rfl trivial ?_
  exact z_Ev_zretE rfl rfl (rfl) (by rfl) (by rfl)
theorem p_t8_none {xs : Nat → Int32} {L : Nat} (j : Nat) (x : Int32) (n t : Nat → Int32) (v : Nat → Nat → Int32) (ld sh o cd pl ka kb kc : Nat → Int32) (D : Nat → Nat → Int32) (E : Nat → Int64) (hj : j < 60) (e3 : pl 3 = nI (j + 1)) (e4 : pl 4 = 8) (hx : ¬ (48 ≤ x ∧ x ≤ 57)) (h59 : ¬ x = 59) : z_Mt xs L m_X2_takes [aR 0 19, aI x] (cm n t v ld sh o cd pl ka kb kc, D, E) (.inl (some (aI 0))) (cm n t v ld sh o cd pl ka kb kc, D, E) 0 := by
  refine z_Ev_blk 2 (c' := (4, [some (aR 0 19), some (aI x), none], [aI (pl 4)], (cm n t v ld sh o cd pl ka kb kc, D, E))) rfl trivial ?_
  rw [e4]
  refine z_Ev_blk 1 (c' := ((if (8 : Int32) = 0 then 7 else 13), [some (aR 0 19), some (aI x), none], [], (cm n t v ld sh o cd pl ka kb kc, D, E))) rfl trivial ?_
  refine z_Ev_else (by decide) ?_
  refine z_Ev_blk 3 (c' := ((if x = (59 : Int32) then 19 else 33), [some (aR 0 19), some (aI x), none], [], (cm n t v ld sh o cd pl ka kb kc, D, E))) rfl trivial ?_
  refine z_Ev_else (h59) ?_
  refine z_Ev_blk 3 (c' := ((if x = (61 : Int32) then 39 else 55), [some (aR 0 19), some (aI x), none], [], (cm n t v ld sh o cd pl ka kb kc, D, E))) rfl trivial ?_
  refine z_Ev_ite (fun h1 => ?_) (fun h1 => ?_)
  · skip
    refine z_Ev_blk 2 (c' := (43, [some (aR 0 19), some (aI x), none], [aI (pl 4)], (cm n t v ld sh o cd pl ka kb kc, D, E))) rfl trivial ?_
    rw [e4]
    refine z_Ev_blk 2 (c' := ((if (8 : Int32) = (5 : Int32) then 47 else 55), [some (aR 0 19), some (aI x), none], [], (cm n t v ld sh o cd pl ka kb kc, D, E))) rfl trivial ?_
    refine z_Ev_else (by decide) ?_
    refine z_Ev_blk 2 (c' := (59, [some (aR 0 19), some (aI x), none], [aI (pl 3)], (cm n t v ld sh o cd pl ka kb kc, D, E))) rfl trivial ?_
    rw [e3]
    refine z_Ev_blk 2 (c' := (61, [some (aR 0 19), some (aI x), none], [aI ((nI (j + 1)) - (1 : Int32))], (cm n t v ld sh o cd pl ka kb kc, D, E))) rfl trivial ?_
    rw [nI_pred]
    refine z_Ev_blk 3 (c' := ((if (nI j) < 0 then 99 else 66), [some (aR 0 19), some (aI x), some (aI (nI j))], [], (cm n t v ld sh o cd pl ka kb kc, D, E))) rfl trivial ?_
    refine z_Ev_else (nI_pos (by omega)) ?_
    refine z_Ev_blk 3 (c' := ((if (60 : Int32) ≤ (nI j) then 99 else 72), [some (aR 0 19), some (aI x), some (aI (nI j))], [], (cm n t v ld sh o cd pl ka kb kc, D, E))) rfl trivial ?_
    refine z_Ev_else (nI_ge (b := 60) hj (by decide)) ?_
    refine z_Ev_blk 3 (c' := (77, [some (aR 0 19), some (aI x), some (aI (nI j))], [aI x, aI (57 : Int32), aI (48 : Int32)], (cm n t v ld sh o cd pl ka kb kc, D, E))) rfl trivial ?_
    refine z_Ev_call0 (m' := m_X4_isFrom) (as := [aI (48 : Int32), aI (57 : Int32), aI x]) (r := []) ((by have q := e_isFrom (xs := xs) (L := L) (48 : Int32) (57 : Int32) x (cm n t v ld sh o cd pl ka kb kc) D E; rw [f_b_f (hx)] at q; exact q)) rfl rfl ?_
    refine z_Ev_blk 1 (c' := ((if (0 : Int32) = 0 then 99 else 83), [some (aR 0 19), some (aI x), some (aI (nI j))], [], (cm n t v ld sh o cd pl ka kb kc, D, E))) rfl trivial ?_
    refine z_Ev_if (by decide) ?_
    refine z_Ev_blk 1 (c' := (100, [some (aR 0 19), some (aI x), some (aI (nI j))], [aI (0 : Int32)], (cm n t v ld sh o cd pl ka kb kc, D, E))) rfl trivial ?_
    exact z_Ev_zretE rfl rfl (rfl) (by rfl) (by rfl)
  · skip
    refine z_Ev_blk 2 (c' := (59, [some (aR 0 19), some (aI x), none], [aI (pl 3)], (cm n t v ld sh o cd pl ka kb kc, D, E))) rfl trivial ?_
    rw [e3]
    refine z_Ev_blk 2 (c' := (61, [some (aR 0 19), some (aI x), none], [aI ((nI (j + 1)) - (1 : Int32))], (cm n t v ld sh o cd pl ka kb kc, D, E))) rfl trivial ?_
    rw [nI_pred]
    refine z_Ev_blk 3 (c' := ((if (nI j) < 0 then 99 else 66), [some (aR 0 19), some (aI x), some (aI (nI j))], [], (cm n t v ld sh o cd pl ka kb kc, D, E))) rfl trivial ?_
    refine z_Ev_else (nI_pos (by omega)) ?_
    refine z_Ev_blk 3 (c' := ((if (60 : Int32) ≤ (nI j) then 99 else 72), [some (aR 0 19), some (aI x), some (aI (nI j))], [], (cm n t v ld sh o cd pl ka kb kc, D, E))) rfl trivial ?_
    refine z_Ev_else (nI_ge (b := 60) hj (by decide)) ?_
    refine z_Ev_blk 3 (c' := (77, [some (aR 0 19), some (aI x), some (aI (nI j))], [aI x, aI (57 : Int32), aI (48 : Int32)], (cm n t v ld sh o cd pl ka kb kc, D, E))) rfl trivial ?_
    refine z_Ev_call0 (m' := m_X4_isFrom) (as := [aI (48 : Int32), aI (57 : Int32), aI x]) (r := []) ((by have q := e_isFrom (xs := xs) (L := L) (48 : Int32) (57 : Int32) x (cm n t v ld sh o cd pl ka kb kc) D E; rw [f_b_f (hx)] at q; exact q)) rfl rfl ?_
    refine z_Ev_blk 1 (c' := ((if (0 : Int32) = 0 then 99 else 83), [some (aR 0 19), some (aI x), some (aI (nI j))], [], (cm n t v ld sh o cd pl ka kb kc, D, E))) rfl trivial ?_
    refine z_Ev_if (by decide) ?_
    refine z_Ev_blk 1 (c' := (100, [some (aR 0 19), some (aI x), some (aI (nI j))], [aI (0 : Int32)], (cm n t v ld sh o cd pl ka kb kc, D, E))) rfl trivial ?_
    exact z_Ev_zretE rfl rfl (rfl) (by rfl) (by rfl)
theorem p_t8_d0 {xs : Nat → Int32} {L : Nat} (j : Nat) (x : Int32) (n t : Nat → Int32) (v : Nat → Nat → Int32) (ld sh o cd pl ka kb kc : Nat → Int32) (D : Nat → Nat → Int32) (E : Nat → Int64) (hj : j < 60) (e3 : pl 3 = nI (j + 1)) (e4 : pl 4 = 8) (hx : 48 ≤ x ∧ x ≤ 57)  : z_Mt xs L m_X2_takes [aR 0 19, aI x] (cm n t v ld sh o cd pl ka kb kc, D, E) (.inl (some (aI 0))) (cm n t v ld sh o cd pl ka kb kc, D, E) 0 := by
  refine z_Ev_blk 2 (c' := (4, [some (aR 0 19), some (aI x), none], [aI (pl 4)], (cm n t v ld sh o cd pl ka kb kc, D, E))) rfl trivial ?_
  rw [e4]
  refine z_Ev_blk 1 (c' := ((if (8 : Int32) = 0 then 7 else 13), [some (aR 0 19), some (aI x), none], [], (cm n t v ld sh o cd pl ka kb kc, D, E))) rfl trivial ?_
  refine z_Ev_else (by decide) ?_
  refine z_Ev_blk 3 (c' := ((if x = (59 : Int32) then 19 else 33), [some (aR 0 19), some (aI x), none], [], (cm n t v ld sh o cd pl ka kb kc, D, E))) rfl trivial ?_
  refine z_Ev_else ((fun z => by rw [z] at hx; exact absurd hx (by decide))) ?_
  refine z_Ev_blk 3 (c' := ((if x = (61 : Int32) then 39 else 55), [some (aR 0 19), some (aI x), none], [], (cm n t v ld sh o cd pl ka kb kc, D, E))) rfl trivial ?_
  refine z_Ev_else ((fun z => by rw [z] at hx; exact absurd hx (by decide))) ?_
  refine z_Ev_blk 2 (c' := (59, [some (aR 0 19), some (aI x), none], [aI (pl 3)], (cm n t v ld sh o cd pl ka kb kc, D, E))) rfl trivial ?_
  rw [e3]
  refine z_Ev_blk 2 (c' := (61, [some (aR 0 19), some (aI x), none], [aI ((nI (j + 1)) - (1 : Int32))], (cm n t v ld sh o cd pl ka kb kc, D, E))) rfl trivial ?_
  rw [nI_pred]
  refine z_Ev_blk 3 (c' := ((if (nI j) < 0 then 99 else 66), [some (aR 0 19), some (aI x), some (aI (nI j))], [], (cm n t v ld sh o cd pl ka kb kc, D, E))) rfl trivial ?_
  refine z_Ev_else (nI_pos (by omega)) ?_
  refine z_Ev_blk 3 (c' := ((if (60 : Int32) ≤ (nI j) then 99 else 72), [some (aR 0 19), some (aI x), some (aI (nI j))], [], (cm n t v ld sh o cd pl ka kb kc, D, E))) rfl trivial ?_
  refine z_Ev_else (nI_ge (b := 60) hj (by decide)) ?_
  refine z_Ev_blk 3 (c' := (77, [some (aR 0 19), some (aI x), some (aI (nI j))], [aI x, aI (57 : Int32), aI (48 : Int32)], (cm n t v ld sh o cd pl ka kb kc, D, E))) rfl trivial ?_
  refine z_Ev_call0 (m' := m_X4_isFrom) (as := [aI (48 : Int32), aI (57 : Int32), aI x]) (r := []) ((by have q := e_isFrom (xs := xs) (L := L) (48 : Int32) (57 : Int32) x (cm n t v ld sh o cd pl ka kb kc) D E; rw [f_b_t (hx)] at q; exact q)) rfl rfl ?_
  refine z_Ev_blk 1 (c' := ((if (1 : Int32) = 0 then 99 else 83), [some (aR 0 19), some (aI x), some (aI (nI j))], [], (cm n t v ld sh o cd pl ka kb kc, D, E))) rfl trivial ?_
  refine z_Ev_else (by decide) ?_
  refine z_Ev_blk 5 (c' := (89, [some (aR 0 19), some (aI x), some (aI (nI j))], [aI (x - (48 : Int32)), aI (nI j), aR 0 19], (cm n t v ld sh o cd pl ka kb kc, D, E))) rfl trivial ?_
  refine z_Ev_call0 (m' := m_X2_takesDigit) (as := [aR 0 19, aI (nI j), aI (x - (48 : Int32))]) (r := []) (p_digit_8_0 j (x - (48 : Int32)) n t v ld sh o cd pl ka kb kc D E hj e4) rfl rfl ?_
  refine z_Ev_blk 1 (c' := ((if (0 : Int32) = 0 then 99 else 95), [some (aR 0 19), some (aI x), some (aI (nI j))], [], (cm n t v ld sh o cd pl ka kb kc, D, E))) rfl trivial ?_
  refine z_Ev_if (by decide) ?_
  refine z_Ev_blk 1 (c' := (100, [some (aR 0 19), some (aI x), some (aI (nI j))], [aI (0 : Int32)], (cm n t v ld sh o cd pl ka kb kc, D, E))) rfl trivial ?_
  exact z_Ev_zretE rfl rfl (rfl) (by rfl) (by rfl)
theorem p_t0_43 {xs : Nat → Int32} {L : Nat} (j : Nat) (n t : Nat → Int32) (v : Nat → Nat → Int32) (ld sh o cd pl ka kb kc : Nat → Int32) (D : Nat → Nat → Int32) (E : Nat → Int64) (hj : j < 60) (e3 : pl 3 = nI j) (e4 : pl 4 = 0) : z_Mt xs L m_X2_takes [aR 0 19, aI 43] (cm n t v ld sh o cd pl ka kb kc, D, E) (.inl (some (aI 1))) (cm n t v ld sh o cd (upd (upd pl 4 1) 3 (nI (j + 1))) (upd ka j 43) (upd kb j 0) (upd kc j 0), D, E) 0 := by
  refine z_Ev_blk 3 (c' := ((if (pl 4) = 0 then 7 else 13), [some (aR 0 19), some (aI (43 : Int32)), none], [], (cm n t v ld sh o cd pl ka kb kc, D, E))) rfl trivial ?_
  refine z_Ev_if (e4) ?_
  refine z_Ev_blk 2 (c' := (9, [some (aR 0 19), some (aI (43 : Int32)), none], [aI (43 : Int32), aR 0 19], (cm n t v ld sh o cd pl ka kb kc, D, E))) rfl trivial ?_
  refine z_Ev_call0 (m' := m_X2_takesOrder) (as := [aR 0 19, aI (43 : Int32)]) (r := []) (p_order_43 j n t v ld sh o cd pl ka kb kc D E hj e3) rfl rfl ?_
  exact z_Ev_zretE rfl rfl (rfl) (by rfl) (by rfl)
theorem p_t0_45 {xs : Nat → Int32} {L : Nat} (j : Nat) (n t : Nat → Int32) (v : Nat → Nat → Int32) (ld sh o cd pl ka kb kc : Nat → Int32) (D : Nat → Nat → Int32) (E : Nat → Int64) (hj : j < 60) (e3 : pl 3 = nI j) (e4 : pl 4 = 0) : z_Mt xs L m_X2_takes [aR 0 19, aI 45] (cm n t v ld sh o cd pl ka kb kc, D, E) (.inl (some (aI 1))) (cm n t v ld sh o cd (upd (upd pl 4 1) 3 (nI (j + 1))) (upd ka j 45) (upd kb j 0) (upd kc j 0), D, E) 0 := by
  refine z_Ev_blk 3 (c' := ((if (pl 4) = 0 then 7 else 13), [some (aR 0 19), some (aI (45 : Int32)), none], [], (cm n t v ld sh o cd pl ka kb kc, D, E))) rfl trivial ?_
  refine z_Ev_if (e4) ?_
  refine z_Ev_blk 2 (c' := (9, [some (aR 0 19), some (aI (45 : Int32)), none], [aI (45 : Int32), aR 0 19], (cm n t v ld sh o cd pl ka kb kc, D, E))) rfl trivial ?_
  refine z_Ev_call0 (m' := m_X2_takesOrder) (as := [aR 0 19, aI (45 : Int32)]) (r := []) (p_order_45 j n t v ld sh o cd pl ka kb kc D E hj e3) rfl rfl ?_
  exact z_Ev_zretE rfl rfl (rfl) (by rfl) (by rfl)
theorem p_t0_115 {xs : Nat → Int32} {L : Nat} (j : Nat) (n t : Nat → Int32) (v : Nat → Nat → Int32) (ld sh o cd pl ka kb kc : Nat → Int32) (D : Nat → Nat → Int32) (E : Nat → Int64) (hj : j < 60) (e3 : pl 3 = nI j) (e4 : pl 4 = 0) : z_Mt xs L m_X2_takes [aR 0 19, aI 115] (cm n t v ld sh o cd pl ka kb kc, D, E) (.inl (some (aI 1))) (cm n t v ld sh o cd (upd (upd pl 4 8) 3 (nI (j + 1))) (upd ka j 115) (upd kb j 0) (upd kc j 0), D, E) 0 := by
  refine z_Ev_blk 3 (c' := ((if (pl 4) = 0 then 7 else 13), [some (aR 0 19), some (aI (115 : Int32)), none], [], (cm n t v ld sh o cd pl ka kb kc, D, E))) rfl trivial ?_
  refine z_Ev_if (e4) ?_
  refine z_Ev_blk 2 (c' := (9, [some (aR 0 19), some (aI (115 : Int32)), none], [aI (115 : Int32), aR 0 19], (cm n t v ld sh o cd pl ka kb kc, D, E))) rfl trivial ?_
  refine z_Ev_call0 (m' := m_X2_takesOrder) (as := [aR 0 19, aI (115 : Int32)]) (r := []) (p_order_115 j n t v ld sh o cd pl ka kb kc D E hj e3) rfl rfl ?_
  exact z_Ev_zretE rfl rfl (rfl) (by rfl) (by rfl)
theorem p_t0_104 {xs : Nat → Int32} {L : Nat} (j : Nat) (n t : Nat → Int32) (v : Nat → Nat → Int32) (ld sh o cd pl ka kb kc : Nat → Int32) (D : Nat → Nat → Int32) (E : Nat → Int64) (hj : j < 60) (e3 : pl 3 = nI j) (e4 : pl 4 = 0) : z_Mt xs L m_X2_takes [aR 0 19, aI 104] (cm n t v ld sh o cd pl ka kb kc, D, E) (.inl (some (aI 1))) (cm n t v ld sh o cd (upd (upd pl 4 2) 3 (nI (j + 1))) (upd ka j 104) (upd kb j 0) (upd kc j 0), D, E) 0 := by
  refine z_Ev_blk 3 (c' := ((if (pl 4) = 0 then 7 else 13), [some (aR 0 19), some (aI (104 : Int32)), none], [], (cm n t v ld sh o cd pl ka kb kc, D, E))) rfl trivial ?_
  refine z_Ev_if (e4) ?_
  refine z_Ev_blk 2 (c' := (9, [some (aR 0 19), some (aI (104 : Int32)), none], [aI (104 : Int32), aR 0 19], (cm n t v ld sh o cd pl ka kb kc, D, E))) rfl trivial ?_
  refine z_Ev_call0 (m' := m_X2_takesOrder) (as := [aR 0 19, aI (104 : Int32)]) (r := []) (p_order_104 j n t v ld sh o cd pl ka kb kc D E hj e3) rfl rfl ?_
  exact z_Ev_zretE rfl rfl (rfl) (by rfl) (by rfl)
theorem p_t0_102 {xs : Nat → Int32} {L : Nat} (j : Nat) (n t : Nat → Int32) (v : Nat → Nat → Int32) (ld sh o cd pl ka kb kc : Nat → Int32) (D : Nat → Nat → Int32) (E : Nat → Int64) (hj : j < 60) (e3 : pl 3 = nI j) (e4 : pl 4 = 0) : z_Mt xs L m_X2_takes [aR 0 19, aI 102] (cm n t v ld sh o cd pl ka kb kc, D, E) (.inl (some (aI 1))) (cm n t v ld sh o cd (upd (upd pl 4 4) 3 (nI (j + 1))) (upd ka j 102) (upd kb j 0) (upd kc j 0), D, E) 0 := by
  refine z_Ev_blk 3 (c' := ((if (pl 4) = 0 then 7 else 13), [some (aR 0 19), some (aI (102 : Int32)), none], [], (cm n t v ld sh o cd pl ka kb kc, D, E))) rfl trivial ?_
  refine z_Ev_if (e4) ?_
  refine z_Ev_blk 2 (c' := (9, [some (aR 0 19), some (aI (102 : Int32)), none], [aI (102 : Int32), aR 0 19], (cm n t v ld sh o cd pl ka kb kc, D, E))) rfl trivial ?_
  refine z_Ev_call0 (m' := m_X2_takesOrder) (as := [aR 0 19, aI (102 : Int32)]) (r := []) (p_order_102 j n t v ld sh o cd pl ka kb kc D E hj e3) rfl rfl ?_
  exact z_Ev_zretE rfl rfl (rfl) (by rfl) (by rfl)
theorem p_t0_x {xs : Nat → Int32} {L : Nat} (j : Nat) (x : Int32) (n t : Nat → Int32) (v : Nat → Nat → Int32) (ld sh o cd pl ka kb kc : Nat → Int32) (D : Nat → Nat → Int32) (E : Nat → Int64) (hj : j < 60) (e3 : pl 3 = nI j) (e4 : pl 4 = 0) (q1 : x ≠ 43) (q2 : x ≠ 45) (q3 : x ≠ 102) (q4 : x ≠ 104) (q5 : x ≠ 115) : z_Mt xs L m_X2_takes [aR 0 19, aI x] (cm n t v ld sh o cd pl ka kb kc, D, E) (.inl (some (aI 0))) (cm n t v ld sh o cd pl ka kb kc, D, E) 0 := by
  refine z_Ev_blk 3 (c' := ((if (pl 4) = 0 then 7 else 13), [some (aR 0 19), some (aI x), none], [], (cm n t v ld sh o cd pl ka kb kc, D, E))) rfl trivial ?_
  refine z_Ev_if (e4) ?_
  refine z_Ev_blk 2 (c' := (9, [some (aR 0 19), some (aI x), none], [aI x, aR 0 19], (cm n t v ld sh o cd pl ka kb kc, D, E))) rfl trivial ?_
  refine z_Ev_call0 (m' := m_X2_takesOrder) (as := [aR 0 19, aI x]) (r := []) (p_order_x j x n t v ld sh o cd pl ka kb kc D E hj e3 q1 q2 q3 q4 q5) rfl rfl ?_
  exact z_Ev_zretE rfl rfl (rfl) (by rfl) (by rfl)
