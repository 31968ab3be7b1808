/-! THE MODEL: an order is read -/
theorem or_43 {xs : Nat → Int32} {L : Nat} (p c : Nat) (y : Int32) (OB : Nat → Int32) (C : Nat → Nat → Nat → Int32) (s a v t ld ob : Nat → Int32) (E : Nat → Int64) (h6 : ob 6 = nI c) (h13 : ob 13 = nI p) (hc : c ≤ 60) (h14 : ob 14 = 0) (hp : p < c) (hx : t p = 43) (hS : z_Mt xs L m_X5_sign [aR 0 32, aI 48, aI 51] (C, dm s a v t ld (upd (upd (upd ob 14 0) 13 (nI (p + 1))) 15 43), E) (.inl (some (aI y))) (C, dm s a v t ld OB, E) 0)  : z_Mt xs L m_X5_order [aR 0 32] (C, dm s a v t ld ob, E) (.inl none) (C, dm s a v t ld (upd (upd OB 16 (y - 48)) 17 0), E) 0 := by
  refine z_Ev_blk 2 (c' := (4, [some (aR 0 32), none, none], [aI (ob 13)], (C, dm s a v t ld ob, E))) rfl trivial ?_
  rw [h13]
  refine z_Ev_blk 2 (c' := (8, [some (aR 0 32), none, none], [aI (ob 6), aI (nI p)], (C, dm s a v t ld ob, E))) rfl trivial ?_
  rw [h6]
  refine z_Ev_blk 1 (c' := ((if (nI c) ≤ (nI p) then 23 else 11), [some (aR 0 32), none, none], [], (C, dm s a v t ld ob, E))) rfl trivial ?_
  refine z_Ev_else (nI_ge hp (by omega)) ?_
  refine z_Ev_blk 4 (c' := (19, [some (aR 0 32), none, none], [aI (ob 13), aR 0 36], (C, dm s a v t ld ob, E))) rfl trivial ?_
  rw [h13]
  refine z_Ev_blk 1 (c' := (20, [some (aR 0 32), none, none], [aI (t ((nI p).toNatClampNeg))], (C, dm s a v t ld ob, E))) rfl ⟨(inb_nI (show p < 60 by omega) (by decide)), trivial⟩ ?_
  rw [nI_clamp (show p < 2 ^ 31 by omega)]
  rw [hx]
  refine z_Ev_blk 5 (c' := (30, [some (aR 0 32), some (aI (43 : Int32)), none], [aI (ob 14), aR 0 32], (C, dm s a v t ld ob, E))) rfl trivial ?_
  rw [h14]
  refine z_Ev_blk 1 (c' := ((if (0 : Int32) = 0 then 33 else 63), [some (aR 0 32), some (aI (43 : Int32)), none], [aR 0 32], (C, dm s a v t ld ob, E))) rfl trivial ?_
  refine z_Ev_if (by decide) ?_
  refine z_Ev_blk 3 (c' := ((if (43 : Int32) = (43 : Int32) then 67 else 39), [some (aR 0 32), some (aI (43 : Int32)), none], [aR 0 32], (C, dm s a v t ld ob, E))) rfl trivial ?_
  refine z_Ev_if (by decide) ?_
  refine z_Ev_blk 2 (c' := (71, [some (aR 0 32), some (aI (43 : Int32)), none], [], (C, up2 (dm s a v t ld ob) 32 14 (0 : Int32), E))) rfl ⟨rfl, trivial⟩ ?_
  rw [dm_32]
  refine z_Ev_blk 3 (c' := (76, [some (aR 0 32), some (aI (43 : Int32)), none], [aI (ob 13), aR 0 32], (C, dm s a v t ld (upd ob 14 (0 : Int32)), E))) rfl trivial ?_
  rw [h13]
  refine z_Ev_blk 3 (c' := ((if (0 : Int32) = 0 then 87 else 83), [some (aR 0 32), some (aI (43 : Int32)), none], [aI (nI p), aR 0 32], (C, dm s a v t ld (upd ob 14 (0 : Int32)), E))) rfl trivial ?_
  refine z_Ev_if (by decide) ?_
  refine z_Ev_blk 2 (c' := (89, [some (aR 0 32), some (aI (43 : Int32)), none], [aI ((nI p) + (1 : Int32)), aR 0 32], (C, dm s a v t ld (upd ob 14 (0 : Int32)), E))) rfl trivial ?_
  rw [nI_1]
  refine z_Ev_blk 1 (c' := (92, [some (aR 0 32), some (aI (43 : Int32)), none], [], (C, up2 (dm s a v t ld (upd ob 14 (0 : Int32))) 32 13 (nI (p + 1)), E))) rfl trivial ?_
  rw [dm_32]
  refine z_Ev_blk 3 (c' := (97, [some (aR 0 32), some (aI (43 : Int32)), none], [], (C, up2 (dm s a v t ld (upd (upd ob 14 (0 : Int32)) 13 (nI (p + 1)))) 32 15 (43 : Int32), E))) rfl trivial ?_
  rw [dm_32]
  refine z_Ev_blk 4 (c' := ((if (43 : Int32) = (115 : Int32) then 104 else 108), [some (aR 0 32), some (aI (43 : Int32)), none], [aR 0 32], (C, dm s a v t ld (upd (upd (upd ob 14 (0 : Int32)) 13 (nI (p + 1))) 15 (43 : Int32)), E))) rfl trivial ?_
  refine z_Ev_else (by decide) ?_
  refine z_Ev_blk 3 (c' := ((if (43 : Int32) = (104 : Int32) then 114 else 124), [some (aR 0 32), some (aI (43 : Int32)), none], [aR 0 32], (C, dm s a v t ld (upd (upd (upd ob 14 (0 : Int32)) 13 (nI (p + 1))) 15 (43 : Int32)), E))) rfl trivial ?_
  refine z_Ev_else (by decide) ?_
  refine z_Ev_blk 3 (c' := ((if (43 : Int32) = (102 : Int32) then 130 else 140), [some (aR 0 32), some (aI (43 : Int32)), none], [aR 0 32], (C, dm s a v t ld (upd (upd (upd ob 14 (0 : Int32)) 13 (nI (p + 1))) 15 (43 : Int32)), E))) rfl trivial ?_
  refine z_Ev_else (by decide) ?_
  refine z_Ev_blk 3 (c' := (145, [some (aR 0 32), some (aI (43 : Int32)), none], [aI (51 : Int32), aI (48 : Int32), aR 0 32, aR 0 32], (C, dm s a v t ld (upd (upd (upd ob 14 (0 : Int32)) 13 (nI (p + 1))) 15 (43 : Int32)), E))) rfl trivial ?_
  refine z_Ev_call0 (m' := m_X5_sign) (as := [aR 0 32, aI (48 : Int32), aI (51 : Int32)]) (r := [aR 0 32]) (hS) rfl rfl ?_
  refine z_Ev_blk 3 (c' := (154, [some (aR 0 32), some (aI (43 : Int32)), none], [], (C, up2 (dm s a v t ld OB) 32 16 (y - (48 : Int32)), E))) rfl trivial ?_
  rw [dm_32]
  refine z_Ev_blk 3 (c' := ((if (43 : Int32) = (102 : Int32) then 160 else 171), [some (aR 0 32), some (aI (43 : Int32)), none], [], (C, dm s a v t ld (upd OB 16 (y - (48 : Int32))), E))) rfl trivial ?_
  refine z_Ev_else (by decide) ?_
  refine z_Ev_blk 6 (c' := ((if (43 : Int32) = (102 : Int32) then 180 else 191), [some (aR 0 32), some (aI (43 : Int32)), some (aI (0 : Int32))], [aR 0 32], (C, dm s a v t ld (upd OB 16 (y - (48 : Int32))), E))) rfl trivial ?_
  refine z_Ev_else (by decide) ?_
  refine z_Ev_blk 2 (c' := (195, [some (aR 0 32), some (aI (43 : Int32)), some (aI (0 : Int32))], [], (C, up2 (dm s a v t ld (upd OB 16 (y - (48 : Int32)))) 32 17 (0 : Int32), E))) rfl trivial ?_
  rw [dm_32]
  exact z_Ev_vretE rfl rfl (by rfl)
theorem or_45 {xs : Nat → Int32} {L : Nat} (p c : Nat) (y : Int32) (OB : Nat → Int32) (C : Nat → Nat → Nat → Int32) (s a v t ld ob : Nat → Int32) (E : Nat → Int64) (h6 : ob 6 = nI c) (h13 : ob 13 = nI p) (hc : c ≤ 60) (h14 : ob 14 = 0) (hp : p < c) (hx : t p = 45) (hS : z_Mt xs L m_X5_sign [aR 0 32, aI 48, aI 51] (C, dm s a v t ld (upd (upd (upd ob 14 0) 13 (nI (p + 1))) 15 45), E) (.inl (some (aI y))) (C, dm s a v t ld OB, E) 0)  : z_Mt xs L m_X5_order [aR 0 32] (C, dm s a v t ld ob, E) (.inl none) (C, dm s a v t ld (upd (upd OB 16 (y - 48)) 17 0), E) 0 := by
  refine z_Ev_blk 2 (c' := (4, [some (aR 0 32), none, none], [aI (ob 13)], (C, dm s a v t ld ob, E))) rfl trivial ?_
  rw [h13]
  refine z_Ev_blk 2 (c' := (8, [some (aR 0 32), none, none], [aI (ob 6), aI (nI p)], (C, dm s a v t ld ob, E))) rfl trivial ?_
  rw [h6]
  refine z_Ev_blk 1 (c' := ((if (nI c) ≤ (nI p) then 23 else 11), [some (aR 0 32), none, none], [], (C, dm s a v t ld ob, E))) rfl trivial ?_
  refine z_Ev_else (nI_ge hp (by omega)) ?_
  refine z_Ev_blk 4 (c' := (19, [some (aR 0 32), none, none], [aI (ob 13), aR 0 36], (C, dm s a v t ld ob, E))) rfl trivial ?_
  rw [h13]
  refine z_Ev_blk 1 (c' := (20, [some (aR 0 32), none, none], [aI (t ((nI p).toNatClampNeg))], (C, dm s a v t ld ob, E))) rfl ⟨(inb_nI (show p < 60 by omega) (by decide)), trivial⟩ ?_
  rw [nI_clamp (show p < 2 ^ 31 by omega)]
  rw [hx]
  refine z_Ev_blk 5 (c' := (30, [some (aR 0 32), some (aI (45 : Int32)), none], [aI (ob 14), aR 0 32], (C, dm s a v t ld ob, E))) rfl trivial ?_
  rw [h14]
  refine z_Ev_blk 1 (c' := ((if (0 : Int32) = 0 then 33 else 63), [some (aR 0 32), some (aI (45 : Int32)), none], [aR 0 32], (C, dm s a v t ld ob, E))) rfl trivial ?_
  refine z_Ev_if (by decide) ?_
  refine z_Ev_blk 3 (c' := ((if (45 : Int32) = (43 : Int32) then 67 else 39), [some (aR 0 32), some (aI (45 : Int32)), none], [aR 0 32], (C, dm s a v t ld ob, E))) rfl trivial ?_
  refine z_Ev_else (by decide) ?_
  refine z_Ev_blk 3 (c' := ((if (45 : Int32) = (45 : Int32) then 67 else 45), [some (aR 0 32), some (aI (45 : Int32)), none], [aR 0 32], (C, dm s a v t ld ob, E))) rfl trivial ?_
  refine z_Ev_if (by decide) ?_
  refine z_Ev_blk 2 (c' := (71, [some (aR 0 32), some (aI (45 : Int32)), none], [], (C, up2 (dm s a v t ld ob) 32 14 (0 : Int32), E))) rfl ⟨rfl, trivial⟩ ?_
  rw [dm_32]
  refine z_Ev_blk 3 (c' := (76, [some (aR 0 32), some (aI (45 : Int32)), none], [aI (ob 13), aR 0 32], (C, dm s a v t ld (upd ob 14 (0 : Int32)), E))) rfl trivial ?_
  rw [h13]
  refine z_Ev_blk 3 (c' := ((if (0 : Int32) = 0 then 87 else 83), [some (aR 0 32), some (aI (45 : Int32)), none], [aI (nI p), aR 0 32], (C, dm s a v t ld (upd ob 14 (0 : Int32)), E))) rfl trivial ?_
  refine z_Ev_if (by decide) ?_
  refine z_Ev_blk 2 (c' := (89, [some (aR 0 32), some (aI (45 : Int32)), none], [aI ((nI p) + (1 : Int32)), aR 0 32], (C, dm s a v t ld (upd ob 14 (0 : Int32)), E))) rfl trivial ?_
  rw [nI_1]
  refine z_Ev_blk 1 (c' := (92, [some (aR 0 32), some (aI (45 : Int32)), none], [], (C, up2 (dm s a v t ld (upd ob 14 (0 : Int32))) 32 13 (nI (p + 1)), E))) rfl trivial ?_
  rw [dm_32]
  refine z_Ev_blk 3 (c' := (97, [some (aR 0 32), some (aI (45 : Int32)), none], [], (C, up2 (dm s a v t ld (upd (upd ob 14 (0 : Int32)) 13 (nI (p + 1)))) 32 15 (45 : Int32), E))) rfl trivial ?_
  rw [dm_32]
  refine z_Ev_blk 4 (c' := ((if (45 : Int32) = (115 : Int32) then 104 else 108), [some (aR 0 32), some (aI (45 : Int32)), none], [aR 0 32], (C, dm s a v t ld (upd (upd (upd ob 14 (0 : Int32)) 13 (nI (p + 1))) 15 (45 : Int32)), E))) rfl trivial ?_
  refine z_Ev_else (by decide) ?_
  refine z_Ev_blk 3 (c' := ((if (45 : Int32) = (104 : Int32) then 114 else 124), [some (aR 0 32), some (aI (45 : Int32)), none], [aR 0 32], (C, dm s a v t ld (upd (upd (upd ob 14 (0 : Int32)) 13 (nI (p + 1))) 15 (45 : Int32)), E))) rfl trivial ?_
  refine z_Ev_else (by decide) ?_
  refine z_Ev_blk 3 (c' := ((if (45 : Int32) = (102 : Int32) then 130 else 140), [some (aR 0 32), some (aI (45 : Int32)), none], [aR 0 32], (C, dm s a v t ld (upd (upd (upd ob 14 (0 : Int32)) 13 (nI (p + 1))) 15 (45 : Int32)), E))) rfl trivial ?_
  refine z_Ev_else (by decide) ?_
  refine z_Ev_blk 3 (c' := (145, [some (aR 0 32), some (aI (45 : Int32)), none], [aI (51 : Int32), aI (48 : Int32), aR 0 32, aR 0 32], (C, dm s a v t ld (upd (upd (upd ob 14 (0 : Int32)) 13 (nI (p + 1))) 15 (45 : Int32)), E))) rfl trivial ?_
  refine z_Ev_call0 (m' := m_X5_sign) (as := [aR 0 32, aI (48 : Int32), aI (51 : Int32)]) (r := [aR 0 32]) (hS) rfl rfl ?_
  refine z_Ev_blk 3 (c' := (154, [some (aR 0 32), some (aI (45 : Int32)), none], [], (C, up2 (dm s a v t ld OB) 32 16 (y - (48 : Int32)), E))) rfl trivial ?_
  rw [dm_32]
  refine z_Ev_blk 3 (c' := ((if (45 : Int32) = (102 : Int32) then 160 else 171), [some (aR 0 32), some (aI (45 : Int32)), none], [], (C, dm s a v t ld (upd OB 16 (y - (48 : Int32))), E))) rfl trivial ?_
  refine z_Ev_else (by decide) ?_
  refine z_Ev_blk 6 (c' := ((if (45 : Int32) = (102 : Int32) then 180 else 191), [some (aR 0 32), some (aI (45 : Int32)), some (aI (0 : Int32))], [aR 0 32], (C, dm s a v t ld (upd OB 16 (y - (48 : Int32))), E))) rfl trivial ?_
  refine z_Ev_else (by decide) ?_
  refine z_Ev_blk 2 (c' := (195, [some (aR 0 32), some (aI (45 : Int32)), some (aI (0 : Int32))], [], (C, up2 (dm s a v t ld (upd OB 16 (y - (48 : Int32)))) 32 17 (0 : Int32), E))) rfl trivial ?_
  rw [dm_32]
  exact z_Ev_vretE rfl rfl (by rfl)
theorem or_115 {xs : Nat → Int32} {L : Nat} (p c : Nat)  (C : Nat → Nat → Nat → Int32) (s a v t ld ob : Nat → Int32) (E : Nat → Int64) (h6 : ob 6 = nI c) (h13 : ob 13 = nI p) (hc : c ≤ 60) (h14 : ob 14 = 0) (hp : p < c) (hx : t p = 115) : z_Mt xs L m_X5_order [aR 0 32] (C, dm s a v t ld ob, E) (.inl none) (C, dm s a v t ld (upd (upd (upd (upd (upd ob 14 0) 13 (nI (p + 1))) 15 115) 16 0) 17 0), E) 0 := by
  refine z_Ev_blk 2 (c' := (4, [some (aR 0 32), none, none], [aI (ob 13)], (C, dm s a v t ld ob, E))) rfl trivial ?_
  rw [h13]
  refine z_Ev_blk 2 (c' := (8, [some (aR 0 32), none, none], [aI (ob 6), aI (nI p)], (C, dm s a v t ld ob, E))) rfl trivial ?_
  rw [h6]
  refine z_Ev_blk 1 (c' := ((if (nI c) ≤ (nI p) then 23 else 11), [some (aR 0 32), none, none], [], (C, dm s a v t ld ob, E))) rfl trivial ?_
  refine z_Ev_else (nI_ge hp (by omega)) ?_
  refine z_Ev_blk 4 (c' := (19, [some (aR 0 32), none, none], [aI (ob 13), aR 0 36], (C, dm s a v t ld ob, E))) rfl trivial ?_
  rw [h13]
  refine z_Ev_blk 1 (c' := (20, [some (aR 0 32), none, none], [aI (t ((nI p).toNatClampNeg))], (C, dm s a v t ld ob, E))) rfl ⟨(inb_nI (show p < 60 by omega) (by decide)), trivial⟩ ?_
  rw [nI_clamp (show p < 2 ^ 31 by omega)]
  rw [hx]
  refine z_Ev_blk 5 (c' := (30, [some (aR 0 32), some (aI (115 : Int32)), none], [aI (ob 14), aR 0 32], (C, dm s a v t ld ob, E))) rfl trivial ?_
  rw [h14]
  refine z_Ev_blk 1 (c' := ((if (0 : Int32) = 0 then 33 else 63), [some (aR 0 32), some (aI (115 : Int32)), none], [aR 0 32], (C, dm s a v t ld ob, E))) rfl trivial ?_
  refine z_Ev_if (by decide) ?_
  refine z_Ev_blk 3 (c' := ((if (115 : Int32) = (43 : Int32) then 67 else 39), [some (aR 0 32), some (aI (115 : Int32)), none], [aR 0 32], (C, dm s a v t ld ob, E))) rfl trivial ?_
  refine z_Ev_else (by decide) ?_
  refine z_Ev_blk 3 (c' := ((if (115 : Int32) = (45 : Int32) then 67 else 45), [some (aR 0 32), some (aI (115 : Int32)), none], [aR 0 32], (C, dm s a v t ld ob, E))) rfl trivial ?_
  refine z_Ev_else (by decide) ?_
  refine z_Ev_blk 3 (c' := ((if (115 : Int32) = (115 : Int32) then 67 else 51), [some (aR 0 32), some (aI (115 : Int32)), none], [aR 0 32], (C, dm s a v t ld ob, E))) rfl trivial ?_
  refine z_Ev_if (by decide) ?_
  refine z_Ev_blk 2 (c' := (71, [some (aR 0 32), some (aI (115 : Int32)), none], [], (C, up2 (dm s a v t ld ob) 32 14 (0 : Int32), E))) rfl ⟨rfl, trivial⟩ ?_
  rw [dm_32]
  refine z_Ev_blk 3 (c' := (76, [some (aR 0 32), some (aI (115 : Int32)), none], [aI (ob 13), aR 0 32], (C, dm s a v t ld (upd ob 14 (0 : Int32)), E))) rfl trivial ?_
  rw [h13]
  refine z_Ev_blk 3 (c' := ((if (0 : Int32) = 0 then 87 else 83), [some (aR 0 32), some (aI (115 : Int32)), none], [aI (nI p), aR 0 32], (C, dm s a v t ld (upd ob 14 (0 : Int32)), E))) rfl trivial ?_
  refine z_Ev_if (by decide) ?_
  refine z_Ev_blk 2 (c' := (89, [some (aR 0 32), some (aI (115 : Int32)), none], [aI ((nI p) + (1 : Int32)), aR 0 32], (C, dm s a v t ld (upd ob 14 (0 : Int32)), E))) rfl trivial ?_
  rw [nI_1]
  refine z_Ev_blk 1 (c' := (92, [some (aR 0 32), some (aI (115 : Int32)), none], [], (C, up2 (dm s a v t ld (upd ob 14 (0 : Int32))) 32 13 (nI (p + 1)), E))) rfl trivial ?_
  rw [dm_32]
  refine z_Ev_blk 3 (c' := (97, [some (aR 0 32), some (aI (115 : Int32)), none], [], (C, up2 (dm s a v t ld (upd (upd ob 14 (0 : Int32)) 13 (nI (p + 1)))) 32 15 (115 : Int32), E))) rfl trivial ?_
  rw [dm_32]
  refine z_Ev_blk 4 (c' := ((if (115 : Int32) = (115 : Int32) then 104 else 108), [some (aR 0 32), some (aI (115 : Int32)), none], [aR 0 32], (C, dm s a v t ld (upd (upd (upd ob 14 (0 : Int32)) 13 (nI (p + 1))) 15 (115 : Int32)), E))) rfl trivial ?_
  refine z_Ev_if (by decide) ?_
  refine z_Ev_blk 3 (c' := (154, [some (aR 0 32), some (aI (115 : Int32)), none], [], (C, up2 (dm s a v t ld (upd (upd (upd ob 14 (0 : Int32)) 13 (nI (p + 1))) 15 (115 : Int32))) 32 16 (0 : Int32), E))) rfl trivial ?_
  rw [dm_32]
  refine z_Ev_blk 3 (c' := ((if (115 : Int32) = (102 : Int32) then 160 else 171), [some (aR 0 32), some (aI (115 : Int32)), none], [], (C, dm s a v t ld (upd (upd (upd (upd ob 14 (0 : Int32)) 13 (nI (p + 1))) 15 (115 : Int32)) 16 (0 : Int32)), E))) rfl trivial ?_
  refine z_Ev_else (by decide) ?_
  refine z_Ev_blk 6 (c' := ((if (115 : Int32) = (102 : Int32) then 180 else 191), [some (aR 0 32), some (aI (115 : Int32)), some (aI (0 : Int32))], [aR 0 32], (C, dm s a v t ld (upd (upd (upd (upd ob 14 (0 : Int32)) 13 (nI (p + 1))) 15 (115 : Int32)) 16 (0 : Int32)), E))) rfl trivial ?_
  refine z_Ev_else (by decide) ?_
  refine z_Ev_blk 2 (c' := (195, [some (aR 0 32), some (aI (115 : Int32)), some (aI (0 : Int32))], [], (C, up2 (dm s a v t ld (upd (upd (upd (upd ob 14 (0 : Int32)) 13 (nI (p + 1))) 15 (115 : Int32)) 16 (0 : Int32))) 32 17 (0 : Int32), E))) rfl trivial ?_
  rw [dm_32]
  exact z_Ev_vretE rfl rfl (by rfl)
theorem or_104 {xs : Nat → Int32} {L : Nat} (p c : Nat) (y : Int32) (OB : Nat → Int32) (C : Nat → Nat → Nat → Int32) (s a v t ld ob : Nat → Int32) (E : Nat → Int64) (h6 : ob 6 = nI c) (h13 : ob 13 = nI p) (hc : c ≤ 60) (h14 : ob 14 = 0) (hp : p < c) (hx : t p = 104) (hN : z_Mt xs L m_X5_number [aR 0 32, aI 1, aI 48] (C, dm s a v t ld (upd (upd (upd ob 14 0) 13 (nI (p + 1))) 15 104), E) (.inl (some (aI y))) (C, dm s a v t ld OB, E) 0)  : z_Mt xs L m_X5_order [aR 0 32] (C, dm s a v t ld ob, E) (.inl none) (C, dm s a v t ld (upd (upd OB 16 y) 17 0), E) 0 := by
  refine z_Ev_blk 2 (c' := (4, [some (aR 0 32), none, none], [aI (ob 13)], (C, dm s a v t ld ob, E))) rfl trivial ?_
  rw [h13]
  refine z_Ev_blk 2 (c' := (8, [some (aR 0 32), none, none], [aI (ob 6), aI (nI p)], (C, dm s a v t ld ob, E))) rfl trivial ?_
  rw [h6]
  refine z_Ev_blk 1 (c' := ((if (nI c) ≤ (nI p) then 23 else 11), [some (aR 0 32), none, none], [], (C, dm s a v t ld ob, E))) rfl trivial ?_
  refine z_Ev_else (nI_ge hp (by omega)) ?_
  refine z_Ev_blk 4 (c' := (19, [some (aR 0 32), none, none], [aI (ob 13), aR 0 36], (C, dm s a v t ld ob, E))) rfl trivial ?_
  rw [h13]
  refine z_Ev_blk 1 (c' := (20, [some (aR 0 32), none, none], [aI (t ((nI p).toNatClampNeg))], (C, dm s a v t ld ob, E))) rfl ⟨(inb_nI (show p < 60 by omega) (by decide)), trivial⟩ ?_
  rw [nI_clamp (show p < 2 ^ 31 by omega)]
  rw [hx]
  refine z_Ev_blk 5 (c' := (30, [some (aR 0 32), some (aI (104 : Int32)), none], [aI (ob 14), aR 0 32], (C, dm s a v t ld ob, E))) rfl trivial ?_
  rw [h14]
  refine z_Ev_blk 1 (c' := ((if (0 : Int32) = 0 then 33 else 63), [some (aR 0 32), some (aI (104 : Int32)), none], [aR 0 32], (C, dm s a v t ld ob, E))) rfl trivial ?_
  refine z_Ev_if (by decide) ?_
  refine z_Ev_blk 3 (c' := ((if (104 : Int32) = (43 : Int32) then 67 else 39), [some (aR 0 32), some (aI (104 : Int32)), none], [aR 0 32], (C, dm s a v t ld ob, E))) rfl trivial ?_
  refine z_Ev_else (by decide) ?_
  refine z_Ev_blk 3 (c' := ((if (104 : Int32) = (45 : Int32) then 67 else 45), [some (aR 0 32), some (aI (104 : Int32)), none], [aR 0 32], (C, dm s a v t ld ob, E))) rfl trivial ?_
  refine z_Ev_else (by decide) ?_
  refine z_Ev_blk 3 (c' := ((if (104 : Int32) = (115 : Int32) then 67 else 51), [some (aR 0 32), some (aI (104 : Int32)), none], [aR 0 32], (C, dm s a v t ld ob, E))) rfl trivial ?_
  refine z_Ev_else (by decide) ?_
  refine z_Ev_blk 3 (c' := ((if (104 : Int32) = (104 : Int32) then 67 else 57), [some (aR 0 32), some (aI (104 : Int32)), none], [aR 0 32], (C, dm s a v t ld ob, E))) rfl trivial ?_
  refine z_Ev_if (by decide) ?_
  refine z_Ev_blk 2 (c' := (71, [some (aR 0 32), some (aI (104 : Int32)), none], [], (C, up2 (dm s a v t ld ob) 32 14 (0 : Int32), E))) rfl ⟨rfl, trivial⟩ ?_
  rw [dm_32]
  refine z_Ev_blk 3 (c' := (76, [some (aR 0 32), some (aI (104 : Int32)), none], [aI (ob 13), aR 0 32], (C, dm s a v t ld (upd ob 14 (0 : Int32)), E))) rfl trivial ?_
  rw [h13]
  refine z_Ev_blk 3 (c' := ((if (0 : Int32) = 0 then 87 else 83), [some (aR 0 32), some (aI (104 : Int32)), none], [aI (nI p), aR 0 32], (C, dm s a v t ld (upd ob 14 (0 : Int32)), E))) rfl trivial ?_
  refine z_Ev_if (by decide) ?_
  refine z_Ev_blk 2 (c' := (89, [some (aR 0 32), some (aI (104 : Int32)), none], [aI ((nI p) + (1 : Int32)), aR 0 32], (C, dm s a v t ld (upd ob 14 (0 : Int32)), E))) rfl trivial ?_
  rw [nI_1]
  refine z_Ev_blk 1 (c' := (92, [some (aR 0 32), some (aI (104 : Int32)), none], [], (C, up2 (dm s a v t ld (upd ob 14 (0 : Int32))) 32 13 (nI (p + 1)), E))) rfl trivial ?_
  rw [dm_32]
  refine z_Ev_blk 3 (c' := (97, [some (aR 0 32), some (aI (104 : Int32)), none], [], (C, up2 (dm s a v t ld (upd (upd ob 14 (0 : Int32)) 13 (nI (p + 1)))) 32 15 (104 : Int32), E))) rfl trivial ?_
  rw [dm_32]
  refine z_Ev_blk 4 (c' := ((if (104 : Int32) = (115 : Int32) then 104 else 108), [some (aR 0 32), some (aI (104 : Int32)), none], [aR 0 32], (C, dm s a v t ld (upd (upd (upd ob 14 (0 : Int32)) 13 (nI (p + 1))) 15 (104 : Int32)), E))) rfl trivial ?_
  refine z_Ev_else (by decide) ?_
  refine z_Ev_blk 3 (c' := ((if (104 : Int32) = (104 : Int32) then 114 else 124), [some (aR 0 32), some (aI (104 : Int32)), none], [aR 0 32], (C, dm s a v t ld (upd (upd (upd ob 14 (0 : Int32)) 13 (nI (p + 1))) 15 (104 : Int32)), E))) rfl trivial ?_
  refine z_Ev_if (by decide) ?_
  refine z_Ev_blk 3 (c' := (118, [some (aR 0 32), some (aI (104 : Int32)), none], [aI (48 : Int32), aI (1 : Int32), aR 0 32, aR 0 32], (C, dm s a v t ld (upd (upd (upd ob 14 (0 : Int32)) 13 (nI (p + 1))) 15 (104 : Int32)), E))) rfl trivial ?_
  refine z_Ev_call0 (m' := m_X5_number) (as := [aR 0 32, aI (1 : Int32), aI (48 : Int32)]) (r := [aR 0 32]) (hN) rfl rfl ?_
  refine z_Ev_blk 2 (c' := (154, [some (aR 0 32), some (aI (104 : Int32)), none], [], (C, up2 (dm s a v t ld OB) 32 16 y, E))) rfl trivial ?_
  rw [dm_32]
  refine z_Ev_blk 3 (c' := ((if (104 : Int32) = (102 : Int32) then 160 else 171), [some (aR 0 32), some (aI (104 : Int32)), none], [], (C, dm s a v t ld (upd OB 16 y), E))) rfl trivial ?_
  refine z_Ev_else (by decide) ?_
  refine z_Ev_blk 6 (c' := ((if (104 : Int32) = (102 : Int32) then 180 else 191), [some (aR 0 32), some (aI (104 : Int32)), some (aI (0 : Int32))], [aR 0 32], (C, dm s a v t ld (upd OB 16 y), E))) rfl trivial ?_
  refine z_Ev_else (by decide) ?_
  refine z_Ev_blk 2 (c' := (195, [some (aR 0 32), some (aI (104 : Int32)), some (aI (0 : Int32))], [], (C, up2 (dm s a v t ld (upd OB 16 y)) 32 17 (0 : Int32), E))) rfl trivial ?_
  rw [dm_32]
  exact z_Ev_vretE rfl rfl (by rfl)
theorem or_102 {xs : Nat → Int32} {L : Nat} (p c : Nat) (y y2 y3 : Int32) (OB OB2 OB3 : Nat → Int32) (C : Nat → Nat → Nat → Int32) (s a v t ld ob : Nat → Int32) (E : Nat → Int64) (h6 : ob 6 = nI c) (h13 : ob 13 = nI p) (hc : c ≤ 60) (h14 : ob 14 = 0) (hp : p < c) (hx : t p = 102) (hN : z_Mt xs L m_X5_number [aR 0 32, aI 0, aI 47] (C, dm s a v t ld (upd (upd (upd ob 14 0) 13 (nI (p + 1))) 15 102), E) (.inl (some (aI y))) (C, dm s a v t ld OB, E) 0) (hS : z_Mt xs L m_X5_sign [aR 0 32, aI 61, aI 61] (C, dm s a v t ld (upd OB 16 y), E) (.inl (some (aI y2))) (C, dm s a v t ld OB2, E) 0) (hN2 : z_Mt xs L m_X5_number [aR 0 32, aI 0, aI 1500] (C, dm s a v t ld OB2, E) (.inl (some (aI y3))) (C, dm s a v t ld OB3, E) 0)  : z_Mt xs L m_X5_order [aR 0 32] (C, dm s a v t ld ob, E) (.inl none) (C, dm s a v t ld (upd OB3 17 y3), E) 0 := by
  refine z_Ev_blk 2 (c' := (4, [some (aR 0 32), none, none], [aI (ob 13)], (C, dm s a v t ld ob, E))) rfl trivial ?_
  rw [h13]
  refine z_Ev_blk 2 (c' := (8, [some (aR 0 32), none, none], [aI (ob 6), aI (nI p)], (C, dm s a v t ld ob, E))) rfl trivial ?_
  rw [h6]
  refine z_Ev_blk 1 (c' := ((if (nI c) ≤ (nI p) then 23 else 11), [some (aR 0 32), none, none], [], (C, dm s a v t ld ob, E))) rfl trivial ?_
  refine z_Ev_else (nI_ge hp (by omega)) ?_
  refine z_Ev_blk 4 (c' := (19, [some (aR 0 32), none, none], [aI (ob 13), aR 0 36], (C, dm s a v t ld ob, E))) rfl trivial ?_
  rw [h13]
  refine z_Ev_blk 1 (c' := (20, [some (aR 0 32), none, none], [aI (t ((nI p).toNatClampNeg))], (C, dm s a v t ld ob, E))) rfl ⟨(inb_nI (show p < 60 by omega) (by decide)), trivial⟩ ?_
  rw [nI_clamp (show p < 2 ^ 31 by omega)]
  rw [hx]
  refine z_Ev_blk 5 (c' := (30, [some (aR 0 32), some (aI (102 : Int32)), none], [aI (ob 14), aR 0 32], (C, dm s a v t ld ob, E))) rfl trivial ?_
  rw [h14]
  refine z_Ev_blk 1 (c' := ((if (0 : Int32) = 0 then 33 else 63), [some (aR 0 32), some (aI (102 : Int32)), none], [aR 0 32], (C, dm s a v t ld ob, E))) rfl trivial ?_
  refine z_Ev_if (by decide) ?_
  refine z_Ev_blk 3 (c' := ((if (102 : Int32) = (43 : Int32) then 67 else 39), [some (aR 0 32), some (aI (102 : Int32)), none], [aR 0 32], (C, dm s a v t ld ob, E))) rfl trivial ?_
  refine z_Ev_else (by decide) ?_
  refine z_Ev_blk 3 (c' := ((if (102 : Int32) = (45 : Int32) then 67 else 45), [some (aR 0 32), some (aI (102 : Int32)), none], [aR 0 32], (C, dm s a v t ld ob, E))) rfl trivial ?_
  refine z_Ev_else (by decide) ?_
  refine z_Ev_blk 3 (c' := ((if (102 : Int32) = (115 : Int32) then 67 else 51), [some (aR 0 32), some (aI (102 : Int32)), none], [aR 0 32], (C, dm s a v t ld ob, E))) rfl trivial ?_
  refine z_Ev_else (by decide) ?_
  refine z_Ev_blk 3 (c' := ((if (102 : Int32) = (104 : Int32) then 67 else 57), [some (aR 0 32), some (aI (102 : Int32)), none], [aR 0 32], (C, dm s a v t ld ob, E))) rfl trivial ?_
  refine z_Ev_else (by decide) ?_
  refine z_Ev_blk 3 (c' := ((if (102 : Int32) = (102 : Int32) then 67 else 63), [some (aR 0 32), some (aI (102 : Int32)), none], [aR 0 32], (C, dm s a v t ld ob, E))) rfl trivial ?_
  refine z_Ev_if (by decide) ?_
  refine z_Ev_blk 2 (c' := (71, [some (aR 0 32), some (aI (102 : Int32)), none], [], (C, up2 (dm s a v t ld ob) 32 14 (0 : Int32), E))) rfl ⟨rfl, trivial⟩ ?_
  rw [dm_32]
  refine z_Ev_blk 3 (c' := (76, [some (aR 0 32), some (aI (102 : Int32)), none], [aI (ob 13), aR 0 32], (C, dm s a v t ld (upd ob 14 (0 : Int32)), E))) rfl trivial ?_
  rw [h13]
  refine z_Ev_blk 3 (c' := ((if (0 : Int32) = 0 then 87 else 83), [some (aR 0 32), some (aI (102 : Int32)), none], [aI (nI p), aR 0 32], (C, dm s a v t ld (upd ob 14 (0 : Int32)), E))) rfl trivial ?_
  refine z_Ev_if (by decide) ?_
  refine z_Ev_blk 2 (c' := (89, [some (aR 0 32), some (aI (102 : Int32)), none], [aI ((nI p) + (1 : Int32)), aR 0 32], (C, dm s a v t ld (upd ob 14 (0 : Int32)), E))) rfl trivial ?_
  rw [nI_1]
  refine z_Ev_blk 1 (c' := (92, [some (aR 0 32), some (aI (102 : Int32)), none], [], (C, up2 (dm s a v t ld (upd ob 14 (0 : Int32))) 32 13 (nI (p + 1)), E))) rfl trivial ?_
  rw [dm_32]
  refine z_Ev_blk 3 (c' := (97, [some (aR 0 32), some (aI (102 : Int32)), none], [], (C, up2 (dm s a v t ld (upd (upd ob 14 (0 : Int32)) 13 (nI (p + 1)))) 32 15 (102 : Int32), E))) rfl trivial ?_
  rw [dm_32]
  refine z_Ev_blk 4 (c' := ((if (102 : Int32) = (115 : Int32) then 104 else 108), [some (aR 0 32), some (aI (102 : Int32)), none], [aR 0 32], (C, dm s a v t ld (upd (upd (upd ob 14 (0 : Int32)) 13 (nI (p + 1))) 15 (102 : Int32)), E))) rfl trivial ?_
  refine z_Ev_else (by decide) ?_
  refine z_Ev_blk 3 (c' := ((if (102 : Int32) = (104 : Int32) then 114 else 124), [some (aR 0 32), some (aI (102 : Int32)), none], [aR 0 32], (C, dm s a v t ld (upd (upd (upd ob 14 (0 : Int32)) 13 (nI (p + 1))) 15 (102 : Int32)), E))) rfl trivial ?_
  refine z_Ev_else (by decide) ?_
  refine z_Ev_blk 3 (c' := ((if (102 : Int32) = (102 : Int32) then 130 else 140), [some (aR 0 32), some (aI (102 : Int32)), none], [aR 0 32], (C, dm s a v t ld (upd (upd (upd ob 14 (0 : Int32)) 13 (nI (p + 1))) 15 (102 : Int32)), E))) rfl trivial ?_
  refine z_Ev_if (by decide) ?_
  refine z_Ev_blk 3 (c' := (134, [some (aR 0 32), some (aI (102 : Int32)), none], [aI (47 : Int32), aI (0 : Int32), aR 0 32, aR 0 32], (C, dm s a v t ld (upd (upd (upd ob 14 (0 : Int32)) 13 (nI (p + 1))) 15 (102 : Int32)), E))) rfl trivial ?_
  refine z_Ev_call0 (m' := m_X5_number) (as := [aR 0 32, aI (0 : Int32), aI (47 : Int32)]) (r := [aR 0 32]) (hN) rfl rfl ?_
  refine z_Ev_blk 2 (c' := (154, [some (aR 0 32), some (aI (102 : Int32)), none], [], (C, up2 (dm s a v t ld OB) 32 16 y, E))) rfl trivial ?_
  rw [dm_32]
  refine z_Ev_blk 3 (c' := ((if (102 : Int32) = (102 : Int32) then 160 else 171), [some (aR 0 32), some (aI (102 : Int32)), none], [], (C, dm s a v t ld (upd OB 16 y), E))) rfl trivial ?_
  refine z_Ev_if (by decide) ?_
  refine z_Ev_blk 3 (c' := (165, [some (aR 0 32), some (aI (102 : Int32)), none], [aI (61 : Int32), aI (61 : Int32), aR 0 32], (C, dm s a v t ld (upd OB 16 y), E))) rfl trivial ?_
  refine z_Ev_call0 (m' := m_X5_sign) (as := [aR 0 32, aI (61 : Int32), aI (61 : Int32)]) (r := []) (hS) rfl rfl ?_
  refine z_Ev_blk 6 (c' := ((if (102 : Int32) = (102 : Int32) then 180 else 191), [some (aR 0 32), some (aI (102 : Int32)), some (aI y2)], [aR 0 32], (C, dm s a v t ld OB2, E))) rfl trivial ?_
  refine z_Ev_if (by decide) ?_
  refine z_Ev_blk 3 (c' := (185, [some (aR 0 32), some (aI (102 : Int32)), some (aI y2)], [aI (1500 : Int32), aI (0 : Int32), aR 0 32, aR 0 32], (C, dm s a v t ld OB2, E))) rfl trivial ?_
  refine z_Ev_call0 (m' := m_X5_number) (as := [aR 0 32, aI (0 : Int32), aI (1500 : Int32)]) (r := [aR 0 32]) (hN2) rfl rfl ?_
  refine z_Ev_blk 2 (c' := (195, [some (aR 0 32), some (aI (102 : Int32)), some (aI y2)], [], (C, up2 (dm s a v t ld OB3) 32 17 y3, E))) rfl trivial ?_
  rw [dm_32]
  exact z_Ev_vretE rfl rfl (by rfl)
theorem or_x {xs : Nat → Int32} {L : Nat} (p c : Nat) (y : Int32) (OB : Nat → Int32) (C : Nat → Nat → Nat → Int32) (s a v t ld ob : Nat → Int32) (E : Nat → Int64) (h6 : ob 6 = nI c) (h13 : ob 13 = nI p) (hc : c ≤ 60) (h14 : ob 14 = 0) (hp : p < c) (q43 : ¬ t p = 43) (q45 : ¬ t p = 45) (q115 : ¬ t p = 115) (q104 : ¬ t p = 104) (q102 : ¬ t p = 102) (hS : z_Mt xs L m_X5_sign [aR 0 32, aI 48, aI 51] (C, dm s a v t ld (upd (upd (upd ob 14 1) 13 (nI p)) 15 (t p)), E) (.inl (some (aI y))) (C, dm s a v t ld OB, E) 0)  : z_Mt xs L m_X5_order [aR 0 32] (C, dm s a v t ld ob, E) (.inl none) (C, dm s a v t ld (upd (upd OB 16 (y - 48)) 17 0), E) 0 := by
  refine z_Ev_blk 2 (c' := (4, [some (aR 0 32), none, none], [aI (ob 13)], (C, dm s a v t ld ob, E))) rfl trivial ?_
  rw [h13]
  refine z_Ev_blk 2 (c' := (8, [some (aR 0 32), none, none], [aI (ob 6), aI (nI p)], (C, dm s a v t ld ob, E))) rfl trivial ?_
  rw [h6]
  refine z_Ev_blk 1 (c' := ((if (nI c) ≤ (nI p) then 23 else 11), [some (aR 0 32), none, none], [], (C, dm s a v t ld ob, E))) rfl trivial ?_
  refine z_Ev_else (nI_ge hp (by omega)) ?_
  refine z_Ev_blk 4 (c' := (19, [some (aR 0 32), none, none], [aI (ob 13), aR 0 36], (C, dm s a v t ld ob, E))) rfl trivial ?_
  rw [h13]
  refine z_Ev_blk 1 (c' := (20, [some (aR 0 32), none, none], [aI (t ((nI p).toNatClampNeg))], (C, dm s a v t ld ob, E))) rfl ⟨(inb_nI (show p < 60 by omega) (by decide)), trivial⟩ ?_
  rw [nI_clamp (show p < 2 ^ 31 by omega)]
  refine z_Ev_blk 5 (c' := (30, [some (aR 0 32), some (aI (t p)), none], [aI (ob 14), aR 0 32], (C, dm s a v t ld ob, E))) rfl trivial ?_
  rw [h14]
  refine z_Ev_blk 1 (c' := ((if (0 : Int32) = 0 then 33 else 63), [some (aR 0 32), some (aI (t p)), none], [aR 0 32], (C, dm s a v t ld ob, E))) rfl trivial ?_
  refine z_Ev_if (by decide) ?_
  refine z_Ev_blk 3 (c' := ((if (t p) = (43 : Int32) then 67 else 39), [some (aR 0 32), some (aI (t p)), none], [aR 0 32], (C, dm s a v t ld ob, E))) rfl trivial ?_
  refine z_Ev_else (q43) ?_
  refine z_Ev_blk 3 (c' := ((if (t p) = (45 : Int32) then 67 else 45), [some (aR 0 32), some (aI (t p)), none], [aR 0 32], (C, dm s a v t ld ob, E))) rfl trivial ?_
  refine z_Ev_else (q45) ?_
  refine z_Ev_blk 3 (c' := ((if (t p) = (115 : Int32) then 67 else 51), [some (aR 0 32), some (aI (t p)), none], [aR 0 32], (C, dm s a v t ld ob, E))) rfl trivial ?_
  refine z_Ev_else (q115) ?_
  refine z_Ev_blk 3 (c' := ((if (t p) = (104 : Int32) then 67 else 57), [some (aR 0 32), some (aI (t p)), none], [aR 0 32], (C, dm s a v t ld ob, E))) rfl trivial ?_
  refine z_Ev_else (q104) ?_
  refine z_Ev_blk 3 (c' := ((if (t p) = (102 : Int32) then 67 else 63), [some (aR 0 32), some (aI (t p)), none], [aR 0 32], (C, dm s a v t ld ob, E))) rfl trivial ?_
  refine z_Ev_else (q102) ?_
  refine z_Ev_blk 3 (c' := (71, [some (aR 0 32), some (aI (t p)), none], [], (C, up2 (dm s a v t ld ob) 32 14 (1 : Int32), E))) rfl ⟨rfl, trivial⟩ ?_
  rw [dm_32]
  refine z_Ev_blk 3 (c' := (76, [some (aR 0 32), some (aI (t p)), none], [aI (ob 13), aR 0 32], (C, dm s a v t ld (upd ob 14 (1 : Int32)), E))) rfl trivial ?_
  rw [h13]
  refine z_Ev_blk 3 (c' := ((if (1 : Int32) = 0 then 87 else 83), [some (aR 0 32), some (aI (t p)), none], [aI (nI p), aR 0 32], (C, dm s a v t ld (upd ob 14 (1 : Int32)), E))) rfl trivial ?_
  refine z_Ev_else (by decide) ?_
  refine z_Ev_blk 3 (c' := (89, [some (aR 0 32), some (aI (t p)), none], [aI ((nI p) + (0 : Int32)), aR 0 32], (C, dm s a v t ld (upd ob 14 (1 : Int32)), E))) rfl trivial ?_
  rw [Int32.add_zero]
  refine z_Ev_blk 1 (c' := (92, [some (aR 0 32), some (aI (t p)), none], [], (C, up2 (dm s a v t ld (upd ob 14 (1 : Int32))) 32 13 (nI p), E))) rfl trivial ?_
  rw [dm_32]
  refine z_Ev_blk 3 (c' := (97, [some (aR 0 32), some (aI (t p)), none], [], (C, up2 (dm s a v t ld (upd (upd ob 14 (1 : Int32)) 13 (nI p))) 32 15 (t p), E))) rfl trivial ?_
  rw [dm_32]
  refine z_Ev_blk 4 (c' := ((if (t p) = (115 : Int32) then 104 else 108), [some (aR 0 32), some (aI (t p)), none], [aR 0 32], (C, dm s a v t ld (upd (upd (upd ob 14 (1 : Int32)) 13 (nI p)) 15 (t p)), E))) rfl trivial ?_
  refine z_Ev_else (q115) ?_
  refine z_Ev_blk 3 (c' := ((if (t p) = (104 : Int32) then 114 else 124), [some (aR 0 32), some (aI (t p)), none], [aR 0 32], (C, dm s a v t ld (upd (upd (upd ob 14 (1 : Int32)) 13 (nI p)) 15 (t p)), E))) rfl trivial ?_
  refine z_Ev_else (q104) ?_
  refine z_Ev_blk 3 (c' := ((if (t p) = (102 : Int32) then 130 else 140), [some (aR 0 32), some (aI (t p)), none], [aR 0 32], (C, dm s a v t ld (upd (upd (upd ob 14 (1 : Int32)) 13 (nI p)) 15 (t p)), E))) rfl trivial ?_
  refine z_Ev_else (q102) ?_
  refine z_Ev_blk 3 (c' := (145, [some (aR 0 32), some (aI (t p)), none], [aI (51 : Int32), aI (48 : Int32), aR 0 32, aR 0 32], (C, dm s a v t ld (upd (upd (upd ob 14 (1 : Int32)) 13 (nI p)) 15 (t p)), E))) rfl trivial ?_
  refine z_Ev_call0 (m' := m_X5_sign) (as := [aR 0 32, aI (48 : Int32), aI (51 : Int32)]) (r := [aR 0 32]) (hS) rfl rfl ?_
  refine z_Ev_blk 3 (c' := (154, [some (aR 0 32), some (aI (t p)), none], [], (C, up2 (dm s a v t ld OB) 32 16 (y - (48 : Int32)), E))) rfl trivial ?_
  rw [dm_32]
  refine z_Ev_blk 3 (c' := ((if (t p) = (102 : Int32) then 160 else 171), [some (aR 0 32), some (aI (t p)), none], [], (C, dm s a v t ld (upd OB 16 (y - (48 : Int32))), E))) rfl trivial ?_
  refine z_Ev_else (q102) ?_
  refine z_Ev_blk 6 (c' := ((if (t p) = (102 : Int32) then 180 else 191), [some (aR 0 32), some (aI (t p)), some (aI (0 : Int32))], [aR 0 32], (C, dm s a v t ld (upd OB 16 (y - (48 : Int32))), E))) rfl trivial ?_
  refine z_Ev_else (q102) ?_
  refine z_Ev_blk 2 (c' := (195, [some (aR 0 32), some (aI (t p)), some (aI (0 : Int32))], [], (C, up2 (dm s a v t ld (upd OB 16 (y - (48 : Int32)))) 32 17 (0 : Int32), E))) rfl trivial ?_
  rw [dm_32]
  exact z_Ev_vretE rfl rfl (by rfl)
theorem or_e {xs : Nat → Int32} {L : Nat} (p c : Nat) (y : Int32) (OB : Nat → Int32) (C : Nat → Nat → Nat → Int32) (s a v t ld ob : Nat → Int32) (E : Nat → Int64) (h6 : ob 6 = nI c) (h13 : ob 13 = nI p) (hc : c ≤ 60) (h14 : ob 14 = 0) (hp : c ≤ p) (hp2 : p ≤ 60) (hS : z_Mt xs L m_X5_sign [aR 0 32, aI 48, aI 51] (C, dm s a v t ld (upd (upd (upd ob 14 1) 13 (nI p)) 15 (0 : Int32)), E) (.inl (some (aI y))) (C, dm s a v t ld OB, E) 0)  : z_Mt xs L m_X5_order [aR 0 32] (C, dm s a v t ld ob, E) (.inl none) (C, dm s a v t ld (upd (upd OB 16 (y - 48)) 17 0), E) 0 := by
  refine z_Ev_blk 2 (c' := (4, [some (aR 0 32), none, none], [aI (ob 13)], (C, dm s a v t ld ob, E))) rfl trivial ?_
  rw [h13]
  refine z_Ev_blk 2 (c' := (8, [some (aR 0 32), none, none], [aI (ob 6), aI (nI p)], (C, dm s a v t ld ob, E))) rfl trivial ?_
  rw [h6]
  refine z_Ev_blk 1 (c' := ((if (nI c) ≤ (nI p) then 23 else 11), [some (aR 0 32), none, none], [], (C, dm s a v t ld ob, E))) rfl trivial ?_
  refine z_Ev_if (nI_le hp (by omega)) ?_
  refine z_Ev_blk 5 (c' := (30, [some (aR 0 32), some (aI (0 : Int32)), none], [aI (ob 14), aR 0 32], (C, dm s a v t ld ob, E))) rfl trivial ?_
  rw [h14]
  refine z_Ev_blk 1 (c' := ((if (0 : Int32) = 0 then 33 else 63), [some (aR 0 32), some (aI (0 : Int32)), none], [aR 0 32], (C, dm s a v t ld ob, E))) rfl trivial ?_
  refine z_Ev_if (by decide) ?_
  refine z_Ev_blk 3 (c' := ((if (0 : Int32) = (43 : Int32) then 67 else 39), [some (aR 0 32), some (aI (0 : Int32)), none], [aR 0 32], (C, dm s a v t ld ob, E))) rfl trivial ?_
  refine z_Ev_else (by decide) ?_
  refine z_Ev_blk 3 (c' := ((if (0 : Int32) = (45 : Int32) then 67 else 45), [some (aR 0 32), some (aI (0 : Int32)), none], [aR 0 32], (C, dm s a v t ld ob, E))) rfl trivial ?_
  refine z_Ev_else (by decide) ?_
  refine z_Ev_blk 3 (c' := ((if (0 : Int32) = (115 : Int32) then 67 else 51), [some (aR 0 32), some (aI (0 : Int32)), none], [aR 0 32], (C, dm s a v t ld ob, E))) rfl trivial ?_
  refine z_Ev_else (by decide) ?_
  refine z_Ev_blk 3 (c' := ((if (0 : Int32) = (104 : Int32) then 67 else 57), [some (aR 0 32), some (aI (0 : Int32)), none], [aR 0 32], (C, dm s a v t ld ob, E))) rfl trivial ?_
  refine z_Ev_else (by decide) ?_
  refine z_Ev_blk 3 (c' := ((if (0 : Int32) = (102 : Int32) then 67 else 63), [some (aR 0 32), some (aI (0 : Int32)), none], [aR 0 32], (C, dm s a v t ld ob, E))) rfl trivial ?_
  refine z_Ev_else (by decide) ?_
  refine z_Ev_blk 3 (c' := (71, [some (aR 0 32), some (aI (0 : Int32)), none], [], (C, up2 (dm s a v t ld ob) 32 14 (1 : Int32), E))) rfl ⟨rfl, trivial⟩ ?_
  rw [dm_32]
  refine z_Ev_blk 3 (c' := (76, [some (aR 0 32), some (aI (0 : Int32)), none], [aI (ob 13), aR 0 32], (C, dm s a v t ld (upd ob 14 (1 : Int32)), E))) rfl trivial ?_
  rw [h13]
  refine z_Ev_blk 3 (c' := ((if (1 : Int32) = 0 then 87 else 83), [some (aR 0 32), some (aI (0 : Int32)), none], [aI (nI p), aR 0 32], (C, dm s a v t ld (upd ob 14 (1 : Int32)), E))) rfl trivial ?_
  refine z_Ev_else (by decide) ?_
  refine z_Ev_blk 3 (c' := (89, [some (aR 0 32), some (aI (0 : Int32)), none], [aI ((nI p) + (0 : Int32)), aR 0 32], (C, dm s a v t ld (upd ob 14 (1 : Int32)), E))) rfl trivial ?_
  rw [Int32.add_zero]
  refine z_Ev_blk 1 (c' := (92, [some (aR 0 32), some (aI (0 : Int32)), none], [], (C, up2 (dm s a v t ld (upd ob 14 (1 : Int32))) 32 13 (nI p), E))) rfl trivial ?_
  rw [dm_32]
  refine z_Ev_blk 3 (c' := (97, [some (aR 0 32), some (aI (0 : Int32)), none], [], (C, up2 (dm s a v t ld (upd (upd ob 14 (1 : Int32)) 13 (nI p))) 32 15 (0 : Int32), E))) rfl trivial ?_
  rw [dm_32]
  refine z_Ev_blk 4 (c' := ((if (0 : Int32) = (115 : Int32) then 104 else 108), [some (aR 0 32), some (aI (0 : Int32)), none], [aR 0 32], (C, dm s a v t ld (upd (upd (upd ob 14 (1 : Int32)) 13 (nI p)) 15 (0 : Int32)), E))) rfl trivial ?_
  refine z_Ev_else (by decide) ?_
  refine z_Ev_blk 3 (c' := ((if (0 : Int32) = (104 : Int32) then 114 else 124), [some (aR 0 32), some (aI (0 : Int32)), none], [aR 0 32], (C, dm s a v t ld (upd (upd (upd ob 14 (1 : Int32)) 13 (nI p)) 15 (0 : Int32)), E))) rfl trivial ?_
  refine z_Ev_else (by decide) ?_
  refine z_Ev_blk 3 (c' := ((if (0 : Int32) = (102 : Int32) then 130 else 140), [some (aR 0 32), some (aI (0 : Int32)), none], [aR 0 32], (C, dm s a v t ld (upd (upd (upd ob 14 (1 : Int32)) 13 (nI p)) 15 (0 : Int32)), E))) rfl trivial ?_
  refine z_Ev_else (by decide) ?_
  refine z_Ev_blk 3 (c' := (145, [some (aR 0 32), some (aI (0 : Int32)), none], [aI (51 : Int32), aI (48 : Int32), aR 0 32, aR 0 32], (C, dm s a v t ld (upd (upd (upd ob 14 (1 : Int32)) 13 (nI p)) 15 (0 : Int32)), E))) rfl trivial ?_
  refine z_Ev_call0 (m' := m_X5_sign) (as := [aR 0 32, aI (48 : Int32), aI (51 : Int32)]) (r := [aR 0 32]) (hS) rfl rfl ?_
  refine z_Ev_blk 3 (c' := (154, [some (aR 0 32), some (aI (0 : Int32)), none], [], (C, up2 (dm s a v t ld OB) 32 16 (y - (48 : Int32)), E))) rfl trivial ?_
  rw [dm_32]
  refine z_Ev_blk 3 (c' := ((if (0 : Int32) = (102 : Int32) then 160 else 171), [some (aR 0 32), some (aI (0 : Int32)), none], [], (C, dm s a v t ld (upd OB 16 (y - (48 : Int32))), E))) rfl trivial ?_
  refine z_Ev_else (by decide) ?_
  refine z_Ev_blk 6 (c' := ((if (0 : Int32) = (102 : Int32) then 180 else 191), [some (aR 0 32), some (aI (0 : Int32)), some (aI (0 : Int32))], [aR 0 32], (C, dm s a v t ld (upd OB 16 (y - (48 : Int32))), E))) rfl trivial ?_
  refine z_Ev_else (by decide) ?_
  refine z_Ev_blk 2 (c' := (195, [some (aR 0 32), some (aI (0 : Int32)), some (aI (0 : Int32))], [], (C, up2 (dm s a v t ld (upd OB 16 (y - (48 : Int32)))) 32 17 (0 : Int32), E))) rfl trivial ?_
  rw [dm_32]
  exact z_Ev_vretE rfl rfl (by rfl)
/-- what order does: an error's place, or an order read -/
def OrdM (xs : Nat → Int32) (L : Nat) (C : Nat → Nat → Nat → Int32) (s a v t ld ob : Nat → Int32) (E : Nat → Int64) (r : Nat ⊕ (Int32 × (Int32 × (Int32 × Nat)))) : Prop := match r with
  | .inl e => ∃ OB : Nat → Int32, OB 13 = nI e ∧ OB 14 = 1 ∧ (∀ k, k < 13 → OB k = ob k) ∧ z_Mt xs L m_X5_order [aR 0 32] (C, dm s a v t ld ob, E) (.inl none) (C, dm s a v t ld OB, E) 0
  | .inr q => ∃ OB : Nat → Int32, OB 13 = nI q.2.2.2 ∧ OB 14 = 0 ∧ OB 15 = q.1 ∧ OB 16 = q.2.1 ∧ OB 17 = q.2.2.1 ∧ (∀ k, k < 13 → OB k = ob k) ∧ z_Mt xs L m_X5_order [aR 0 32] (C, dm s a v t ld ob, E) (.inl none) (C, dm s a v t ld OB, E) 0
theorem o13 {o : Nat → Int32} {i j k : Nat} {x y z : Int32} (hk : k < 13) (hi : 13 ≤ i) (hj : 13 ≤ j) : upd (upd o i x) j y k = o k := (upd_ne (by omega)).trans (upd_ne (by omega))
theorem o13c {o : Nat → Int32} {i j l k : Nat} {x y z : Int32} (hk : k < 13) (hi : 13 ≤ i) (hj : 13 ≤ j) (hl : 13 ≤ l) : upd (upd (upd o i x) j y) l z k = o k := (upd_ne (by omega)).trans ((upd_ne (by omega)).trans (upd_ne (by omega)))
theorem nmF_le {t : Nat → Int32} {c p : Nat} {least most : Int32} {q : Int32 × Nat} (h : nmF t c least most p = some q) : p < q.2 ∧ q.2 ≤ c := by
  unfold nmF at h
  by_cases z : p < c ∧ 48 + least ≤ t p ∧ t p ≤ 57
  · rw [if_pos z] at h
    cases h
    have e := nuF_le (t := t) (most := most) (c - (p + 1)) (p + 1) (t p - 48)
    omega
  · rw [if_neg z] at h
    cases h
theorem n_order {xs : Nat → Int32} {L : Nat} (p c : Nat) (C : Nat → Nat → Nat → Int32) (s a v t ld ob : Nat → Int32) (E : Nat → Int64) (h6 : ob 6 = nI c) (h13 : ob 13 = nI p) (hc : c ≤ 60) (hpc : p ≤ c) (h14 : ob 14 = 0) : OrdM xs L C s a v t ld ob E (moF t c p) := by
  unfold moF
  by_cases hp : p < c
  · rw [if_neg (fun z => z hp)]
    have oO : ∀ (x : Int32) (k : Nat), k < 13 → upd (upd (upd ob 14 0) 13 (nI (p + 1))) 15 x k = ob k := fun x k hk => o13c (i := 14) (j := 13) (l := 15) hk (by decide) (by decide) (by decide)
    by_cases q1 : t p = 43 ∨ t p = 45
    · rw [if_pos q1]
      have go : ∀ x : Int32, (x = 43 ∨ x = 45) → t p = x → (∀ (y : Int32) (OB : Nat → Int32), z_Mt xs L m_X5_sign [aR 0 32, aI 48, aI 51] (C, dm s a v t ld (upd (upd (upd ob 14 0) 13 (nI (p + 1))) 15 x), E) (.inl (some (aI y))) (C, dm s a v t ld OB, E) 0 → z_Mt xs L m_X5_order [aR 0 32] (C, dm s a v t ld ob, E) (.inl none) (C, dm s a v t ld (upd (upd OB 16 (y - 48)) 17 0), E) 0) → OrdM xs L C s a v t ld ob E (if p + 1 < c ∧ 48 ≤ t (p + 1) ∧ t (p + 1) ≤ 51 then .inr (t p, t (p + 1) - 48, 0, p + 2) else .inl (p + 1)) := by
        intro x _ hx hO
        obtain ⟨r1, r2⟩ := n_sign (xs := xs) (L := L) (p + 1) c 48 51 C s a v t ld (upd (upd (upd ob 14 0) 13 (nI (p + 1))) 15 x) E h6 rfl hc (by omega) rfl (by decide)
        by_cases z : p + 1 < c ∧ 48 ≤ t (p + 1) ∧ t (p + 1) ≤ 51
        · rw [if_pos z, hx]
          exact ⟨_, rfl, rfl, rfl, rfl, rfl, fun k hk => (o13 (z := 0) hk (by decide) (by decide)).trans ((o13 (z := 0) hk (by decide) (by decide)).trans (oO x k hk)), hO _ _ (r1 z)⟩
        · rw [if_neg z]
          obtain ⟨y, hS⟩ := r2 z
          exact ⟨_, rfl, rfl, fun k hk => (o13 (z := 0) hk (by decide) (by decide)).trans ((o13 (z := 0) hk (by decide) (by decide)).trans (oO x k hk)), hO _ _ hS⟩
      rcases q1 with q1 | q1
      · exact go 43 (Or.inl rfl) q1 (fun y OB hS => or_43 p c y OB C s a v t ld ob E h6 h13 hc h14 hp q1 hS)
      · exact go 45 (Or.inr rfl) q1 (fun y OB hS => or_45 p c y OB C s a v t ld ob E h6 h13 hc h14 hp q1 hS)
    rw [if_neg q1]
    by_cases q2 : t p = 115
    · rw [if_pos q2]
      exact ⟨_, rfl, rfl, rfl, rfl, rfl, fun k hk => (o13 (z := 0) hk (by decide) (by decide)).trans (oO 115 k hk), or_115 p c C s a v t ld ob E h6 h13 hc h14 hp q2⟩
    rw [if_neg q2]
    by_cases q3 : t p = 104
    · rw [if_pos q3]
      have K := n_num1 (xs := xs) (L := L) (p + 1) c 48 C s a v t ld (upd (upd (upd ob 14 0) 13 (nI (p + 1))) 15 104) E h6 rfl hc (by omega) rfl
      cases hn : nmF t c 1 48 (p + 1) with
      | none =>
        rw [hn] at K
        obtain ⟨OB, y, g1, g2, g3, hN⟩ := K
        exact ⟨upd (upd OB 16 y) 17 0, g1, g2, fun k hk => (o13 (z := 0) hk (by decide) (by decide)).trans ((g3 k (by omega) (by omega)).trans (oO 104 k hk)), or_104 p c y OB C s a v t ld ob E h6 h13 hc h14 hp q3 hN⟩
      | some r =>
        rw [hn] at K
        obtain ⟨OB, g1, g2, g3, hN⟩ := K
        exact ⟨upd (upd OB 16 r.1) 17 0, g1, g2, g3 15 (by decide) (by decide), rfl, rfl, fun k hk => (o13 (z := 0) hk (by decide) (by decide)).trans ((g3 k (by omega) (by omega)).trans (oO 104 k hk)), or_104 p c r.1 OB C s a v t ld ob E h6 h13 hc h14 hp q3 hN⟩
    rw [if_neg q3]
    by_cases q4 : t p = 102
    · rw [if_pos q4]
      have K := n_num0 (xs := xs) (L := L) (p + 1) c 47 C s a v t ld (upd (upd (upd ob 14 0) 13 (nI (p + 1))) 15 102) E h6 rfl hc (by omega) rfl
      cases hn : nmF t c 0 47 (p + 1) with
      | none =>
        rw [hn] at K
        obtain ⟨OB, y, g1, g2, g3, hN⟩ := K
        have b6 : (upd OB 16 y) 6 = nI c := (g3 6 (by decide) (by decide)).trans h6
        obtain ⟨y2, hS⟩ := n_signW (xs := xs) (L := L) (p + 1) c 61 61 C s a v t ld (upd OB 16 y) E b6 g1 hc (by omega) g2
        obtain ⟨y3, hN2⟩ := n_numW0 (xs := xs) (L := L) (p + 1) c 1500 C s a v t ld (upd (upd (upd OB 16 y) 14 1) 13 (nI (p + 1))) E b6 rfl hc (by omega) rfl
        exact ⟨_, rfl, rfl, fun k hk => (upd_ne (by omega)).trans ((o13 (z := 0) hk (by decide) (by decide)).trans ((o13 (z := 0) hk (by decide) (by decide)).trans ((upd_ne (by omega)).trans ((g3 k (by omega) (by omega)).trans (oO 102 k hk))))), or_102 p c y y2 y3 OB _ _ C s a v t ld ob E h6 h13 hc h14 hp q4 hN hS hN2⟩
      | some r =>
        rw [hn] at K
        obtain ⟨OB, g1, g2, g3, hN⟩ := K
        have hle := nmF_le hn
        have b6 : (upd OB 16 r.1) 6 = nI c := (g3 6 (by decide) (by decide)).trans h6
        obtain ⟨r1, r2⟩ := n_sign (xs := xs) (L := L) r.2 c 61 61 C s a v t ld (upd OB 16 r.1) E b6 g1 hc hle.2 g2 (by decide)
        show OrdM xs L C s a v t ld ob E (if r.2 < c ∧ t r.2 = 61 then _ else _)
        by_cases z : r.2 < c ∧ t r.2 = 61
        · rw [if_pos z]
          have hS := r1 ⟨z.1, by rw [z.2]; exact Int32.le_refl _, by rw [z.2]; exact Int32.le_refl _⟩
          have K2 := n_num0 (xs := xs) (L := L) (r.2 + 1) c 1500 C s a v t ld (upd (upd (upd OB 16 r.1) 14 0) 13 (nI (r.2 + 1))) E b6 rfl hc (by omega) rfl
          cases hn2 : nmF t c 0 1500 (r.2 + 1) with
          | none =>
            rw [hn2] at K2
            obtain ⟨OB3, y3, f1, f2, f3, hN2⟩ := K2
            exact ⟨upd OB3 17 y3, f1, f2, fun k hk => (upd_ne (by omega)).trans ((f3 k (by omega) (by omega)).trans ((o13 (z := 0) hk (by decide) (by decide)).trans ((upd_ne (by omega)).trans ((g3 k (by omega) (by omega)).trans (oO 102 k hk))))), or_102 p c r.1 _ y3 OB _ OB3 C s a v t ld ob E h6 h13 hc h14 hp q4 hN hS hN2⟩
          | some w =>
            rw [hn2] at K2
            obtain ⟨OB3, f1, f2, f3, hN2⟩ := K2
            exact ⟨upd OB3 17 w.1, f1, f2, (f3 15 (by decide) (by decide)).trans (g3 15 (by decide) (by decide)), f3 16 (by decide) (by decide), rfl, fun k hk => (upd_ne (by omega)).trans ((f3 k (by omega) (by omega)).trans ((o13 (z := 0) hk (by decide) (by decide)).trans ((upd_ne (by omega)).trans ((g3 k (by omega) (by omega)).trans (oO 102 k hk))))), or_102 p c r.1 _ w.1 OB _ OB3 C s a v t ld ob E h6 h13 hc h14 hp q4 hN hS hN2⟩
        · rw [if_neg z]
          obtain ⟨y2, hS⟩ := r2 (fun y => z ⟨y.1, Int32.toInt_inj.mp (by
            have a1 := i_le.mp y.2.1
            have a2 := i_le.mp y.2.2
            omega)⟩)
          obtain ⟨y3, hN2⟩ := n_numW0 (xs := xs) (L := L) r.2 c 1500 C s a v t ld (upd (upd (upd OB 16 r.1) 14 1) 13 (nI r.2)) E b6 rfl hc hle.2 rfl
          exact ⟨_, rfl, rfl, fun k hk => (upd_ne (by omega)).trans ((o13 (z := 0) hk (by decide) (by decide)).trans ((o13 (z := 0) hk (by decide) (by decide)).trans ((upd_ne (by omega)).trans ((g3 k (by omega) (by omega)).trans (oO 102 k hk))))), or_102 p c r.1 y2 y3 OB _ _ C s a v t ld ob E h6 h13 hc h14 hp q4 hN hS hN2⟩
    rw [if_neg q4]
    obtain ⟨y, hS⟩ := n_signW (xs := xs) (L := L) p c 48 51 C s a v t ld (upd (upd (upd ob 14 1) 13 (nI p)) 15 (t p)) E h6 rfl hc hpc rfl
    exact ⟨_, rfl, rfl, fun k hk => (o13 (z := 0) hk (by decide) (by decide)).trans ((o13 (z := 0) hk (by decide) (by decide)).trans (o13c (i := 14) (j := 13) (l := 15) hk (by decide) (by decide) (by decide))), or_x p c y _ C s a v t ld ob E h6 h13 hc h14 hp (fun z => q1 (Or.inl z)) (fun z => q1 (Or.inr z)) q2 q3 q4 hS⟩
  · rw [if_pos hp]
    obtain ⟨y, hS⟩ := n_signW (xs := xs) (L := L) p c 48 51 C s a v t ld (upd (upd (upd ob 14 1) 13 (nI p)) 15 0) E h6 rfl hc hpc rfl
    exact ⟨_, rfl, rfl, fun k hk => (o13 (z := 0) hk (by decide) (by decide)).trans ((o13 (z := 0) hk (by decide) (by decide)).trans (o13c (i := 14) (j := 13) (l := 15) hk (by decide) (by decide) (by decide))), or_e p c y _ C s a v t ld ob E h6 h13 hc h14 (by omega) (by omega) hS⟩
