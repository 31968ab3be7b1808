/-! THE MODEL SHARES A LOAD OUT -/
def mk2 (D : Nat → Nat → Int32) (ld ob : Nat → Int32) : Nat → Nat → Int32 := fun q => if q = 37 then ld else if q = 32 then ob else D q
theorem mk2_37 {D : Nat → Nat → Int32} {ld ob : Nat → Int32} {k : Nat} {v : Int32} : up2 (mk2 D ld ob) 37 k v = mk2 D (upd ld k v) ob := by
  funext q
  unfold up2 mk2
  by_cases h : q = 37
  · subst h; rfl
  · simp [h]
theorem mk2_32 {D : Nat → Nat → Int32} {ld ob : Nat → Int32} {k : Nat} {v : Int32} : up2 (mk2 D ld ob) 32 k v = mk2 D ld (upd ob k v) := by
  funext q
  unfold up2 mk2
  by_cases h : q = 32
  · subst h; rfl
  · simp [h]
theorem mk2_self (D : Nat → Nat → Int32) : D = mk2 D (D 37) (D 32) := by
  funext q
  unfold mk2
  by_cases h : q = 37
  · subst h; rfl
  · by_cases h2 : q = 32
    · subst h2; rfl
    · simp [h, h2]
def sx (D : Nat → Nat → Int32) (mask k : Int32) (j : Nat) : Int32 := if hs mask k = true then D 33 j else 0

theorem sh1_0 {xs : Nat → Int32} {L : Nat} {o : z_Rs} {M' : Mem} {kk : Nat} (all mask left could : Int32) (C : Nat → Nat → Nat → Int32) (D : Nat → Nat → Int32) (ld ob : Nat → Int32) (E : Nat → Int64)  (K : z_Ev xs L m_X5_share (8, [some (aR 0 32), some (aI all), some (aI mask), some (aI (left - sx D mask 0 4)), some (aI (could + sx D mask 0 0)), some (aI (1 : Int32)), none, none], [], (C, mk2 D (upd ld 0 (sx D mask 0 4)) ob, E)) o M' kk) : z_Ev xs L m_X5_share (8, [some (aR 0 32), some (aI all), some (aI mask), some (aI left), some (aI could), some (aI (0 : Int32)), none, none], [], (C, mk2 D ld ob, E)) o M' kk := by
  refine z_Ev_blk 3 (c' := ((if (4 : Int32) ≤ (0 : Int32) then 86 else 14), [some (aR 0 32), some (aI all), some (aI mask), some (aI left), some (aI could), some (aI (0 : Int32)), none, none], [], (C, mk2 D ld ob, E))) rfl trivial ?_
  refine z_Ev_else (by decide) ?_
  refine z_Ev_blk 5 (c' := (23, [some (aR 0 32), some (aI all), some (aI mask), some (aI left), some (aI could), some (aI (0 : Int32)), none, none], [aI (0 : Int32), aI mask, aI (0 : Int32), aR 0 37], (C, mk2 D ld ob, E))) rfl trivial ?_
  refine z_Ev_call0 (m' := m_X5_has) (as := [aI mask, aI (0 : Int32)]) (r := [aI (0 : Int32), aR 0 37]) (e_has mask (0 : Int32) _ _ _) rfl rfl ?_
  refine z_Ev_blk 1 (c' := ((if (f_b (hs mask (0 : Int32) = true)) = 0 then 41 else 29), [some (aR 0 32), some (aI all), some (aI mask), some (aI left), some (aI could), some (aI (0 : Int32)), none, none], [aI (0 : Int32), aR 0 37], (C, mk2 D ld ob, E))) rfl trivial ?_
  refine z_Ev_ite (fun h1 => ?_) (fun h1 => ?_)
  · replace h1 := f_bZ h1
    refine z_Ev_blk 12 (c' := (58, [some (aR 0 32), some (aI all), some (aI mask), some (aI (left - (0 : Int32))), some (aI could), some (aI (0 : Int32)), none, none], [aI (0 : Int32), aI mask, aI could], (C, up2 (mk2 D ld ob) 37 0 (0 : Int32), E))) rfl ⟨rfl, rfl, trivial⟩ ?_
    refine z_Ev_call0 (m' := m_X5_has) (as := [aI mask, aI (0 : Int32)]) (r := [aI could]) (e_has mask (0 : Int32) _ _ _) rfl rfl ?_
    refine z_Ev_blk 1 (c' := ((if (f_b (hs mask (0 : Int32) = true)) = 0 then 76 else 64), [some (aR 0 32), some (aI all), some (aI mask), some (aI (left - (0 : Int32))), some (aI could), some (aI (0 : Int32)), none, none], [aI could], (C, up2 (mk2 D ld ob) 37 0 (0 : Int32), E))) rfl trivial ?_
    refine z_Ev_if (f_bN h1) ?_
    refine z_Ev_blk 5 (c' := (8, [some (aR 0 32), some (aI all), some (aI mask), some (aI (left - (0 : Int32))), some (aI (could + (0 : Int32))), some (aI (1 : Int32)), none, none], [], (C, up2 (mk2 D ld ob) 37 0 (0 : Int32), E))) rfl trivial ?_
    refine z_Ev_fgt [true, true, true, true, true, true, false, false] ?_
    exact z_Ev_eq (c := (8, [some (aR 0 32), some (aI all), some (aI mask), some (aI (left - (0 : Int32))), some (aI (could + (0 : Int32))), some (aI (1 : Int32)), none, none], [], (C, up2 (mk2 D ld ob) 37 0 (0 : Int32), E))) (c' := (8, [some (aR 0 32), some (aI all), some (aI mask), some (aI (left - sx D mask 0 4)), some (aI (could + sx D mask 0 0)), some (aI (1 : Int32)), none, none], [], (C, mk2 D (upd ld 0 (sx D mask 0 4)) ob, E))) (by simp [h1, mk2_37, sx]) K
  · replace h1 := f_bQ h1
    refine z_Ev_blk 18 (c' := (58, [some (aR 0 32), some (aI all), some (aI mask), some (aI (left - (D 33 4))), some (aI could), some (aI (0 : Int32)), none, none], [aI (0 : Int32), aI mask, aI could], (C, up2 (mk2 D ld ob) 37 0 (D 33 4), E))) rfl ⟨rfl, rfl, rfl, trivial⟩ ?_
    refine z_Ev_call0 (m' := m_X5_has) (as := [aI mask, aI (0 : Int32)]) (r := [aI could]) (e_has mask (0 : Int32) _ _ _) rfl rfl ?_
    refine z_Ev_blk 1 (c' := ((if (f_b (hs mask (0 : Int32) = true)) = 0 then 76 else 64), [some (aR 0 32), some (aI all), some (aI mask), some (aI (left - (D 33 4))), some (aI could), some (aI (0 : Int32)), none, none], [aI could], (C, up2 (mk2 D ld ob) 37 0 (D 33 4), E))) rfl trivial ?_
    refine z_Ev_else (f_bP h1) ?_
    refine z_Ev_blk 11 (c' := (8, [some (aR 0 32), some (aI all), some (aI mask), some (aI (left - (D 33 4))), some (aI (could + (D 33 0))), some (aI (1 : Int32)), none, none], [], (C, up2 (mk2 D ld ob) 37 0 (D 33 4), E))) rfl ⟨rfl, trivial⟩ ?_
    refine z_Ev_fgt [true, true, true, true, true, true, false, false] ?_
    exact z_Ev_eq (c := (8, [some (aR 0 32), some (aI all), some (aI mask), some (aI (left - (D 33 4))), some (aI (could + (D 33 0))), some (aI (1 : Int32)), none, none], [], (C, up2 (mk2 D ld ob) 37 0 (D 33 4), E))) (c' := (8, [some (aR 0 32), some (aI all), some (aI mask), some (aI (left - sx D mask 0 4)), some (aI (could + sx D mask 0 0)), some (aI (1 : Int32)), none, none], [], (C, mk2 D (upd ld 0 (sx D mask 0 4)) ob, E))) (by simp [h1, mk2_37, sx]) K
theorem sh1_1 {xs : Nat → Int32} {L : Nat} {o : z_Rs} {M' : Mem} {kk : Nat} (all mask left could : Int32) (C : Nat → Nat → Nat → Int32) (D : Nat → Nat → Int32) (ld ob : Nat → Int32) (E : Nat → Int64)  (K : z_Ev xs L m_X5_share (8, [some (aR 0 32), some (aI all), some (aI mask), some (aI (left - sx D mask 1 5)), some (aI (could + sx D mask 1 1)), some (aI (2 : Int32)), none, none], [], (C, mk2 D (upd ld 1 (sx D mask 1 5)) ob, E)) o M' kk) : z_Ev xs L m_X5_share (8, [some (aR 0 32), some (aI all), some (aI mask), some (aI left), some (aI could), some (aI (1 : Int32)), none, none], [], (C, mk2 D ld ob, E)) o M' kk := by
  refine z_Ev_blk 3 (c' := ((if (4 : Int32) ≤ (1 : Int32) then 86 else 14), [some (aR 0 32), some (aI all), some (aI mask), some (aI left), some (aI could), some (aI (1 : Int32)), none, none], [], (C, mk2 D ld ob, E))) rfl trivial ?_
  refine z_Ev_else (by decide) ?_
  refine z_Ev_blk 5 (c' := (23, [some (aR 0 32), some (aI all), some (aI mask), some (aI left), some (aI could), some (aI (1 : Int32)), none, none], [aI (1 : Int32), aI mask, aI (1 : Int32), aR 0 37], (C, mk2 D ld ob, E))) rfl trivial ?_
  refine z_Ev_call0 (m' := m_X5_has) (as := [aI mask, aI (1 : Int32)]) (r := [aI (1 : Int32), aR 0 37]) (e_has mask (1 : Int32) _ _ _) rfl rfl ?_
  refine z_Ev_blk 1 (c' := ((if (f_b (hs mask (1 : Int32) = true)) = 0 then 41 else 29), [some (aR 0 32), some (aI all), some (aI mask), some (aI left), some (aI could), some (aI (1 : Int32)), none, none], [aI (1 : Int32), aR 0 37], (C, mk2 D ld ob, E))) rfl trivial ?_
  refine z_Ev_ite (fun h1 => ?_) (fun h1 => ?_)
  · replace h1 := f_bZ h1
    refine z_Ev_blk 12 (c' := (58, [some (aR 0 32), some (aI all), some (aI mask), some (aI (left - (0 : Int32))), some (aI could), some (aI (1 : Int32)), none, none], [aI (1 : Int32), aI mask, aI could], (C, up2 (mk2 D ld ob) 37 1 (0 : Int32), E))) rfl ⟨rfl, rfl, trivial⟩ ?_
    refine z_Ev_call0 (m' := m_X5_has) (as := [aI mask, aI (1 : Int32)]) (r := [aI could]) (e_has mask (1 : Int32) _ _ _) rfl rfl ?_
    refine z_Ev_blk 1 (c' := ((if (f_b (hs mask (1 : Int32) = true)) = 0 then 76 else 64), [some (aR 0 32), some (aI all), some (aI mask), some (aI (left - (0 : Int32))), some (aI could), some (aI (1 : Int32)), none, none], [aI could], (C, up2 (mk2 D ld ob) 37 1 (0 : Int32), E))) rfl trivial ?_
    refine z_Ev_if (f_bN h1) ?_
    refine z_Ev_blk 5 (c' := (8, [some (aR 0 32), some (aI all), some (aI mask), some (aI (left - (0 : Int32))), some (aI (could + (0 : Int32))), some (aI (2 : Int32)), none, none], [], (C, up2 (mk2 D ld ob) 37 1 (0 : Int32), E))) rfl trivial ?_
    refine z_Ev_fgt [true, true, true, true, true, true, false, false] ?_
    exact z_Ev_eq (c := (8, [some (aR 0 32), some (aI all), some (aI mask), some (aI (left - (0 : Int32))), some (aI (could + (0 : Int32))), some (aI (2 : Int32)), none, none], [], (C, up2 (mk2 D ld ob) 37 1 (0 : Int32), E))) (c' := (8, [some (aR 0 32), some (aI all), some (aI mask), some (aI (left - sx D mask 1 5)), some (aI (could + sx D mask 1 1)), some (aI (2 : Int32)), none, none], [], (C, mk2 D (upd ld 1 (sx D mask 1 5)) ob, E))) (by simp [h1, mk2_37, sx]) K
  · replace h1 := f_bQ h1
    refine z_Ev_blk 18 (c' := (58, [some (aR 0 32), some (aI all), some (aI mask), some (aI (left - (D 33 5))), some (aI could), some (aI (1 : Int32)), none, none], [aI (1 : Int32), aI mask, aI could], (C, up2 (mk2 D ld ob) 37 1 (D 33 5), E))) rfl ⟨rfl, rfl, rfl, trivial⟩ ?_
    refine z_Ev_call0 (m' := m_X5_has) (as := [aI mask, aI (1 : Int32)]) (r := [aI could]) (e_has mask (1 : Int32) _ _ _) rfl rfl ?_
    refine z_Ev_blk 1 (c' := ((if (f_b (hs mask (1 : Int32) = true)) = 0 then 76 else 64), [some (aR 0 32), some (aI all), some (aI mask), some (aI (left - (D 33 5))), some (aI could), some (aI (1 : Int32)), none, none], [aI could], (C, up2 (mk2 D ld ob) 37 1 (D 33 5), E))) rfl trivial ?_
    refine z_Ev_else (f_bP h1) ?_
    refine z_Ev_blk 11 (c' := (8, [some (aR 0 32), some (aI all), some (aI mask), some (aI (left - (D 33 5))), some (aI (could + (D 33 1))), some (aI (2 : Int32)), none, none], [], (C, up2 (mk2 D ld ob) 37 1 (D 33 5), E))) rfl ⟨rfl, trivial⟩ ?_
    refine z_Ev_fgt [true, true, true, true, true, true, false, false] ?_
    exact z_Ev_eq (c := (8, [some (aR 0 32), some (aI all), some (aI mask), some (aI (left - (D 33 5))), some (aI (could + (D 33 1))), some (aI (2 : Int32)), none, none], [], (C, up2 (mk2 D ld ob) 37 1 (D 33 5), E))) (c' := (8, [some (aR 0 32), some (aI all), some (aI mask), some (aI (left - sx D mask 1 5)), some (aI (could + sx D mask 1 1)), some (aI (2 : Int32)), none, none], [], (C, mk2 D (upd ld 1 (sx D mask 1 5)) ob, E))) (by simp [h1, mk2_37, sx]) K
theorem sh1_2 {xs : Nat → Int32} {L : Nat} {o : z_Rs} {M' : Mem} {kk : Nat} (all mask left could : Int32) (C : Nat → Nat → Nat → Int32) (D : Nat → Nat → Int32) (ld ob : Nat → Int32) (E : Nat → Int64)  (K : z_Ev xs L m_X5_share (8, [some (aR 0 32), some (aI all), some (aI mask), some (aI (left - sx D mask 2 6)), some (aI (could + sx D mask 2 2)), some (aI (3 : Int32)), none, none], [], (C, mk2 D (upd ld 2 (sx D mask 2 6)) ob, E)) o M' kk) : z_Ev xs L m_X5_share (8, [some (aR 0 32), some (aI all), some (aI mask), some (aI left), some (aI could), some (aI (2 : Int32)), none, none], [], (C, mk2 D ld ob, E)) o M' kk := by
  refine z_Ev_blk 3 (c' := ((if (4 : Int32) ≤ (2 : Int32) then 86 else 14), [some (aR 0 32), some (aI all), some (aI mask), some (aI left), some (aI could), some (aI (2 : Int32)), none, none], [], (C, mk2 D ld ob, E))) rfl trivial ?_
  refine z_Ev_else (by decide) ?_
  refine z_Ev_blk 5 (c' := (23, [some (aR 0 32), some (aI all), some (aI mask), some (aI left), some (aI could), some (aI (2 : Int32)), none, none], [aI (2 : Int32), aI mask, aI (2 : Int32), aR 0 37], (C, mk2 D ld ob, E))) rfl trivial ?_
  refine z_Ev_call0 (m' := m_X5_has) (as := [aI mask, aI (2 : Int32)]) (r := [aI (2 : Int32), aR 0 37]) (e_has mask (2 : Int32) _ _ _) rfl rfl ?_
  refine z_Ev_blk 1 (c' := ((if (f_b (hs mask (2 : Int32) = true)) = 0 then 41 else 29), [some (aR 0 32), some (aI all), some (aI mask), some (aI left), some (aI could), some (aI (2 : Int32)), none, none], [aI (2 : Int32), aR 0 37], (C, mk2 D ld ob, E))) rfl trivial ?_
  refine z_Ev_ite (fun h1 => ?_) (fun h1 => ?_)
  · replace h1 := f_bZ h1
    refine z_Ev_blk 12 (c' := (58, [some (aR 0 32), some (aI all), some (aI mask), some (aI (left - (0 : Int32))), some (aI could), some (aI (2 : Int32)), none, none], [aI (2 : Int32), aI mask, aI could], (C, up2 (mk2 D ld ob) 37 2 (0 : Int32), E))) rfl ⟨rfl, rfl, trivial⟩ ?_
    refine z_Ev_call0 (m' := m_X5_has) (as := [aI mask, aI (2 : Int32)]) (r := [aI could]) (e_has mask (2 : Int32) _ _ _) rfl rfl ?_
    refine z_Ev_blk 1 (c' := ((if (f_b (hs mask (2 : Int32) = true)) = 0 then 76 else 64), [some (aR 0 32), some (aI all), some (aI mask), some (aI (left - (0 : Int32))), some (aI could), some (aI (2 : Int32)), none, none], [aI could], (C, up2 (mk2 D ld ob) 37 2 (0 : Int32), E))) rfl trivial ?_
    refine z_Ev_if (f_bN h1) ?_
    refine z_Ev_blk 5 (c' := (8, [some (aR 0 32), some (aI all), some (aI mask), some (aI (left - (0 : Int32))), some (aI (could + (0 : Int32))), some (aI (3 : Int32)), none, none], [], (C, up2 (mk2 D ld ob) 37 2 (0 : Int32), E))) rfl trivial ?_
    refine z_Ev_fgt [true, true, true, true, true, true, false, false] ?_
    exact z_Ev_eq (c := (8, [some (aR 0 32), some (aI all), some (aI mask), some (aI (left - (0 : Int32))), some (aI (could + (0 : Int32))), some (aI (3 : Int32)), none, none], [], (C, up2 (mk2 D ld ob) 37 2 (0 : Int32), E))) (c' := (8, [some (aR 0 32), some (aI all), some (aI mask), some (aI (left - sx D mask 2 6)), some (aI (could + sx D mask 2 2)), some (aI (3 : Int32)), none, none], [], (C, mk2 D (upd ld 2 (sx D mask 2 6)) ob, E))) (by simp [h1, mk2_37, sx]) K
  · replace h1 := f_bQ h1
    refine z_Ev_blk 18 (c' := (58, [some (aR 0 32), some (aI all), some (aI mask), some (aI (left - (D 33 6))), some (aI could), some (aI (2 : Int32)), none, none], [aI (2 : Int32), aI mask, aI could], (C, up2 (mk2 D ld ob) 37 2 (D 33 6), E))) rfl ⟨rfl, rfl, rfl, trivial⟩ ?_
    refine z_Ev_call0 (m' := m_X5_has) (as := [aI mask, aI (2 : Int32)]) (r := [aI could]) (e_has mask (2 : Int32) _ _ _) rfl rfl ?_
    refine z_Ev_blk 1 (c' := ((if (f_b (hs mask (2 : Int32) = true)) = 0 then 76 else 64), [some (aR 0 32), some (aI all), some (aI mask), some (aI (left - (D 33 6))), some (aI could), some (aI (2 : Int32)), none, none], [aI could], (C, up2 (mk2 D ld ob) 37 2 (D 33 6), E))) rfl trivial ?_
    refine z_Ev_else (f_bP h1) ?_
    refine z_Ev_blk 11 (c' := (8, [some (aR 0 32), some (aI all), some (aI mask), some (aI (left - (D 33 6))), some (aI (could + (D 33 2))), some (aI (3 : Int32)), none, none], [], (C, up2 (mk2 D ld ob) 37 2 (D 33 6), E))) rfl ⟨rfl, trivial⟩ ?_
    refine z_Ev_fgt [true, true, true, true, true, true, false, false] ?_
    exact z_Ev_eq (c := (8, [some (aR 0 32), some (aI all), some (aI mask), some (aI (left - (D 33 6))), some (aI (could + (D 33 2))), some (aI (3 : Int32)), none, none], [], (C, up2 (mk2 D ld ob) 37 2 (D 33 6), E))) (c' := (8, [some (aR 0 32), some (aI all), some (aI mask), some (aI (left - sx D mask 2 6)), some (aI (could + sx D mask 2 2)), some (aI (3 : Int32)), none, none], [], (C, mk2 D (upd ld 2 (sx D mask 2 6)) ob, E))) (by simp [h1, mk2_37, sx]) K
theorem sh1_3 {xs : Nat → Int32} {L : Nat} {o : z_Rs} {M' : Mem} {kk : Nat} (all mask left could : Int32) (C : Nat → Nat → Nat → Int32) (D : Nat → Nat → Int32) (ld ob : Nat → Int32) (E : Nat → Int64)  (K : z_Ev xs L m_X5_share (8, [some (aR 0 32), some (aI all), some (aI mask), some (aI (left - sx D mask 3 7)), some (aI (could + sx D mask 3 3)), some (aI (4 : Int32)), none, none], [], (C, mk2 D (upd ld 3 (sx D mask 3 7)) ob, E)) o M' kk) : z_Ev xs L m_X5_share (8, [some (aR 0 32), some (aI all), some (aI mask), some (aI left), some (aI could), some (aI (3 : Int32)), none, none], [], (C, mk2 D ld ob, E)) o M' kk := by
  refine z_Ev_blk 3 (c' := ((if (4 : Int32) ≤ (3 : Int32) then 86 else 14), [some (aR 0 32), some (aI all), some (aI mask), some (aI left), some (aI could), some (aI (3 : Int32)), none, none], [], (C, mk2 D ld ob, E))) rfl trivial ?_
  refine z_Ev_else (by decide) ?_
  refine z_Ev_blk 5 (c' := (23, [some (aR 0 32), some (aI all), some (aI mask), some (aI left), some (aI could), some (aI (3 : Int32)), none, none], [aI (3 : Int32), aI mask, aI (3 : Int32), aR 0 37], (C, mk2 D ld ob, E))) rfl trivial ?_
  refine z_Ev_call0 (m' := m_X5_has) (as := [aI mask, aI (3 : Int32)]) (r := [aI (3 : Int32), aR 0 37]) (e_has mask (3 : Int32) _ _ _) rfl rfl ?_
  refine z_Ev_blk 1 (c' := ((if (f_b (hs mask (3 : Int32) = true)) = 0 then 41 else 29), [some (aR 0 32), some (aI all), some (aI mask), some (aI left), some (aI could), some (aI (3 : Int32)), none, none], [aI (3 : Int32), aR 0 37], (C, mk2 D ld ob, E))) rfl trivial ?_
  refine z_Ev_ite (fun h1 => ?_) (fun h1 => ?_)
  · replace h1 := f_bZ h1
    refine z_Ev_blk 12 (c' := (58, [some (aR 0 32), some (aI all), some (aI mask), some (aI (left - (0 : Int32))), some (aI could), some (aI (3 : Int32)), none, none], [aI (3 : Int32), aI mask, aI could], (C, up2 (mk2 D ld ob) 37 3 (0 : Int32), E))) rfl ⟨rfl, rfl, trivial⟩ ?_
    refine z_Ev_call0 (m' := m_X5_has) (as := [aI mask, aI (3 : Int32)]) (r := [aI could]) (e_has mask (3 : Int32) _ _ _) rfl rfl ?_
    refine z_Ev_blk 1 (c' := ((if (f_b (hs mask (3 : Int32) = true)) = 0 then 76 else 64), [some (aR 0 32), some (aI all), some (aI mask), some (aI (left - (0 : Int32))), some (aI could), some (aI (3 : Int32)), none, none], [aI could], (C, up2 (mk2 D ld ob) 37 3 (0 : Int32), E))) rfl trivial ?_
    refine z_Ev_if (f_bN h1) ?_
    refine z_Ev_blk 5 (c' := (8, [some (aR 0 32), some (aI all), some (aI mask), some (aI (left - (0 : Int32))), some (aI (could + (0 : Int32))), some (aI (4 : Int32)), none, none], [], (C, up2 (mk2 D ld ob) 37 3 (0 : Int32), E))) rfl trivial ?_
    refine z_Ev_fgt [true, true, true, true, true, true, false, false] ?_
    exact z_Ev_eq (c := (8, [some (aR 0 32), some (aI all), some (aI mask), some (aI (left - (0 : Int32))), some (aI (could + (0 : Int32))), some (aI (4 : Int32)), none, none], [], (C, up2 (mk2 D ld ob) 37 3 (0 : Int32), E))) (c' := (8, [some (aR 0 32), some (aI all), some (aI mask), some (aI (left - sx D mask 3 7)), some (aI (could + sx D mask 3 3)), some (aI (4 : Int32)), none, none], [], (C, mk2 D (upd ld 3 (sx D mask 3 7)) ob, E))) (by simp [h1, mk2_37, sx]) K
  · replace h1 := f_bQ h1
    refine z_Ev_blk 18 (c' := (58, [some (aR 0 32), some (aI all), some (aI mask), some (aI (left - (D 33 7))), some (aI could), some (aI (3 : Int32)), none, none], [aI (3 : Int32), aI mask, aI could], (C, up2 (mk2 D ld ob) 37 3 (D 33 7), E))) rfl ⟨rfl, rfl, rfl, trivial⟩ ?_
    refine z_Ev_call0 (m' := m_X5_has) (as := [aI mask, aI (3 : Int32)]) (r := [aI could]) (e_has mask (3 : Int32) _ _ _) rfl rfl ?_
    refine z_Ev_blk 1 (c' := ((if (f_b (hs mask (3 : Int32) = true)) = 0 then 76 else 64), [some (aR 0 32), some (aI all), some (aI mask), some (aI (left - (D 33 7))), some (aI could), some (aI (3 : Int32)), none, none], [aI could], (C, up2 (mk2 D ld ob) 37 3 (D 33 7), E))) rfl trivial ?_
    refine z_Ev_else (f_bP h1) ?_
    refine z_Ev_blk 11 (c' := (8, [some (aR 0 32), some (aI all), some (aI mask), some (aI (left - (D 33 7))), some (aI (could + (D 33 3))), some (aI (4 : Int32)), none, none], [], (C, up2 (mk2 D ld ob) 37 3 (D 33 7), E))) rfl ⟨rfl, trivial⟩ ?_
    refine z_Ev_fgt [true, true, true, true, true, true, false, false] ?_
    exact z_Ev_eq (c := (8, [some (aR 0 32), some (aI all), some (aI mask), some (aI (left - (D 33 7))), some (aI (could + (D 33 3))), some (aI (4 : Int32)), none, none], [], (C, up2 (mk2 D ld ob) 37 3 (D 33 7), E))) (c' := (8, [some (aR 0 32), some (aI all), some (aI mask), some (aI (left - sx D mask 3 7)), some (aI (could + sx D mask 3 3)), some (aI (4 : Int32)), none, none], [], (C, mk2 D (upd ld 3 (sx D mask 3 7)) ob, E))) (by simp [h1, mk2_37, sx]) K
theorem sh1_e {xs : Nat → Int32} {L : Nat} {o : z_Rs} {M' : Mem} {kk : Nat} (all mask left could : Int32) (C : Nat → Nat → Nat → Int32) (D : Nat → Nat → Int32) (ld ob : Nat → Int32) (E : Nat → Int64)  (K : z_Ev xs L m_X5_share (113, [some (aR 0 32), some (aI all), some (aI mask), some (aI (if 0 ≤ left then left else 0)), some (aI could), some (aI mask), none, none], [], (C, mk2 D ld (upd ob 9 (if 0 ≤ left then 0 else -left)), E)) o M' kk) : z_Ev xs L m_X5_share (8, [some (aR 0 32), some (aI all), some (aI mask), some (aI left), some (aI could), some (aI (4 : Int32)), none, none], [], (C, mk2 D ld ob, E)) o M' kk := by
  refine z_Ev_blk 3 (c' := ((if (4 : Int32) ≤ (4 : Int32) then 86 else 14), [some (aR 0 32), some (aI all), some (aI mask), some (aI left), some (aI could), some (aI (4 : Int32)), none, none], [], (C, mk2 D ld ob, E))) rfl trivial ?_
  refine z_Ev_if (by decide) ?_
  refine z_Ev_blk 3 (c' := ((if 0 ≤ left then 96 else 91), [some (aR 0 32), some (aI all), some (aI mask), some (aI left), some (aI could), some (aI (4 : Int32)), none, none], [aR 0 32], (C, mk2 D ld ob, E))) rfl trivial ?_
  refine z_Ev_ite (fun h1 => ?_) (fun h1 => ?_)
  · skip
    refine z_Ev_blk 4 (c' := ((if 0 ≤ left then 108 else 104), [some (aR 0 32), some (aI all), some (aI mask), some (aI left), some (aI could), some (aI (4 : Int32)), none, none], [], (C, up2 (mk2 D ld ob) 32 9 (0 : Int32), E))) rfl trivial ?_
    refine z_Ev_if (h1) ?_
    refine z_Ev_blk 4 (c' := (113, [some (aR 0 32), some (aI all), some (aI mask), some (aI left), some (aI could), some (aI mask), none, none], [], (C, up2 (mk2 D ld ob) 32 9 (0 : Int32), E))) rfl trivial ?_
    refine z_Ev_fgt [true, true, true, true, true, true, false, false] ?_
    exact z_Ev_eq (c := (113, [some (aR 0 32), some (aI all), some (aI mask), some (aI left), some (aI could), some (aI mask), none, none], [], (C, up2 (mk2 D ld ob) 32 9 (0 : Int32), E))) (c' := (113, [some (aR 0 32), some (aI all), some (aI mask), some (aI (if 0 ≤ left then left else 0)), some (aI could), some (aI mask), none, none], [], (C, mk2 D ld (upd ob 9 (if 0 ≤ left then 0 else -left)), E))) (by simp [h1, mk2_32]) K
  · skip
    refine z_Ev_blk 6 (c' := ((if 0 ≤ left then 108 else 104), [some (aR 0 32), some (aI all), some (aI mask), some (aI left), some (aI could), some (aI (4 : Int32)), none, none], [], (C, up2 (mk2 D ld ob) 32 9 (-left), E))) rfl trivial ?_
    refine z_Ev_else (h1) ?_
    refine z_Ev_blk 5 (c' := (113, [some (aR 0 32), some (aI all), some (aI mask), some (aI (0 : Int32)), some (aI could), some (aI mask), none, none], [], (C, up2 (mk2 D ld ob) 32 9 (-left), E))) rfl trivial ?_
    refine z_Ev_fgt [true, true, true, true, true, true, false, false] ?_
    exact z_Ev_eq (c := (113, [some (aR 0 32), some (aI all), some (aI mask), some (aI (0 : Int32)), some (aI could), some (aI mask), none, none], [], (C, up2 (mk2 D ld ob) 32 9 (-left), E))) (c' := (113, [some (aR 0 32), some (aI all), some (aI mask), some (aI (if 0 ≤ left then left else 0)), some (aI could), some (aI mask), none, none], [], (C, mk2 D ld (upd ob 9 (if 0 ≤ left then 0 else -left)), E))) (by simp [h1, mk2_32]) K
theorem sh2_0 {xs : Nat → Int32} {L : Nat} {o : z_Rs} {M' : Mem} {kk : Nat} (all mask left could rest : Int32) (C : Nat → Nat → Nat → Int32) (D : Nat → Nat → Int32) (ld ob : Nat → Int32) (E : Nat → Int64) (hk : 0 = chF (fun j => D 33 (8 + j)) rest) (h0 : 0 < rest) (K : z_Ev xs L m_X5_share (113, [some (aR 0 32), some (aI all), some (aI mask), some (aI (left - (if left ≤ D 33 0 - ld 0 then left else D 33 0 - ld 0))), some (aI could), some (aI (rest - 1)), none, none], [], (C, mk2 D (upd ld 0 (ld 0 + (if left ≤ D 33 0 - ld 0 then left else D 33 0 - ld 0))) ob, E)) o M' kk) : z_Ev xs L m_X5_share (113, [some (aR 0 32), some (aI all), some (aI mask), some (aI left), some (aI could), some (aI rest), none, none], [], (C, mk2 D ld ob, E)) o M' kk := by
  refine z_Ev_blk 2 (c' := ((if rest ≤ 0 then 199 else 118), [some (aR 0 32), some (aI all), some (aI mask), some (aI left), some (aI could), some (aI rest), none, none], [], (C, mk2 D ld ob, E))) rfl trivial ?_
  refine z_Ev_else (Int32.not_le.mpr h0) ?_
  refine z_Ev_blk 2 (c' := (121, [some (aR 0 32), some (aI all), some (aI mask), some (aI left), some (aI could), some (aI rest), none, none], [aI rest, aR 0 32], (C, mk2 D ld ob, E))) rfl trivial ?_
  refine z_Ev_call0 (m' := m_X5_cheapestOf) (as := [aR 0 32, aI rest]) (r := []) (by have q := e_cheapestOf (xs := xs) (L := L) rest C (mk2 D ld ob) E; rw [show chF (fun j => mk2 D ld ob 33 (8 + j)) rest = 0 from hk.symm] at q; exact q) rfl rfl ?_
  refine z_Ev_blk 14 (c' := ((if left ≤ ((D 33 0) - (ld 0)) then 167 else 147), [some (aR 0 32), some (aI all), some (aI mask), some (aI left), some (aI could), some (aI rest), some (aI (0 : Int32)), none], [], (C, mk2 D ld ob, E))) rfl ⟨rfl, rfl, trivial⟩ ?_
  refine z_Ev_ite (fun h1 => ?_) (fun h1 => ?_)
  · skip
    refine z_Ev_blk 21 (c' := (113, [some (aR 0 32), some (aI all), some (aI mask), some (aI (left - left)), some (aI could), some (aI (rest - (1 : Int32))), some (aI (0 : Int32)), some (aI left)], [], (C, up2 (mk2 D ld ob) 37 0 ((ld 0) + left), E))) rfl ⟨rfl, rfl, trivial⟩ ?_
    refine z_Ev_fgt [true, true, true, true, true, true, false, false] ?_
    exact z_Ev_eq (c := (113, [some (aR 0 32), some (aI all), some (aI mask), some (aI (left - left)), some (aI could), some (aI (rest - (1 : Int32))), none, none], [], (C, up2 (mk2 D ld ob) 37 0 ((ld 0) + left), E))) (c' := (113, [some (aR 0 32), some (aI all), some (aI mask), some (aI (left - (if left ≤ D 33 0 - ld 0 then left else D 33 0 - ld 0))), some (aI could), some (aI (rest - 1)), none, none], [], (C, mk2 D (upd ld 0 (ld 0 + (if left ≤ D 33 0 - ld 0 then left else D 33 0 - ld 0))) ob, E))) (by simp [h1, mk2_37]) K
  · skip
    refine z_Ev_blk 25 (c' := (187, [some (aR 0 32), some (aI all), some (aI mask), some (aI (left - ((D 33 0) - (ld 0)))), some (aI could), some (aI rest), some (aI (0 : Int32)), some (aI ((D 33 0) - (ld 0)))], [], (C, up2 (mk2 D ld ob) 37 0 ((ld 0) + ((D 33 0) - (ld 0))), E))) rfl ⟨rfl, rfl, rfl, rfl, trivial⟩ ?_
    refine z_Ev_blk 7 (c' := (113, [some (aR 0 32), some (aI all), some (aI mask), some (aI (left - ((D 33 0) - (ld 0)))), some (aI could), some (aI (rest - (1 : Int32))), some (aI (0 : Int32)), some (aI ((D 33 0) - (ld 0)))], [], (C, up2 (mk2 D ld ob) 37 0 ((ld 0) + ((D 33 0) - (ld 0))), E))) rfl trivial ?_
    refine z_Ev_fgt [true, true, true, true, true, true, false, false] ?_
    exact z_Ev_eq (c := (113, [some (aR 0 32), some (aI all), some (aI mask), some (aI (left - ((D 33 0) - (ld 0)))), some (aI could), some (aI (rest - (1 : Int32))), none, none], [], (C, up2 (mk2 D ld ob) 37 0 ((ld 0) + ((D 33 0) - (ld 0))), E))) (c' := (113, [some (aR 0 32), some (aI all), some (aI mask), some (aI (left - (if left ≤ D 33 0 - ld 0 then left else D 33 0 - ld 0))), some (aI could), some (aI (rest - 1)), none, none], [], (C, mk2 D (upd ld 0 (ld 0 + (if left ≤ D 33 0 - ld 0 then left else D 33 0 - ld 0))) ob, E))) (by simp [h1, mk2_37]) K
theorem sh2_1 {xs : Nat → Int32} {L : Nat} {o : z_Rs} {M' : Mem} {kk : Nat} (all mask left could rest : Int32) (C : Nat → Nat → Nat → Int32) (D : Nat → Nat → Int32) (ld ob : Nat → Int32) (E : Nat → Int64) (hk : 1 = chF (fun j => D 33 (8 + j)) rest) (h0 : 0 < rest) (K : z_Ev xs L m_X5_share (113, [some (aR 0 32), some (aI all), some (aI mask), some (aI (left - (if left ≤ D 33 1 - ld 1 then left else D 33 1 - ld 1))), some (aI could), some (aI (rest - 2)), none, none], [], (C, mk2 D (upd ld 1 (ld 1 + (if left ≤ D 33 1 - ld 1 then left else D 33 1 - ld 1))) ob, E)) o M' kk) : z_Ev xs L m_X5_share (113, [some (aR 0 32), some (aI all), some (aI mask), some (aI left), some (aI could), some (aI rest), none, none], [], (C, mk2 D ld ob, E)) o M' kk := by
  refine z_Ev_blk 2 (c' := ((if rest ≤ 0 then 199 else 118), [some (aR 0 32), some (aI all), some (aI mask), some (aI left), some (aI could), some (aI rest), none, none], [], (C, mk2 D ld ob, E))) rfl trivial ?_
  refine z_Ev_else (Int32.not_le.mpr h0) ?_
  refine z_Ev_blk 2 (c' := (121, [some (aR 0 32), some (aI all), some (aI mask), some (aI left), some (aI could), some (aI rest), none, none], [aI rest, aR 0 32], (C, mk2 D ld ob, E))) rfl trivial ?_
  refine z_Ev_call0 (m' := m_X5_cheapestOf) (as := [aR 0 32, aI rest]) (r := []) (by have q := e_cheapestOf (xs := xs) (L := L) rest C (mk2 D ld ob) E; rw [show chF (fun j => mk2 D ld ob 33 (8 + j)) rest = 1 from hk.symm] at q; exact q) rfl rfl ?_
  refine z_Ev_blk 14 (c' := ((if left ≤ ((D 33 1) - (ld 1)) then 167 else 147), [some (aR 0 32), some (aI all), some (aI mask), some (aI left), some (aI could), some (aI rest), some (aI (1 : Int32)), none], [], (C, mk2 D ld ob, E))) rfl ⟨rfl, rfl, trivial⟩ ?_
  refine z_Ev_ite (fun h1 => ?_) (fun h1 => ?_)
  · skip
    refine z_Ev_blk 21 (c' := (113, [some (aR 0 32), some (aI all), some (aI mask), some (aI (left - left)), some (aI could), some (aI (rest - (2 : Int32))), some (aI (1 : Int32)), some (aI left)], [], (C, up2 (mk2 D ld ob) 37 1 ((ld 1) + left), E))) rfl ⟨rfl, rfl, trivial⟩ ?_
    refine z_Ev_fgt [true, true, true, true, true, true, false, false] ?_
    exact z_Ev_eq (c := (113, [some (aR 0 32), some (aI all), some (aI mask), some (aI (left - left)), some (aI could), some (aI (rest - (2 : Int32))), none, none], [], (C, up2 (mk2 D ld ob) 37 1 ((ld 1) + left), E))) (c' := (113, [some (aR 0 32), some (aI all), some (aI mask), some (aI (left - (if left ≤ D 33 1 - ld 1 then left else D 33 1 - ld 1))), some (aI could), some (aI (rest - 2)), none, none], [], (C, mk2 D (upd ld 1 (ld 1 + (if left ≤ D 33 1 - ld 1 then left else D 33 1 - ld 1))) ob, E))) (by simp [h1, mk2_37]) K
  · skip
    refine z_Ev_blk 25 (c' := (187, [some (aR 0 32), some (aI all), some (aI mask), some (aI (left - ((D 33 1) - (ld 1)))), some (aI could), some (aI rest), some (aI (1 : Int32)), some (aI ((D 33 1) - (ld 1)))], [], (C, up2 (mk2 D ld ob) 37 1 ((ld 1) + ((D 33 1) - (ld 1))), E))) rfl ⟨rfl, rfl, rfl, rfl, trivial⟩ ?_
    refine z_Ev_blk 7 (c' := (113, [some (aR 0 32), some (aI all), some (aI mask), some (aI (left - ((D 33 1) - (ld 1)))), some (aI could), some (aI (rest - (2 : Int32))), some (aI (1 : Int32)), some (aI ((D 33 1) - (ld 1)))], [], (C, up2 (mk2 D ld ob) 37 1 ((ld 1) + ((D 33 1) - (ld 1))), E))) rfl trivial ?_
    refine z_Ev_fgt [true, true, true, true, true, true, false, false] ?_
    exact z_Ev_eq (c := (113, [some (aR 0 32), some (aI all), some (aI mask), some (aI (left - ((D 33 1) - (ld 1)))), some (aI could), some (aI (rest - (2 : Int32))), none, none], [], (C, up2 (mk2 D ld ob) 37 1 ((ld 1) + ((D 33 1) - (ld 1))), E))) (c' := (113, [some (aR 0 32), some (aI all), some (aI mask), some (aI (left - (if left ≤ D 33 1 - ld 1 then left else D 33 1 - ld 1))), some (aI could), some (aI (rest - 2)), none, none], [], (C, mk2 D (upd ld 1 (ld 1 + (if left ≤ D 33 1 - ld 1 then left else D 33 1 - ld 1))) ob, E))) (by simp [h1, mk2_37]) K
theorem sh2_2 {xs : Nat → Int32} {L : Nat} {o : z_Rs} {M' : Mem} {kk : Nat} (all mask left could rest : Int32) (C : Nat → Nat → Nat → Int32) (D : Nat → Nat → Int32) (ld ob : Nat → Int32) (E : Nat → Int64) (hk : 2 = chF (fun j => D 33 (8 + j)) rest) (h0 : 0 < rest) (K : z_Ev xs L m_X5_share (113, [some (aR 0 32), some (aI all), some (aI mask), some (aI (left - (if left ≤ D 33 2 - ld 2 then left else D 33 2 - ld 2))), some (aI could), some (aI (rest - 4)), none, none], [], (C, mk2 D (upd ld 2 (ld 2 + (if left ≤ D 33 2 - ld 2 then left else D 33 2 - ld 2))) ob, E)) o M' kk) : z_Ev xs L m_X5_share (113, [some (aR 0 32), some (aI all), some (aI mask), some (aI left), some (aI could), some (aI rest), none, none], [], (C, mk2 D ld ob, E)) o M' kk := by
  refine z_Ev_blk 2 (c' := ((if rest ≤ 0 then 199 else 118), [some (aR 0 32), some (aI all), some (aI mask), some (aI left), some (aI could), some (aI rest), none, none], [], (C, mk2 D ld ob, E))) rfl trivial ?_
  refine z_Ev_else (Int32.not_le.mpr h0) ?_
  refine z_Ev_blk 2 (c' := (121, [some (aR 0 32), some (aI all), some (aI mask), some (aI left), some (aI could), some (aI rest), none, none], [aI rest, aR 0 32], (C, mk2 D ld ob, E))) rfl trivial ?_
  refine z_Ev_call0 (m' := m_X5_cheapestOf) (as := [aR 0 32, aI rest]) (r := []) (by have q := e_cheapestOf (xs := xs) (L := L) rest C (mk2 D ld ob) E; rw [show chF (fun j => mk2 D ld ob 33 (8 + j)) rest = 2 from hk.symm] at q; exact q) rfl rfl ?_
  refine z_Ev_blk 14 (c' := ((if left ≤ ((D 33 2) - (ld 2)) then 167 else 147), [some (aR 0 32), some (aI all), some (aI mask), some (aI left), some (aI could), some (aI rest), some (aI (2 : Int32)), none], [], (C, mk2 D ld ob, E))) rfl ⟨rfl, rfl, trivial⟩ ?_
  refine z_Ev_ite (fun h1 => ?_) (fun h1 => ?_)
  · skip
    refine z_Ev_blk 21 (c' := (113, [some (aR 0 32), some (aI all), some (aI mask), some (aI (left - left)), some (aI could), some (aI (rest - (4 : Int32))), some (aI (2 : Int32)), some (aI left)], [], (C, up2 (mk2 D ld ob) 37 2 ((ld 2) + left), E))) rfl ⟨rfl, rfl, trivial⟩ ?_
    refine z_Ev_fgt [true, true, true, true, true, true, false, false] ?_
    exact z_Ev_eq (c := (113, [some (aR 0 32), some (aI all), some (aI mask), some (aI (left - left)), some (aI could), some (aI (rest - (4 : Int32))), none, none], [], (C, up2 (mk2 D ld ob) 37 2 ((ld 2) + left), E))) (c' := (113, [some (aR 0 32), some (aI all), some (aI mask), some (aI (left - (if left ≤ D 33 2 - ld 2 then left else D 33 2 - ld 2))), some (aI could), some (aI (rest - 4)), none, none], [], (C, mk2 D (upd ld 2 (ld 2 + (if left ≤ D 33 2 - ld 2 then left else D 33 2 - ld 2))) ob, E))) (by simp [h1, mk2_37]) K
  · skip
    refine z_Ev_blk 25 (c' := (187, [some (aR 0 32), some (aI all), some (aI mask), some (aI (left - ((D 33 2) - (ld 2)))), some (aI could), some (aI rest), some (aI (2 : Int32)), some (aI ((D 33 2) - (ld 2)))], [], (C, up2 (mk2 D ld ob) 37 2 ((ld 2) + ((D 33 2) - (ld 2))), E))) rfl ⟨rfl, rfl, rfl, rfl, trivial⟩ ?_
    refine z_Ev_blk 7 (c' := (113, [some (aR 0 32), some (aI all), some (aI mask), some (aI (left - ((D 33 2) - (ld 2)))), some (aI could), some (aI (rest - (4 : Int32))), some (aI (2 : Int32)), some (aI ((D 33 2) - (ld 2)))], [], (C, up2 (mk2 D ld ob) 37 2 ((ld 2) + ((D 33 2) - (ld 2))), E))) rfl trivial ?_
    refine z_Ev_fgt [true, true, true, true, true, true, false, false] ?_
    exact z_Ev_eq (c := (113, [some (aR 0 32), some (aI all), some (aI mask), some (aI (left - ((D 33 2) - (ld 2)))), some (aI could), some (aI (rest - (4 : Int32))), none, none], [], (C, up2 (mk2 D ld ob) 37 2 ((ld 2) + ((D 33 2) - (ld 2))), E))) (c' := (113, [some (aR 0 32), some (aI all), some (aI mask), some (aI (left - (if left ≤ D 33 2 - ld 2 then left else D 33 2 - ld 2))), some (aI could), some (aI (rest - 4)), none, none], [], (C, mk2 D (upd ld 2 (ld 2 + (if left ≤ D 33 2 - ld 2 then left else D 33 2 - ld 2))) ob, E))) (by simp [h1, mk2_37]) K
theorem sh2_3 {xs : Nat → Int32} {L : Nat} {o : z_Rs} {M' : Mem} {kk : Nat} (all mask left could rest : Int32) (C : Nat → Nat → Nat → Int32) (D : Nat → Nat → Int32) (ld ob : Nat → Int32) (E : Nat → Int64) (hk : 3 = chF (fun j => D 33 (8 + j)) rest) (h0 : 0 < rest) (K : z_Ev xs L m_X5_share (113, [some (aR 0 32), some (aI all), some (aI mask), some (aI (left - (if left ≤ D 33 3 - ld 3 then left else D 33 3 - ld 3))), some (aI could), some (aI (rest - 8)), none, none], [], (C, mk2 D (upd ld 3 (ld 3 + (if left ≤ D 33 3 - ld 3 then left else D 33 3 - ld 3))) ob, E)) o M' kk) : z_Ev xs L m_X5_share (113, [some (aR 0 32), some (aI all), some (aI mask), some (aI left), some (aI could), some (aI rest), none, none], [], (C, mk2 D ld ob, E)) o M' kk := by
  refine z_Ev_blk 2 (c' := ((if rest ≤ 0 then 199 else 118), [some (aR 0 32), some (aI all), some (aI mask), some (aI left), some (aI could), some (aI rest), none, none], [], (C, mk2 D ld ob, E))) rfl trivial ?_
  refine z_Ev_else (Int32.not_le.mpr h0) ?_
  refine z_Ev_blk 2 (c' := (121, [some (aR 0 32), some (aI all), some (aI mask), some (aI left), some (aI could), some (aI rest), none, none], [aI rest, aR 0 32], (C, mk2 D ld ob, E))) rfl trivial ?_
  refine z_Ev_call0 (m' := m_X5_cheapestOf) (as := [aR 0 32, aI rest]) (r := []) (by have q := e_cheapestOf (xs := xs) (L := L) rest C (mk2 D ld ob) E; rw [show chF (fun j => mk2 D ld ob 33 (8 + j)) rest = 3 from hk.symm] at q; exact q) rfl rfl ?_
  refine z_Ev_blk 14 (c' := ((if left ≤ ((D 33 3) - (ld 3)) then 167 else 147), [some (aR 0 32), some (aI all), some (aI mask), some (aI left), some (aI could), some (aI rest), some (aI (3 : Int32)), none], [], (C, mk2 D ld ob, E))) rfl ⟨rfl, rfl, trivial⟩ ?_
  refine z_Ev_ite (fun h1 => ?_) (fun h1 => ?_)
  · skip
    refine z_Ev_blk 21 (c' := (113, [some (aR 0 32), some (aI all), some (aI mask), some (aI (left - left)), some (aI could), some (aI (rest - (8 : Int32))), some (aI (3 : Int32)), some (aI left)], [], (C, up2 (mk2 D ld ob) 37 3 ((ld 3) + left), E))) rfl ⟨rfl, rfl, trivial⟩ ?_
    refine z_Ev_fgt [true, true, true, true, true, true, false, false] ?_
    exact z_Ev_eq (c := (113, [some (aR 0 32), some (aI all), some (aI mask), some (aI (left - left)), some (aI could), some (aI (rest - (8 : Int32))), none, none], [], (C, up2 (mk2 D ld ob) 37 3 ((ld 3) + left), E))) (c' := (113, [some (aR 0 32), some (aI all), some (aI mask), some (aI (left - (if left ≤ D 33 3 - ld 3 then left else D 33 3 - ld 3))), some (aI could), some (aI (rest - 8)), none, none], [], (C, mk2 D (upd ld 3 (ld 3 + (if left ≤ D 33 3 - ld 3 then left else D 33 3 - ld 3))) ob, E))) (by simp [h1, mk2_37]) K
  · skip
    refine z_Ev_blk 25 (c' := (187, [some (aR 0 32), some (aI all), some (aI mask), some (aI (left - ((D 33 3) - (ld 3)))), some (aI could), some (aI rest), some (aI (3 : Int32)), some (aI ((D 33 3) - (ld 3)))], [], (C, up2 (mk2 D ld ob) 37 3 ((ld 3) + ((D 33 3) - (ld 3))), E))) rfl ⟨rfl, rfl, rfl, rfl, trivial⟩ ?_
    refine z_Ev_blk 7 (c' := (113, [some (aR 0 32), some (aI all), some (aI mask), some (aI (left - ((D 33 3) - (ld 3)))), some (aI could), some (aI (rest - (8 : Int32))), some (aI (3 : Int32)), some (aI ((D 33 3) - (ld 3)))], [], (C, up2 (mk2 D ld ob) 37 3 ((ld 3) + ((D 33 3) - (ld 3))), E))) rfl trivial ?_
    refine z_Ev_fgt [true, true, true, true, true, true, false, false] ?_
    exact z_Ev_eq (c := (113, [some (aR 0 32), some (aI all), some (aI mask), some (aI (left - ((D 33 3) - (ld 3)))), some (aI could), some (aI (rest - (8 : Int32))), none, none], [], (C, up2 (mk2 D ld ob) 37 3 ((ld 3) + ((D 33 3) - (ld 3))), E))) (c' := (113, [some (aR 0 32), some (aI all), some (aI mask), some (aI (left - (if left ≤ D 33 3 - ld 3 then left else D 33 3 - ld 3))), some (aI could), some (aI (rest - 8)), none, none], [], (C, mk2 D (upd ld 3 (ld 3 + (if left ≤ D 33 3 - ld 3 then left else D 33 3 - ld 3))) ob, E))) (by simp [h1, mk2_37]) K
theorem sh2_e {xs : Nat → Int32} {L : Nat} {o : z_Rs} {M' : Mem} {kk : Nat} (all mask left could rest : Int32) (C : Nat → Nat → Nat → Int32) (D : Nat → Nat → Int32) (ld ob : Nat → Int32) (E : Nat → Int64) (h0 : rest ≤ 0) (K : z_Ev xs L m_X5_share (234, [some (aR 0 32), some (aI all), some (aI mask), none, some (aI could), none, some (aI (0 : Int32)), none], [], (C, mk2 D ld (upd (upd (upd (upd ob 8 left) 10 could) 11 (f_b (left = 0))) 12 0), E)) o M' kk) : z_Ev xs L m_X5_share (113, [some (aR 0 32), some (aI all), some (aI mask), some (aI left), some (aI could), some (aI rest), none, none], [], (C, mk2 D ld ob, E)) o M' kk := by
  refine z_Ev_blk 2 (c' := ((if rest ≤ 0 then 199 else 118), [some (aR 0 32), some (aI all), some (aI mask), some (aI left), some (aI could), some (aI rest), none, none], [], (C, mk2 D ld ob, E))) rfl trivial ?_
  refine z_Ev_if (h0) ?_
  refine z_Ev_blk 10 (c' := ((if left = 0 then 218 else 222), [some (aR 0 32), some (aI all), some (aI mask), some (aI left), some (aI could), some (aI rest), none, none], [aR 0 32], (C, up2 (up2 (mk2 D ld ob) 32 8 left) 32 10 could, E))) rfl trivial ?_
  refine z_Ev_ite (fun h1 => ?_) (fun h1 => ?_)
  · skip
    refine z_Ev_blk 8 (c' := (234, [some (aR 0 32), some (aI all), some (aI mask), some (aI left), some (aI could), some (aI rest), some (aI (0 : Int32)), none], [], (C, up2 (up2 (up2 (up2 (mk2 D ld ob) 32 8 left) 32 10 could) 32 11 (1 : Int32)) 32 12 (0 : Int32), E))) rfl ⟨rfl, trivial⟩ ?_
    refine z_Ev_fgt [true, true, true, false, true, false, true, false] ?_
    exact z_Ev_eq (c := (234, [some (aR 0 32), some (aI all), some (aI mask), none, some (aI could), none, some (aI (0 : Int32)), none], [], (C, up2 (up2 (up2 (up2 (mk2 D ld ob) 32 8 left) 32 10 could) 32 11 (1 : Int32)) 32 12 (0 : Int32), E))) (c' := (234, [some (aR 0 32), some (aI all), some (aI mask), none, some (aI could), none, some (aI (0 : Int32)), none], [], (C, mk2 D ld (upd (upd (upd (upd ob 8 left) 10 could) 11 (f_b (left = 0))) 12 0), E))) (by simp [h1, mk2_32, f_b]) K
  · skip
    refine z_Ev_blk 7 (c' := (234, [some (aR 0 32), some (aI all), some (aI mask), some (aI left), some (aI could), some (aI rest), some (aI (0 : Int32)), none], [], (C, up2 (up2 (up2 (up2 (mk2 D ld ob) 32 8 left) 32 10 could) 32 11 (0 : Int32)) 32 12 (0 : Int32), E))) rfl ⟨rfl, trivial⟩ ?_
    refine z_Ev_fgt [true, true, true, false, true, false, true, false] ?_
    exact z_Ev_eq (c := (234, [some (aR 0 32), some (aI all), some (aI mask), none, some (aI could), none, some (aI (0 : Int32)), none], [], (C, up2 (up2 (up2 (up2 (mk2 D ld ob) 32 8 left) 32 10 could) 32 11 (0 : Int32)) 32 12 (0 : Int32), E))) (c' := (234, [some (aR 0 32), some (aI all), some (aI mask), none, some (aI could), none, some (aI (0 : Int32)), none], [], (C, mk2 D ld (upd (upd (upd (upd ob 8 left) 10 could) 11 (f_b (left = 0))) 12 0), E))) (by simp [h1, mk2_32, f_b]) K
theorem sh3_0 {xs : Nat → Int32} {L : Nat} {o : z_Rs} {M' : Mem} {kk : Nat} (all mask could : Int32) (C : Nat → Nat → Nat → Int32) (D : Nat → Nat → Int32) (ld ob : Nat → Int32) (E : Nat → Int64)  (K : z_Ev xs L m_X5_share (234, [some (aR 0 32), some (aI all), some (aI mask), none, some (aI could), none, some (aI (1 : Int32)), none], [], (C, mk2 D ld (upd (upd (upd ob 10 (ob 10 - ld 0)) 11 (if ob 11 = 0 then 0 else if hs mask 0 = true then (if could - D 33 0 < all then 0 else 1) else 1)) 12 (ob 12 + D 33 8 * ld 0 / 10)), E)) o M' kk) : z_Ev xs L m_X5_share (234, [some (aR 0 32), some (aI all), some (aI mask), none, some (aI could), none, some (aI (0 : Int32)), none], [], (C, mk2 D ld ob, E)) o M' kk := by
  refine z_Ev_blk 3 (c' := ((if (4 : Int32) ≤ (0 : Int32) then 333 else 240), [some (aR 0 32), some (aI all), some (aI mask), none, some (aI could), none, some (aI (0 : Int32)), none], [], (C, mk2 D ld ob, E))) rfl trivial ?_
  refine z_Ev_else (by decide) ?_
  refine z_Ev_blk 13 (c' := ((if (ob 11) = 0 then 293 else 264), [some (aR 0 32), some (aI all), some (aI mask), none, some (aI could), none, some (aI (0 : Int32)), none], [aR 0 32], (C, up2 (mk2 D ld ob) 32 10 ((ob 10) - (ld 0)), E))) rfl ⟨rfl, trivial⟩ ?_
  refine z_Ev_ite (fun h1 => ?_) (fun h1 => ?_)
  · skip
    refine z_Ev_blk 22 (c' := (234, [some (aR 0 32), some (aI all), some (aI mask), none, some (aI could), none, some (aI (1 : Int32)), none], [], (C, up2 (up2 (up2 (mk2 D ld ob) 32 10 ((ob 10) - (ld 0))) 32 11 (0 : Int32)) 32 12 ((ob 12) + (((D 33 8) * (ld 0)) / (10 : Int32))), E))) rfl ⟨rfl, rfl, rfl, by decide, trivial⟩ ?_
    refine z_Ev_fgt [true, true, true, false, true, false, true, false] ?_
    exact z_Ev_eq (c := (234, [some (aR 0 32), some (aI all), some (aI mask), none, some (aI could), none, some (aI (1 : Int32)), none], [], (C, up2 (up2 (up2 (mk2 D ld ob) 32 10 ((ob 10) - (ld 0))) 32 11 (0 : Int32)) 32 12 ((ob 12) + (((D 33 8) * (ld 0)) / (10 : Int32))), E))) (c' := (234, [some (aR 0 32), some (aI all), some (aI mask), none, some (aI could), none, some (aI (1 : Int32)), none], [], (C, mk2 D ld (upd (upd (upd ob 10 (ob 10 - ld 0)) 11 (if ob 11 = 0 then 0 else if hs mask 0 = true then (if could - D 33 0 < all then 0 else 1) else 1)) 12 (ob 12 + D 33 8 * ld 0 / 10)), E))) (by simp [h1, mk2_32]) K
  · skip
    refine z_Ev_blk 2 (c' := (267, [some (aR 0 32), some (aI all), some (aI mask), none, some (aI could), none, some (aI (0 : Int32)), none], [aI (0 : Int32), aI mask, aR 0 32], (C, up2 (mk2 D ld ob) 32 10 ((ob 10) - (ld 0)), E))) rfl trivial ?_
    refine z_Ev_call0 (m' := m_X5_has) (as := [aI mask, aI (0 : Int32)]) (r := [aR 0 32]) (e_has mask (0 : Int32) _ _ _) rfl rfl ?_
    refine z_Ev_blk 1 (c' := ((if (f_b (hs mask (0 : Int32) = true)) = 0 then 289 else 273), [some (aR 0 32), some (aI all), some (aI mask), none, some (aI could), none, some (aI (0 : Int32)), none], [aR 0 32], (C, up2 (mk2 D ld ob) 32 10 ((ob 10) - (ld 0)), E))) rfl trivial ?_
    refine z_Ev_ite (fun h2 => ?_) (fun h2 => ?_)
    · replace h2 := f_bZ h2
      refine z_Ev_blk 23 (c' := (234, [some (aR 0 32), some (aI all), some (aI mask), none, some (aI could), none, some (aI (1 : Int32)), none], [], (C, up2 (up2 (up2 (mk2 D ld ob) 32 10 ((ob 10) - (ld 0))) 32 11 (1 : Int32)) 32 12 ((ob 12) + (((D 33 8) * (ld 0)) / (10 : Int32))), E))) rfl ⟨rfl, rfl, rfl, by decide, trivial⟩ ?_
      refine z_Ev_fgt [true, true, true, false, true, false, true, false] ?_
      exact z_Ev_eq (c := (234, [some (aR 0 32), some (aI all), some (aI mask), none, some (aI could), none, some (aI (1 : Int32)), none], [], (C, up2 (up2 (up2 (mk2 D ld ob) 32 10 ((ob 10) - (ld 0))) 32 11 (1 : Int32)) 32 12 ((ob 12) + (((D 33 8) * (ld 0)) / (10 : Int32))), E))) (c' := (234, [some (aR 0 32), some (aI all), some (aI mask), none, some (aI could), none, some (aI (1 : Int32)), none], [], (C, mk2 D ld (upd (upd (upd ob 10 (ob 10 - ld 0)) 11 (if ob 11 = 0 then 0 else if hs mask 0 = true then (if could - D 33 0 < all then 0 else 1) else 1)) 12 (ob 12 + D 33 8 * ld 0 / 10)), E))) (by simp [h1, h2, mk2_32]) K
    · replace h2 := f_bQ h2
      refine z_Ev_blk 10 (c' := ((if (could - (D 33 0)) < all then 293 else 289), [some (aR 0 32), some (aI all), some (aI mask), none, some (aI could), none, some (aI (0 : Int32)), none], [aR 0 32], (C, up2 (mk2 D ld ob) 32 10 ((ob 10) - (ld 0)), E))) rfl ⟨rfl, trivial⟩ ?_
      refine z_Ev_ite (fun h3 => ?_) (fun h3 => ?_)
      · skip
        refine z_Ev_blk 22 (c' := (234, [some (aR 0 32), some (aI all), some (aI mask), none, some (aI could), none, some (aI (1 : Int32)), none], [], (C, up2 (up2 (up2 (mk2 D ld ob) 32 10 ((ob 10) - (ld 0))) 32 11 (0 : Int32)) 32 12 ((ob 12) + (((D 33 8) * (ld 0)) / (10 : Int32))), E))) rfl ⟨rfl, rfl, rfl, by decide, trivial⟩ ?_
        refine z_Ev_fgt [true, true, true, false, true, false, true, false] ?_
        exact z_Ev_eq (c := (234, [some (aR 0 32), some (aI all), some (aI mask), none, some (aI could), none, some (aI (1 : Int32)), none], [], (C, up2 (up2 (up2 (mk2 D ld ob) 32 10 ((ob 10) - (ld 0))) 32 11 (0 : Int32)) 32 12 ((ob 12) + (((D 33 8) * (ld 0)) / (10 : Int32))), E))) (c' := (234, [some (aR 0 32), some (aI all), some (aI mask), none, some (aI could), none, some (aI (1 : Int32)), none], [], (C, mk2 D ld (upd (upd (upd ob 10 (ob 10 - ld 0)) 11 (if ob 11 = 0 then 0 else if hs mask 0 = true then (if could - D 33 0 < all then 0 else 1) else 1)) 12 (ob 12 + D 33 8 * ld 0 / 10)), E))) (by simp [h1, h2, h3, mk2_32]) K
      · skip
        refine z_Ev_blk 23 (c' := (234, [some (aR 0 32), some (aI all), some (aI mask), none, some (aI could), none, some (aI (1 : Int32)), none], [], (C, up2 (up2 (up2 (mk2 D ld ob) 32 10 ((ob 10) - (ld 0))) 32 11 (1 : Int32)) 32 12 ((ob 12) + (((D 33 8) * (ld 0)) / (10 : Int32))), E))) rfl ⟨rfl, rfl, rfl, by decide, trivial⟩ ?_
        refine z_Ev_fgt [true, true, true, false, true, false, true, false] ?_
        exact z_Ev_eq (c := (234, [some (aR 0 32), some (aI all), some (aI mask), none, some (aI could), none, some (aI (1 : Int32)), none], [], (C, up2 (up2 (up2 (mk2 D ld ob) 32 10 ((ob 10) - (ld 0))) 32 11 (1 : Int32)) 32 12 ((ob 12) + (((D 33 8) * (ld 0)) / (10 : Int32))), E))) (c' := (234, [some (aR 0 32), some (aI all), some (aI mask), none, some (aI could), none, some (aI (1 : Int32)), none], [], (C, mk2 D ld (upd (upd (upd ob 10 (ob 10 - ld 0)) 11 (if ob 11 = 0 then 0 else if hs mask 0 = true then (if could - D 33 0 < all then 0 else 1) else 1)) 12 (ob 12 + D 33 8 * ld 0 / 10)), E))) (by simp [h1, h2, h3, mk2_32]) K
theorem sh3_1 {xs : Nat → Int32} {L : Nat} {o : z_Rs} {M' : Mem} {kk : Nat} (all mask could : Int32) (C : Nat → Nat → Nat → Int32) (D : Nat → Nat → Int32) (ld ob : Nat → Int32) (E : Nat → Int64)  (K : z_Ev xs L m_X5_share (234, [some (aR 0 32), some (aI all), some (aI mask), none, some (aI could), none, some (aI (2 : Int32)), none], [], (C, mk2 D ld (upd (upd (upd ob 10 (ob 10 - ld 1)) 11 (if ob 11 = 0 then 0 else if hs mask 1 = true then (if could - D 33 1 < all then 0 else 1) else 1)) 12 (ob 12 + D 33 9 * ld 1 / 10)), E)) o M' kk) : z_Ev xs L m_X5_share (234, [some (aR 0 32), some (aI all), some (aI mask), none, some (aI could), none, some (aI (1 : Int32)), none], [], (C, mk2 D ld ob, E)) o M' kk := by
  refine z_Ev_blk 3 (c' := ((if (4 : Int32) ≤ (1 : Int32) then 333 else 240), [some (aR 0 32), some (aI all), some (aI mask), none, some (aI could), none, some (aI (1 : Int32)), none], [], (C, mk2 D ld ob, E))) rfl trivial ?_
  refine z_Ev_else (by decide) ?_
  refine z_Ev_blk 13 (c' := ((if (ob 11) = 0 then 293 else 264), [some (aR 0 32), some (aI all), some (aI mask), none, some (aI could), none, some (aI (1 : Int32)), none], [aR 0 32], (C, up2 (mk2 D ld ob) 32 10 ((ob 10) - (ld 1)), E))) rfl ⟨rfl, trivial⟩ ?_
  refine z_Ev_ite (fun h1 => ?_) (fun h1 => ?_)
  · skip
    refine z_Ev_blk 22 (c' := (234, [some (aR 0 32), some (aI all), some (aI mask), none, some (aI could), none, some (aI (2 : Int32)), none], [], (C, up2 (up2 (up2 (mk2 D ld ob) 32 10 ((ob 10) - (ld 1))) 32 11 (0 : Int32)) 32 12 ((ob 12) + (((D 33 9) * (ld 1)) / (10 : Int32))), E))) rfl ⟨rfl, rfl, rfl, by decide, trivial⟩ ?_
    refine z_Ev_fgt [true, true, true, false, true, false, true, false] ?_
    exact z_Ev_eq (c := (234, [some (aR 0 32), some (aI all), some (aI mask), none, some (aI could), none, some (aI (2 : Int32)), none], [], (C, up2 (up2 (up2 (mk2 D ld ob) 32 10 ((ob 10) - (ld 1))) 32 11 (0 : Int32)) 32 12 ((ob 12) + (((D 33 9) * (ld 1)) / (10 : Int32))), E))) (c' := (234, [some (aR 0 32), some (aI all), some (aI mask), none, some (aI could), none, some (aI (2 : Int32)), none], [], (C, mk2 D ld (upd (upd (upd ob 10 (ob 10 - ld 1)) 11 (if ob 11 = 0 then 0 else if hs mask 1 = true then (if could - D 33 1 < all then 0 else 1) else 1)) 12 (ob 12 + D 33 9 * ld 1 / 10)), E))) (by simp [h1, mk2_32]) K
  · skip
    refine z_Ev_blk 2 (c' := (267, [some (aR 0 32), some (aI all), some (aI mask), none, some (aI could), none, some (aI (1 : Int32)), none], [aI (1 : Int32), aI mask, aR 0 32], (C, up2 (mk2 D ld ob) 32 10 ((ob 10) - (ld 1)), E))) rfl trivial ?_
    refine z_Ev_call0 (m' := m_X5_has) (as := [aI mask, aI (1 : Int32)]) (r := [aR 0 32]) (e_has mask (1 : Int32) _ _ _) rfl rfl ?_
    refine z_Ev_blk 1 (c' := ((if (f_b (hs mask (1 : Int32) = true)) = 0 then 289 else 273), [some (aR 0 32), some (aI all), some (aI mask), none, some (aI could), none, some (aI (1 : Int32)), none], [aR 0 32], (C, up2 (mk2 D ld ob) 32 10 ((ob 10) - (ld 1)), E))) rfl trivial ?_
    refine z_Ev_ite (fun h2 => ?_) (fun h2 => ?_)
    · replace h2 := f_bZ h2
      refine z_Ev_blk 23 (c' := (234, [some (aR 0 32), some (aI all), some (aI mask), none, some (aI could), none, some (aI (2 : Int32)), none], [], (C, up2 (up2 (up2 (mk2 D ld ob) 32 10 ((ob 10) - (ld 1))) 32 11 (1 : Int32)) 32 12 ((ob 12) + (((D 33 9) * (ld 1)) / (10 : Int32))), E))) rfl ⟨rfl, rfl, rfl, by decide, trivial⟩ ?_
      refine z_Ev_fgt [true, true, true, false, true, false, true, false] ?_
      exact z_Ev_eq (c := (234, [some (aR 0 32), some (aI all), some (aI mask), none, some (aI could), none, some (aI (2 : Int32)), none], [], (C, up2 (up2 (up2 (mk2 D ld ob) 32 10 ((ob 10) - (ld 1))) 32 11 (1 : Int32)) 32 12 ((ob 12) + (((D 33 9) * (ld 1)) / (10 : Int32))), E))) (c' := (234, [some (aR 0 32), some (aI all), some (aI mask), none, some (aI could), none, some (aI (2 : Int32)), none], [], (C, mk2 D ld (upd (upd (upd ob 10 (ob 10 - ld 1)) 11 (if ob 11 = 0 then 0 else if hs mask 1 = true then (if could - D 33 1 < all then 0 else 1) else 1)) 12 (ob 12 + D 33 9 * ld 1 / 10)), E))) (by simp [h1, h2, mk2_32]) K
    · replace h2 := f_bQ h2
      refine z_Ev_blk 10 (c' := ((if (could - (D 33 1)) < all then 293 else 289), [some (aR 0 32), some (aI all), some (aI mask), none, some (aI could), none, some (aI (1 : Int32)), none], [aR 0 32], (C, up2 (mk2 D ld ob) 32 10 ((ob 10) - (ld 1)), E))) rfl ⟨rfl, trivial⟩ ?_
      refine z_Ev_ite (fun h3 => ?_) (fun h3 => ?_)
      · skip
        refine z_Ev_blk 22 (c' := (234, [some (aR 0 32), some (aI all), some (aI mask), none, some (aI could), none, some (aI (2 : Int32)), none], [], (C, up2 (up2 (up2 (mk2 D ld ob) 32 10 ((ob 10) - (ld 1))) 32 11 (0 : Int32)) 32 12 ((ob 12) + (((D 33 9) * (ld 1)) / (10 : Int32))), E))) rfl ⟨rfl, rfl, rfl, by decide, trivial⟩ ?_
        refine z_Ev_fgt [true, true, true, false, true, false, true, false] ?_
        exact z_Ev_eq (c := (234, [some (aR 0 32), some (aI all), some (aI mask), none, some (aI could), none, some (aI (2 : Int32)), none], [], (C, up2 (up2 (up2 (mk2 D ld ob) 32 10 ((ob 10) - (ld 1))) 32 11 (0 : Int32)) 32 12 ((ob 12) + (((D 33 9) * (ld 1)) / (10 : Int32))), E))) (c' := (234, [some (aR 0 32), some (aI all), some (aI mask), none, some (aI could), none, some (aI (2 : Int32)), none], [], (C, mk2 D ld (upd (upd (upd ob 10 (ob 10 - ld 1)) 11 (if ob 11 = 0 then 0 else if hs mask 1 = true then (if could - D 33 1 < all then 0 else 1) else 1)) 12 (ob 12 + D 33 9 * ld 1 / 10)), E))) (by simp [h1, h2, h3, mk2_32]) K
      · skip
        refine z_Ev_blk 23 (c' := (234, [some (aR 0 32), some (aI all), some (aI mask), none, some (aI could), none, some (aI (2 : Int32)), none], [], (C, up2 (up2 (up2 (mk2 D ld ob) 32 10 ((ob 10) - (ld 1))) 32 11 (1 : Int32)) 32 12 ((ob 12) + (((D 33 9) * (ld 1)) / (10 : Int32))), E))) rfl ⟨rfl, rfl, rfl, by decide, trivial⟩ ?_
        refine z_Ev_fgt [true, true, true, false, true, false, true, false] ?_
        exact z_Ev_eq (c := (234, [some (aR 0 32), some (aI all), some (aI mask), none, some (aI could), none, some (aI (2 : Int32)), none], [], (C, up2 (up2 (up2 (mk2 D ld ob) 32 10 ((ob 10) - (ld 1))) 32 11 (1 : Int32)) 32 12 ((ob 12) + (((D 33 9) * (ld 1)) / (10 : Int32))), E))) (c' := (234, [some (aR 0 32), some (aI all), some (aI mask), none, some (aI could), none, some (aI (2 : Int32)), none], [], (C, mk2 D ld (upd (upd (upd ob 10 (ob 10 - ld 1)) 11 (if ob 11 = 0 then 0 else if hs mask 1 = true then (if could - D 33 1 < all then 0 else 1) else 1)) 12 (ob 12 + D 33 9 * ld 1 / 10)), E))) (by simp [h1, h2, h3, mk2_32]) K
theorem sh3_2 {xs : Nat → Int32} {L : Nat} {o : z_Rs} {M' : Mem} {kk : Nat} (all mask could : Int32) (C : Nat → Nat → Nat → Int32) (D : Nat → Nat → Int32) (ld ob : Nat → Int32) (E : Nat → Int64)  (K : z_Ev xs L m_X5_share (234, [some (aR 0 32), some (aI all), some (aI mask), none, some (aI could), none, some (aI (3 : Int32)), none], [], (C, mk2 D ld (upd (upd (upd ob 10 (ob 10 - ld 2)) 11 (if ob 11 = 0 then 0 else if hs mask 2 = true then (if could - D 33 2 < all then 0 else 1) else 1)) 12 (ob 12 + D 33 10 * ld 2 / 10)), E)) o M' kk) : z_Ev xs L m_X5_share (234, [some (aR 0 32), some (aI all), some (aI mask), none, some (aI could), none, some (aI (2 : Int32)), none], [], (C, mk2 D ld ob, E)) o M' kk := by
  refine z_Ev_blk 3 (c' := ((if (4 : Int32) ≤ (2 : Int32) then 333 else 240), [some (aR 0 32), some (aI all), some (aI mask), none, some (aI could), none, some (aI (2 : Int32)), none], [], (C, mk2 D ld ob, E))) rfl trivial ?_
  refine z_Ev_else (by decide) ?_
  refine z_Ev_blk 13 (c' := ((if (ob 11) = 0 then 293 else 264), [some (aR 0 32), some (aI all), some (aI mask), none, some (aI could), none, some (aI (2 : Int32)), none], [aR 0 32], (C, up2 (mk2 D ld ob) 32 10 ((ob 10) - (ld 2)), E))) rfl ⟨rfl, trivial⟩ ?_
  refine z_Ev_ite (fun h1 => ?_) (fun h1 => ?_)
  · skip
    refine z_Ev_blk 22 (c' := (234, [some (aR 0 32), some (aI all), some (aI mask), none, some (aI could), none, some (aI (3 : Int32)), none], [], (C, up2 (up2 (up2 (mk2 D ld ob) 32 10 ((ob 10) - (ld 2))) 32 11 (0 : Int32)) 32 12 ((ob 12) + (((D 33 10) * (ld 2)) / (10 : Int32))), E))) rfl ⟨rfl, rfl, rfl, by decide, trivial⟩ ?_
    refine z_Ev_fgt [true, true, true, false, true, false, true, false] ?_
    exact z_Ev_eq (c := (234, [some (aR 0 32), some (aI all), some (aI mask), none, some (aI could), none, some (aI (3 : Int32)), none], [], (C, up2 (up2 (up2 (mk2 D ld ob) 32 10 ((ob 10) - (ld 2))) 32 11 (0 : Int32)) 32 12 ((ob 12) + (((D 33 10) * (ld 2)) / (10 : Int32))), E))) (c' := (234, [some (aR 0 32), some (aI all), some (aI mask), none, some (aI could), none, some (aI (3 : Int32)), none], [], (C, mk2 D ld (upd (upd (upd ob 10 (ob 10 - ld 2)) 11 (if ob 11 = 0 then 0 else if hs mask 2 = true then (if could - D 33 2 < all then 0 else 1) else 1)) 12 (ob 12 + D 33 10 * ld 2 / 10)), E))) (by simp [h1, mk2_32]) K
  · skip
    refine z_Ev_blk 2 (c' := (267, [some (aR 0 32), some (aI all), some (aI mask), none, some (aI could), none, some (aI (2 : Int32)), none], [aI (2 : Int32), aI mask, aR 0 32], (C, up2 (mk2 D ld ob) 32 10 ((ob 10) - (ld 2)), E))) rfl trivial ?_
    refine z_Ev_call0 (m' := m_X5_has) (as := [aI mask, aI (2 : Int32)]) (r := [aR 0 32]) (e_has mask (2 : Int32) _ _ _) rfl rfl ?_
    refine z_Ev_blk 1 (c' := ((if (f_b (hs mask (2 : Int32) = true)) = 0 then 289 else 273), [some (aR 0 32), some (aI all), some (aI mask), none, some (aI could), none, some (aI (2 : Int32)), none], [aR 0 32], (C, up2 (mk2 D ld ob) 32 10 ((ob 10) - (ld 2)), E))) rfl trivial ?_
    refine z_Ev_ite (fun h2 => ?_) (fun h2 => ?_)
    · replace h2 := f_bZ h2
      refine z_Ev_blk 23 (c' := (234, [some (aR 0 32), some (aI all), some (aI mask), none, some (aI could), none, some (aI (3 : Int32)), none], [], (C, up2 (up2 (up2 (mk2 D ld ob) 32 10 ((ob 10) - (ld 2))) 32 11 (1 : Int32)) 32 12 ((ob 12) + (((D 33 10) * (ld 2)) / (10 : Int32))), E))) rfl ⟨rfl, rfl, rfl, by decide, trivial⟩ ?_
      refine z_Ev_fgt [true, true, true, false, true, false, true, false] ?_
      exact z_Ev_eq (c := (234, [some (aR 0 32), some (aI all), some (aI mask), none, some (aI could), none, some (aI (3 : Int32)), none], [], (C, up2 (up2 (up2 (mk2 D ld ob) 32 10 ((ob 10) - (ld 2))) 32 11 (1 : Int32)) 32 12 ((ob 12) + (((D 33 10) * (ld 2)) / (10 : Int32))), E))) (c' := (234, [some (aR 0 32), some (aI all), some (aI mask), none, some (aI could), none, some (aI (3 : Int32)), none], [], (C, mk2 D ld (upd (upd (upd ob 10 (ob 10 - ld 2)) 11 (if ob 11 = 0 then 0 else if hs mask 2 = true then (if could - D 33 2 < all then 0 else 1) else 1)) 12 (ob 12 + D 33 10 * ld 2 / 10)), E))) (by simp [h1, h2, mk2_32]) K
    · replace h2 := f_bQ h2
      refine z_Ev_blk 10 (c' := ((if (could - (D 33 2)) < all then 293 else 289), [some (aR 0 32), some (aI all), some (aI mask), none, some (aI could), none, some (aI (2 : Int32)), none], [aR 0 32], (C, up2 (mk2 D ld ob) 32 10 ((ob 10) - (ld 2)), E))) rfl ⟨rfl, trivial⟩ ?_
      refine z_Ev_ite (fun h3 => ?_) (fun h3 => ?_)
      · skip
        refine z_Ev_blk 22 (c' := (234, [some (aR 0 32), some (aI all), some (aI mask), none, some (aI could), none, some (aI (3 : Int32)), none], [], (C, up2 (up2 (up2 (mk2 D ld ob) 32 10 ((ob 10) - (ld 2))) 32 11 (0 : Int32)) 32 12 ((ob 12) + (((D 33 10) * (ld 2)) / (10 : Int32))), E))) rfl ⟨rfl, rfl, rfl, by decide, trivial⟩ ?_
        refine z_Ev_fgt [true, true, true, false, true, false, true, false] ?_
        exact z_Ev_eq (c := (234, [some (aR 0 32), some (aI all), some (aI mask), none, some (aI could), none, some (aI (3 : Int32)), none], [], (C, up2 (up2 (up2 (mk2 D ld ob) 32 10 ((ob 10) - (ld 2))) 32 11 (0 : Int32)) 32 12 ((ob 12) + (((D 33 10) * (ld 2)) / (10 : Int32))), E))) (c' := (234, [some (aR 0 32), some (aI all), some (aI mask), none, some (aI could), none, some (aI (3 : Int32)), none], [], (C, mk2 D ld (upd (upd (upd ob 10 (ob 10 - ld 2)) 11 (if ob 11 = 0 then 0 else if hs mask 2 = true then (if could - D 33 2 < all then 0 else 1) else 1)) 12 (ob 12 + D 33 10 * ld 2 / 10)), E))) (by simp [h1, h2, h3, mk2_32]) K
      · skip
        refine z_Ev_blk 23 (c' := (234, [some (aR 0 32), some (aI all), some (aI mask), none, some (aI could), none, some (aI (3 : Int32)), none], [], (C, up2 (up2 (up2 (mk2 D ld ob) 32 10 ((ob 10) - (ld 2))) 32 11 (1 : Int32)) 32 12 ((ob 12) + (((D 33 10) * (ld 2)) / (10 : Int32))), E))) rfl ⟨rfl, rfl, rfl, by decide, trivial⟩ ?_
        refine z_Ev_fgt [true, true, true, false, true, false, true, false] ?_
        exact z_Ev_eq (c := (234, [some (aR 0 32), some (aI all), some (aI mask), none, some (aI could), none, some (aI (3 : Int32)), none], [], (C, up2 (up2 (up2 (mk2 D ld ob) 32 10 ((ob 10) - (ld 2))) 32 11 (1 : Int32)) 32 12 ((ob 12) + (((D 33 10) * (ld 2)) / (10 : Int32))), E))) (c' := (234, [some (aR 0 32), some (aI all), some (aI mask), none, some (aI could), none, some (aI (3 : Int32)), none], [], (C, mk2 D ld (upd (upd (upd ob 10 (ob 10 - ld 2)) 11 (if ob 11 = 0 then 0 else if hs mask 2 = true then (if could - D 33 2 < all then 0 else 1) else 1)) 12 (ob 12 + D 33 10 * ld 2 / 10)), E))) (by simp [h1, h2, h3, mk2_32]) K
theorem sh3_3 {xs : Nat → Int32} {L : Nat} {o : z_Rs} {M' : Mem} {kk : Nat} (all mask could : Int32) (C : Nat → Nat → Nat → Int32) (D : Nat → Nat → Int32) (ld ob : Nat → Int32) (E : Nat → Int64)  (K : z_Ev xs L m_X5_share (234, [some (aR 0 32), some (aI all), some (aI mask), none, some (aI could), none, some (aI (4 : Int32)), none], [], (C, mk2 D ld (upd (upd (upd ob 10 (ob 10 - ld 3)) 11 (if ob 11 = 0 then 0 else if hs mask 3 = true then (if could - D 33 3 < all then 0 else 1) else 1)) 12 (ob 12 + D 33 11 * ld 3 / 10)), E)) o M' kk) : z_Ev xs L m_X5_share (234, [some (aR 0 32), some (aI all), some (aI mask), none, some (aI could), none, some (aI (3 : Int32)), none], [], (C, mk2 D ld ob, E)) o M' kk := by
  refine z_Ev_blk 3 (c' := ((if (4 : Int32) ≤ (3 : Int32) then 333 else 240), [some (aR 0 32), some (aI all), some (aI mask), none, some (aI could), none, some (aI (3 : Int32)), none], [], (C, mk2 D ld ob, E))) rfl trivial ?_
  refine z_Ev_else (by decide) ?_
  refine z_Ev_blk 13 (c' := ((if (ob 11) = 0 then 293 else 264), [some (aR 0 32), some (aI all), some (aI mask), none, some (aI could), none, some (aI (3 : Int32)), none], [aR 0 32], (C, up2 (mk2 D ld ob) 32 10 ((ob 10) - (ld 3)), E))) rfl ⟨rfl, trivial⟩ ?_
  refine z_Ev_ite (fun h1 => ?_) (fun h1 => ?_)
  · skip
    refine z_Ev_blk 22 (c' := (234, [some (aR 0 32), some (aI all), some (aI mask), none, some (aI could), none, some (aI (4 : Int32)), none], [], (C, up2 (up2 (up2 (mk2 D ld ob) 32 10 ((ob 10) - (ld 3))) 32 11 (0 : Int32)) 32 12 ((ob 12) + (((D 33 11) * (ld 3)) / (10 : Int32))), E))) rfl ⟨rfl, rfl, rfl, by decide, trivial⟩ ?_
    refine z_Ev_fgt [true, true, true, false, true, false, true, false] ?_
    exact z_Ev_eq (c := (234, [some (aR 0 32), some (aI all), some (aI mask), none, some (aI could), none, some (aI (4 : Int32)), none], [], (C, up2 (up2 (up2 (mk2 D ld ob) 32 10 ((ob 10) - (ld 3))) 32 11 (0 : Int32)) 32 12 ((ob 12) + (((D 33 11) * (ld 3)) / (10 : Int32))), E))) (c' := (234, [some (aR 0 32), some (aI all), some (aI mask), none, some (aI could), none, some (aI (4 : Int32)), none], [], (C, mk2 D ld (upd (upd (upd ob 10 (ob 10 - ld 3)) 11 (if ob 11 = 0 then 0 else if hs mask 3 = true then (if could - D 33 3 < all then 0 else 1) else 1)) 12 (ob 12 + D 33 11 * ld 3 / 10)), E))) (by simp [h1, mk2_32]) K
  · skip
    refine z_Ev_blk 2 (c' := (267, [some (aR 0 32), some (aI all), some (aI mask), none, some (aI could), none, some (aI (3 : Int32)), none], [aI (3 : Int32), aI mask, aR 0 32], (C, up2 (mk2 D ld ob) 32 10 ((ob 10) - (ld 3)), E))) rfl trivial ?_
    refine z_Ev_call0 (m' := m_X5_has) (as := [aI mask, aI (3 : Int32)]) (r := [aR 0 32]) (e_has mask (3 : Int32) _ _ _) rfl rfl ?_
    refine z_Ev_blk 1 (c' := ((if (f_b (hs mask (3 : Int32) = true)) = 0 then 289 else 273), [some (aR 0 32), some (aI all), some (aI mask), none, some (aI could), none, some (aI (3 : Int32)), none], [aR 0 32], (C, up2 (mk2 D ld ob) 32 10 ((ob 10) - (ld 3)), E))) rfl trivial ?_
    refine z_Ev_ite (fun h2 => ?_) (fun h2 => ?_)
    · replace h2 := f_bZ h2
      refine z_Ev_blk 23 (c' := (234, [some (aR 0 32), some (aI all), some (aI mask), none, some (aI could), none, some (aI (4 : Int32)), none], [], (C, up2 (up2 (up2 (mk2 D ld ob) 32 10 ((ob 10) - (ld 3))) 32 11 (1 : Int32)) 32 12 ((ob 12) + (((D 33 11) * (ld 3)) / (10 : Int32))), E))) rfl ⟨rfl, rfl, rfl, by decide, trivial⟩ ?_
      refine z_Ev_fgt [true, true, true, false, true, false, true, false] ?_
      exact z_Ev_eq (c := (234, [some (aR 0 32), some (aI all), some (aI mask), none, some (aI could), none, some (aI (4 : Int32)), none], [], (C, up2 (up2 (up2 (mk2 D ld ob) 32 10 ((ob 10) - (ld 3))) 32 11 (1 : Int32)) 32 12 ((ob 12) + (((D 33 11) * (ld 3)) / (10 : Int32))), E))) (c' := (234, [some (aR 0 32), some (aI all), some (aI mask), none, some (aI could), none, some (aI (4 : Int32)), none], [], (C, mk2 D ld (upd (upd (upd ob 10 (ob 10 - ld 3)) 11 (if ob 11 = 0 then 0 else if hs mask 3 = true then (if could - D 33 3 < all then 0 else 1) else 1)) 12 (ob 12 + D 33 11 * ld 3 / 10)), E))) (by simp [h1, h2, mk2_32]) K
    · replace h2 := f_bQ h2
      refine z_Ev_blk 10 (c' := ((if (could - (D 33 3)) < all then 293 else 289), [some (aR 0 32), some (aI all), some (aI mask), none, some (aI could), none, some (aI (3 : Int32)), none], [aR 0 32], (C, up2 (mk2 D ld ob) 32 10 ((ob 10) - (ld 3)), E))) rfl ⟨rfl, trivial⟩ ?_
      refine z_Ev_ite (fun h3 => ?_) (fun h3 => ?_)
      · skip
        refine z_Ev_blk 22 (c' := (234, [some (aR 0 32), some (aI all), some (aI mask), none, some (aI could), none, some (aI (4 : Int32)), none], [], (C, up2 (up2 (up2 (mk2 D ld ob) 32 10 ((ob 10) - (ld 3))) 32 11 (0 : Int32)) 32 12 ((ob 12) + (((D 33 11) * (ld 3)) / (10 : Int32))), E))) rfl ⟨rfl, rfl, rfl, by decide, trivial⟩ ?_
        refine z_Ev_fgt [true, true, true, false, true, false, true, false] ?_
        exact z_Ev_eq (c := (234, [some (aR 0 32), some (aI all), some (aI mask), none, some (aI could), none, some (aI (4 : Int32)), none], [], (C, up2 (up2 (up2 (mk2 D ld ob) 32 10 ((ob 10) - (ld 3))) 32 11 (0 : Int32)) 32 12 ((ob 12) + (((D 33 11) * (ld 3)) / (10 : Int32))), E))) (c' := (234, [some (aR 0 32), some (aI all), some (aI mask), none, some (aI could), none, some (aI (4 : Int32)), none], [], (C, mk2 D ld (upd (upd (upd ob 10 (ob 10 - ld 3)) 11 (if ob 11 = 0 then 0 else if hs mask 3 = true then (if could - D 33 3 < all then 0 else 1) else 1)) 12 (ob 12 + D 33 11 * ld 3 / 10)), E))) (by simp [h1, h2, h3, mk2_32]) K
      · skip
        refine z_Ev_blk 23 (c' := (234, [some (aR 0 32), some (aI all), some (aI mask), none, some (aI could), none, some (aI (4 : Int32)), none], [], (C, up2 (up2 (up2 (mk2 D ld ob) 32 10 ((ob 10) - (ld 3))) 32 11 (1 : Int32)) 32 12 ((ob 12) + (((D 33 11) * (ld 3)) / (10 : Int32))), E))) rfl ⟨rfl, rfl, rfl, by decide, trivial⟩ ?_
        refine z_Ev_fgt [true, true, true, false, true, false, true, false] ?_
        exact z_Ev_eq (c := (234, [some (aR 0 32), some (aI all), some (aI mask), none, some (aI could), none, some (aI (4 : Int32)), none], [], (C, up2 (up2 (up2 (mk2 D ld ob) 32 10 ((ob 10) - (ld 3))) 32 11 (1 : Int32)) 32 12 ((ob 12) + (((D 33 11) * (ld 3)) / (10 : Int32))), E))) (c' := (234, [some (aR 0 32), some (aI all), some (aI mask), none, some (aI could), none, some (aI (4 : Int32)), none], [], (C, mk2 D ld (upd (upd (upd ob 10 (ob 10 - ld 3)) 11 (if ob 11 = 0 then 0 else if hs mask 3 = true then (if could - D 33 3 < all then 0 else 1) else 1)) 12 (ob 12 + D 33 11 * ld 3 / 10)), E))) (by simp [h1, h2, h3, mk2_32]) K

def popc (r : Int32) : Nat := (if hs r 0 = true then 1 else 0) + (if hs r 1 = true then 1 else 0) + (if hs r 2 = true then 1 else 0) + (if hs r 3 = true then 1 else 0)
def m16 : List Int32 := [0, 1, 2, 3, 4, 5, 6, 7, 8, 9, 10, 11, 12, 13, 14, 15]
theorem m16_step : m16.all (fun r => ([0, 1, 2, 3] : List Int32).all (fun k => !(hs r k) || (decide (r - (1 <<< (k &&& 31)) ∈ m16) && decide (popc (r - (1 <<< (k &&& 31))) + 1 = popc r)))) = true := by decide +kernel
theorem m16_zero : m16.all (fun r => decide (r = 0) || hs r 0 || hs r 1 || hs r 2 || hs r 3) = true := by decide +kernel
theorem m16_popc : m16.all (fun r => decide (popc r ≤ 4) && (decide (0 < r) || decide (r = 0))) = true := by decide +kernel
theorem chS_or {mer : Nat → Int32} {mask k found : Int32} (h : found = -1 ∨ hs mask found = true) : chS mer mask k found = -1 ∨ hs mask (chS mer mask k found) = true := by
  unfold chS
  split
  · rename_i q; exact Or.inr q.1
  · exact h
theorem chS_none {mer : Nat → Int32} {mask k found : Int32} (hk : k ≠ -1) (h : chS mer mask k found = -1) : found = -1 ∧ hs mask k = false := by
  unfold chS at h
  split at h
  · exact absurd h hk
  · rename_i q
    refine ⟨h, ?_⟩
    cases e : hs mask k
    · rfl
    · exact absurd ⟨e, Or.inl h⟩ q
/-- the set found is one of the mask -/
theorem chF_in {mer : Nat → Int32} {mask : Int32} (h : mask ∈ m16) (h0 : 0 < mask) : hs mask (chF mer mask) = true ∧ (chF mer mask = 0 ∨ chF mer mask = 1 ∨ chF mer mask = 2 ∨ chF mer mask = 3) := by
  have ho : chF mer mask = -1 ∨ hs mask (chF mer mask) = true := chS_or (chS_or (chS_or (chS_or (Or.inl rfl))))
  have hne : ¬ chF mer mask = -1 := by
    intro e
    obtain ⟨e3, g3⟩ := chS_none (by decide) e
    obtain ⟨e2, g2⟩ := chS_none (by decide) e3
    obtain ⟨e1, g1⟩ := chS_none (by decide) e2
    obtain ⟨-, g0⟩ := chS_none (by decide) e1
    have hz := List.all_eq_true.mp m16_zero mask h
    rw [g0, g1, g2, g3] at hz
    have : mask = 0 := by simpa using hz
    subst this
    exact absurd h0 (by decide)
  refine ⟨ho.resolve_left hne, ?_⟩
  rcases chF_fnd mer mask with e | e | e | e | e
  · exact absurd e hne
  · exact Or.inl e
  · exact Or.inr (Or.inl e)
  · exact Or.inr (Or.inr (Or.inl e))
  · exact Or.inr (Or.inr (Or.inr e))
/-- what is left is given by merits -/
def gv (g mer : Nat → Int32) : Nat → Int32 → Int32 → (Nat → Int32) → (Nat → Int32) × Int32
  | 0, _, left, ld => (ld, left)
  | n + 1, rest, left, ld => if 0 < rest then gv g mer n (rest - (1 <<< (chF mer rest &&& 31))) (left - (if left ≤ g (chF mer rest).toNatClampNeg - ld (chF mer rest).toNatClampNeg then left else g (chF mer rest).toNatClampNeg - ld (chF mer rest).toNatClampNeg)) (upd ld (chF mer rest).toNatClampNeg (ld (chF mer rest).toNatClampNeg + (if left ≤ g (chF mer rest).toNatClampNeg - ld (chF mer rest).toNatClampNeg then left else g (chF mer rest).toNatClampNeg - ld (chF mer rest).toNatClampNeg))) else (ld, left)
theorem gv_k {g mer : Nat → Int32} {n : Nat} {rest left k : Int32} {ld : Nat → Int32} (h0 : 0 < rest) (hk : chF mer rest = k) : gv g mer (n + 1) rest left ld = gv g mer n (rest - (1 <<< (k &&& 31))) (left - (if left ≤ g k.toNatClampNeg - ld k.toNatClampNeg then left else g k.toNatClampNeg - ld k.toNatClampNeg)) (upd ld k.toNatClampNeg (ld k.toNatClampNeg + (if left ≤ g k.toNatClampNeg - ld k.toNatClampNeg then left else g k.toNatClampNeg - ld k.toNatClampNeg))) := by
  subst hk
  show (if 0 < rest then _ else _) = _
  rw [if_pos h0]
theorem gv_0 {g mer : Nat → Int32} {n : Nat} {rest left : Int32} {ld : Nat → Int32} (h0 : ¬ 0 < rest) : gv g mer n rest left ld = (ld, left) := by
  cases n with
  | zero => rfl
  | succ n =>
    show (if 0 < rest then _ else _) = _
    rw [if_neg h0]
def mG (D : Nat → Nat → Int32) : Nat → Int32 := fun j => D 33 j
def mM (D : Nat → Nat → Int32) : Nat → Int32 := fun j => D 33 (8 + j)

theorem sh2_all {xs : Nat → Int32} {L : Nat} {o : z_Rs} {M' : Mem} {kk : Nat} (all mask could : Int32) (C : Nat → Nat → Nat → Int32) (D : Nat → Nat → Int32) (ob : Nat → Int32) (E : Nat → Int64) : ∀ (n : Nat) (rest left : Int32) (ld : Nat → Int32), rest ∈ m16 → popc rest ≤ n → z_Ev xs L m_X5_share (234, [some (aR 0 32), some (aI all), some (aI mask), none, some (aI could), none, some (aI (0 : Int32)), none], [], (C, mk2 D ((gv (mG D) (mM D) n rest left ld).1) ((upd (upd (upd (upd ob 8 (gv (mG D) (mM D) n rest left ld).2) 10 could) 11 (f_b ((gv (mG D) (mM D) n rest left ld).2 = 0))) 12 0)), E)) o M' kk → z_Ev xs L m_X5_share (113, [some (aR 0 32), some (aI all), some (aI mask), some (aI left), some (aI could), some (aI rest), none, none], [], (C, mk2 D ld ob, E)) o M' kk := by
  intro n
  induction n with
  | zero =>
    intro rest left ld hm hp K
    refine sh2_e all mask left could rest C D ld ob E ?_ K
    have h1 := List.all_eq_true.mp m16_popc rest hm
    rcases Decidable.em (0 < rest) with h | h
    · obtain ⟨h2, h3⟩ := chF_in (mer := mM D) hm h
      have h4 := List.all_eq_true.mp (List.all_eq_true.mp m16_step rest hm) (chF (mM D) rest) (by rcases h3 with e | e | e | e <;> rw [e] <;> decide)
      rw [h2] at h4
      have h5 : popc (rest - (1 <<< (chF (mM D) rest &&& 31))) + 1 = popc rest := by
        have h6 := (Bool.and_eq_true_iff.mp h4).2
        exact of_decide_eq_true h6
      omega
    · exact Int32.not_lt.mp h
  | succ n ih =>
    intro rest left ld hm hp K
    by_cases h0 : 0 < rest
    · obtain ⟨h2, h3⟩ := chF_in (mer := mM D) hm h0
      have h4 := List.all_eq_true.mp (List.all_eq_true.mp m16_step rest hm) (chF (mM D) rest) (by rcases h3 with e | e | e | e <;> rw [e] <;> decide)
      rw [h2] at h4
      obtain ⟨h6, h5⟩ := Bool.and_eq_true_iff.mp h4
      have h5 := of_decide_eq_true h5
      have h6 := of_decide_eq_true h6
      rcases h3 with e | e | e | e
      · rw [gv_k h0 e] at K
        rw [e, show ((1 : Int32) <<< ((0 : Int32) &&& 31)) = 1 by decide] at h5 h6
        rw [show ((1 : Int32) <<< ((0 : Int32) &&& 31)) = 1 by decide] at K
        exact sh2_0 all mask left could rest C D ld ob E e.symm h0 (ih _ _ _ h6 (by omega) K)
      · rw [gv_k h0 e] at K
        rw [e, show ((1 : Int32) <<< ((1 : Int32) &&& 31)) = 2 by decide] at h5 h6
        rw [show ((1 : Int32) <<< ((1 : Int32) &&& 31)) = 2 by decide] at K
        exact sh2_1 all mask left could rest C D ld ob E e.symm h0 (ih _ _ _ h6 (by omega) K)
      · rw [gv_k h0 e] at K
        rw [e, show ((1 : Int32) <<< ((2 : Int32) &&& 31)) = 4 by decide] at h5 h6
        rw [show ((1 : Int32) <<< ((2 : Int32) &&& 31)) = 4 by decide] at K
        exact sh2_2 all mask left could rest C D ld ob E e.symm h0 (ih _ _ _ h6 (by omega) K)
      · rw [gv_k h0 e] at K
        rw [e, show ((1 : Int32) <<< ((3 : Int32) &&& 31)) = 8 by decide] at h5 h6
        rw [show ((1 : Int32) <<< ((3 : Int32) &&& 31)) = 8 by decide] at K
        exact sh2_3 all mask left could rest C D ld ob E e.symm h0 (ih _ _ _ h6 (by omega) K)
    · rw [gv_0 h0] at K
      exact sh2_e all mask left could rest C D ld ob E (Int32.not_lt.mp h0) K

/-- what sharing leaves: the loads, and the numbers of the object -/
def sLd0 (D : Nat → Nat → Int32) (mask : Int32) (ld : Nat → Int32) : Nat → Int32 := upd (upd (upd (upd ld 0 (sx D mask 0 4)) 1 (sx D mask 1 5)) 2 (sx D mask 2 6)) 3 (sx D mask 3 7)
def sLeft (D : Nat → Nat → Int32) (all mask : Int32) : Int32 := all - sx D mask 0 4 - sx D mask 1 5 - sx D mask 2 6 - sx D mask 3 7
def sCould (D : Nat → Nat → Int32) (mask : Int32) : Int32 := 0 + sx D mask 0 0 + sx D mask 1 1 + sx D mask 2 2 + sx D mask 3 3
def sGv (D : Nat → Nat → Int32) (all mask : Int32) (ld : Nat → Int32) : (Nat → Int32) × Int32 := gv (mG D) (mM D) 4 mask (if 0 ≤ sLeft D all mask then sLeft D all mask else 0) (sLd0 D mask ld)
def sEn1 (D : Nat → Nat → Int32) (all mask could e k : Int32) (j : Nat) : Int32 := if e = 0 then 0 else if hs mask k = true then (if could - D 33 j < all then 0 else 1) else 1
def sEn (D : Nat → Nat → Int32) (all mask could dk : Int32) : Int32 := sEn1 D all mask could (sEn1 D all mask could (sEn1 D all mask could (sEn1 D all mask could (f_b (dk = 0)) 0 0) 1 1) 2 2) 3 3
def sRes (could : Int32) (ld : Nat → Int32) : Int32 := could - ld 0 - ld 1 - ld 2 - ld 3
def sFu (D : Nat → Nat → Int32) (ld : Nat → Int32) : Int32 := 0 + D 33 8 * ld 0 / 10 + D 33 9 * ld 1 / 10 + D 33 10 * ld 2 / 10 + D 33 11 * ld 3 / 10
def sObT (D : Nat → Nat → Int32) (all mask could : Int32) (r : (Nat → Int32) × Int32) (ob : Nat → Int32) : Nat → Int32 := upd (upd (upd (upd ob 8 r.2) 10 (sRes could r.1)) 11 (sEn D all mask could r.2)) 12 (sFu D r.1)
def sOb (D : Nat → Nat → Int32) (all mask : Int32) (ld ob : Nat → Int32) : Nat → Int32 := sObT D all mask (sCould D mask) (sGv D all mask ld) (upd ob 9 (if 0 ≤ sLeft D all mask then 0 else -(sLeft D all mask)))
theorem e_shareT {xs : Nat → Int32} {L : Nat} (all mask could : Int32) (C : Nat → Nat → Nat → Int32) (D : Nat → Nat → Int32) (r : (Nat → Int32) × Int32) (ob : Nat → Int32) (E : Nat → Int64) : z_Ev xs L m_X5_share (234, [some (aR 0 32), some (aI all), some (aI mask), none, some (aI could), none, some (aI (0 : Int32)), none], [], (C, mk2 D r.1 (upd (upd (upd (upd ob 8 r.2) 10 could) 11 (f_b (r.2 = 0))) 12 0), E)) (.inl none) (C, mk2 D r.1 (sObT D all mask could r ob), E) 0 := by
  obtain ⟨ld, dk⟩ := r
  refine sh3_0 all mask _ C D _ _ E ?_
  refine sh3_1 all mask _ C D _ _ E ?_
  refine sh3_2 all mask _ C D _ _ E ?_
  refine sh3_3 all mask _ C D _ _ E ?_
  refine z_Ev_blk 3 (c' := ((if (4 : Int32) ≤ (4 : Int32) then 333 else 240), [some (aR 0 32), some (aI all), some (aI mask), none, some (aI could), none, some (aI (4 : Int32)), none], [], _)) rfl trivial ?_
  refine z_Ev_if (by decide) ?_
  refine z_Ev_vretE rfl rfl ?_
  refine congrArg (fun q => ((C, mk2 D ld q, E) : Mem)) ?_
  unfold sObT sEn sRes sFu sEn1
  funext j
  simp only [upd]
  by_cases h12 : j = 12
  · subst h12; simp
  by_cases h11 : j = 11
  · subst h11; simp
  by_cases h10 : j = 10
  · subst h10; simp
  by_cases h8 : j = 8
  · subst h8; simp
  simp [h8, h10, h11, h12]
theorem e_share {xs : Nat → Int32} {L : Nat} (all mask : Int32) (hm : mask ∈ m16) (C : Nat → Nat → Nat → Int32) (D : Nat → Nat → Int32) (ld ob : Nat → Int32) (E : Nat → Int64) : z_Mt xs L m_X5_share [aR 0 32, aI all, aI mask] (C, mk2 D ld ob, E) (.inl none) (C, mk2 D (sGv D all mask ld).1 (sOb D all mask ld ob), E) 0 := by
  refine z_Ev_blk 6 (c' := (8, [some (aR 0 32), some (aI all), some (aI mask), some (aI all), some (aI (0 : Int32)), some (aI (0 : Int32)), none, none], [], (C, mk2 D ld ob, E))) rfl trivial ?_
  refine sh1_0 all mask _ _ C D _ _ E ?_
  refine sh1_1 all mask _ _ C D _ _ E ?_
  refine sh1_2 all mask _ _ C D _ _ E ?_
  refine sh1_3 all mask _ _ C D _ _ E ?_
  refine sh1_e all mask _ _ C D _ _ E ?_
  refine sh2_all all mask _ C D _ E 4 mask _ _ hm (of_decide_eq_true (Bool.and_eq_true_iff.mp (List.all_eq_true.mp m16_popc mask hm)).1) ?_
  exact e_shareT all mask (sCould D mask) C D (sGv D all mask ld) _ E

