/-! THE MODEL: an hour goes by -/
def md (D : Nat → Nat → Int32) (s : Nat → Int32) : Nat → Nat → Int32 := fun q => if q = 33 then s else D q
theorem mk2_33 {D : Nat → Nat → Int32} {s ld ob : Nat → Int32} {k : Nat} {v : Int32} : up2 (mk2 (md D s) ld ob) 33 k v = mk2 (md D (upd s k v)) ld ob := by
  funext q
  unfold up2 mk2 md
  by_cases h : q = 37
  · subst h; rfl
  · by_cases h2 : q = 32
    · subst h2; rfl
    · by_cases h3 : q = 33
      · subst h3; rfl
      · simp [h, h2, h3]
theorem md_self (D : Nat → Nat → Int32) : D = md D (D 33) := by
  funext q
  unfold md
  by_cases h : q = 33
  · subst h; rfl
  · simp [h]
theorem md_md {D : Nat → Nat → Int32} {s t : Nat → Int32} : md (md D s) t = md D t := by
  funext q
  unfold md
  by_cases h : q = 33 <;> simp [h]
/-- the load of an hour -/
def lodF (s : Nat → Int32) (h : Int32) : Int32 := s (40 + h).toNatClampNeg + (if s 37 = 1 then 0 else s 32)

theorem e_mLoad {xs : Nat → Int32} {L : Nat} (h : Int32) (hi : z_inb (40 + h) 376 = true) (C : Nat → Nat → Nat → Int32) (D : Nat → Nat → Int32) (s ld ob : Nat → Int32) (E : Nat → Int64) : z_Mt xs L m_X5_loadOf [aR 0 32, aI h] (C, mk2 (md D s) ld ob, E) (.inl (some (aI (lodF s h)))) (C, mk2 (md D s) ld ob, E) 0 := by
  refine z_Ev_blk 12 (c' := ((if (s 37) = (1 : Int32) then 20 else 24), [some (aR 0 32), some (aI h)], [aI (s (((40 : Int32) + h).toNatClampNeg))], (C, mk2 (md D s) ld ob, E))) rfl ⟨(hi), rfl, trivial⟩ ?_
  refine z_Ev_ite (fun h1 => ?_) (fun h1 => ?_)
  · skip
    refine z_Ev_blk 3 (c' := (32, [some (aR 0 32), some (aI h)], [aI ((s (((40 : Int32) + h).toNatClampNeg)) + (0 : Int32))], (C, mk2 (md D s) ld ob, E))) rfl trivial ?_
    exact z_Ev_iretE rfl rfl (by simp [lodF, h1]) (by rfl)
  · skip
    refine z_Ev_blk 5 (c' := (32, [some (aR 0 32), some (aI h)], [aI ((s (((40 : Int32) + h).toNatClampNeg)) + (s 32))], (C, mk2 (md D s) ld ob, E))) rfl ⟨rfl, trivial⟩ ?_
    exact z_Ev_iretE rfl rfl (by simp [lodF, h1]) (by rfl)
theorem go1_0 {xs : Nat → Int32} {L : Nat} {o : z_Rs} {M' : Mem} {kk : Nat}  (C : Nat → Nat → Nat → Int32) (D : Nat → Nat → Int32) (s ld ob : Nat → Int32) (E : Nat → Int64)  (K : z_Ev xs L m_X5_goOn (2, [some (aR 0 32), some (aI (1 : Int32)), none, none], [], (C, mk2 (md D (if s 16 = 1 then upd (upd s 20 (s 20 - 1)) 16 (if s 20 - 1 = 0 then 2 else 1) else s)) ld ob, E)) o M' kk) : z_Ev xs L m_X5_goOn (2, [some (aR 0 32), some (aI (0 : Int32)), none, none], [], (C, mk2 (md D s) ld ob, E)) o M' kk := by
  refine z_Ev_blk 3 (c' := ((if (4 : Int32) ≤ (0 : Int32) then 65 else 7), [some (aR 0 32), some (aI (0 : Int32)), none, none], [], (C, mk2 (md D s) ld ob, E))) rfl trivial ?_
  refine z_Ev_else (by decide) ?_
  refine z_Ev_blk 8 (c' := ((if (s 16) = (1 : Int32) then 20 else 59), [some (aR 0 32), some (aI (0 : Int32)), none, none], [], (C, mk2 (md D s) ld ob, E))) rfl ⟨rfl, trivial⟩ ?_
  refine z_Ev_ite (fun h1 => ?_) (fun h1 => ?_)
  · skip
    refine z_Ev_blk 22 (c' := ((if ((s 20) - (1 : Int32)) = 0 then 53 else 57), [some (aR 0 32), some (aI (0 : Int32)), none, none], [aI (16 : Int32), aR 0 33], (C, up2 (mk2 (md D s) ld ob) 33 20 ((s 20) - (1 : Int32)), E))) rfl ⟨rfl, rfl, rfl, trivial⟩ ?_
    refine z_Ev_ite (fun h2 => ?_) (fun h2 => ?_)
    · skip
      refine z_Ev_blk 5 (c' := (2, [some (aR 0 32), some (aI (1 : Int32)), none, none], [], (C, up2 (up2 (mk2 (md D s) ld ob) 33 20 ((s 20) - (1 : Int32))) 33 16 (2 : Int32), E))) rfl ⟨rfl, trivial⟩ ?_
      refine z_Ev_fgt [true, true, false, false] ?_
      exact z_Ev_eq (c := (2, [some (aR 0 32), some (aI (1 : Int32)), none, none], [], (C, up2 (up2 (mk2 (md D s) ld ob) 33 20 ((s 20) - (1 : Int32))) 33 16 (2 : Int32), E))) (c' := (2, [some (aR 0 32), some (aI (1 : Int32)), none, none], [], (C, mk2 (md D (if s 16 = 1 then upd (upd s 20 (s 20 - 1)) 16 (if s 20 - 1 = 0 then 2 else 1) else s)) ld ob, E))) (by simp [h1, h2, mk2_37, mk2_32, mk2_33]) K
    · skip
      refine z_Ev_blk 4 (c' := (2, [some (aR 0 32), some (aI (1 : Int32)), none, none], [], (C, up2 (up2 (mk2 (md D s) ld ob) 33 20 ((s 20) - (1 : Int32))) 33 16 (1 : Int32), E))) rfl ⟨rfl, trivial⟩ ?_
      refine z_Ev_fgt [true, true, false, false] ?_
      exact z_Ev_eq (c := (2, [some (aR 0 32), some (aI (1 : Int32)), none, none], [], (C, up2 (up2 (mk2 (md D s) ld ob) 33 20 ((s 20) - (1 : Int32))) 33 16 (1 : Int32), E))) (c' := (2, [some (aR 0 32), some (aI (1 : Int32)), none, none], [], (C, mk2 (md D (if s 16 = 1 then upd (upd s 20 (s 20 - 1)) 16 (if s 20 - 1 = 0 then 2 else 1) else s)) ld ob, E))) (by simp [h1, h2, mk2_37, mk2_32, mk2_33]) K
  · skip
    refine z_Ev_blk 2 (c' := (2, [some (aR 0 32), some (aI (1 : Int32)), none, none], [], (C, mk2 (md D s) ld ob, E))) rfl trivial ?_
    refine z_Ev_fgt [true, true, false, false] ?_
    exact z_Ev_eq (c := (2, [some (aR 0 32), some (aI (1 : Int32)), none, none], [], (C, mk2 (md D s) ld ob, E))) (c' := (2, [some (aR 0 32), some (aI (1 : Int32)), none, none], [], (C, mk2 (md D (if s 16 = 1 then upd (upd s 20 (s 20 - 1)) 16 (if s 20 - 1 = 0 then 2 else 1) else s)) ld ob, E))) (by simp [h1, mk2_37, mk2_32, mk2_33]) K
theorem go1_1 {xs : Nat → Int32} {L : Nat} {o : z_Rs} {M' : Mem} {kk : Nat}  (C : Nat → Nat → Nat → Int32) (D : Nat → Nat → Int32) (s ld ob : Nat → Int32) (E : Nat → Int64)  (K : z_Ev xs L m_X5_goOn (2, [some (aR 0 32), some (aI (2 : Int32)), none, none], [], (C, mk2 (md D (if s 17 = 1 then upd (upd s 21 (s 21 - 1)) 17 (if s 21 - 1 = 0 then 2 else 1) else s)) ld ob, E)) o M' kk) : z_Ev xs L m_X5_goOn (2, [some (aR 0 32), some (aI (1 : Int32)), none, none], [], (C, mk2 (md D s) ld ob, E)) o M' kk := by
  refine z_Ev_blk 3 (c' := ((if (4 : Int32) ≤ (1 : Int32) then 65 else 7), [some (aR 0 32), some (aI (1 : Int32)), none, none], [], (C, mk2 (md D s) ld ob, E))) rfl trivial ?_
  refine z_Ev_else (by decide) ?_
  refine z_Ev_blk 8 (c' := ((if (s 17) = (1 : Int32) then 20 else 59), [some (aR 0 32), some (aI (1 : Int32)), none, none], [], (C, mk2 (md D s) ld ob, E))) rfl ⟨rfl, trivial⟩ ?_
  refine z_Ev_ite (fun h1 => ?_) (fun h1 => ?_)
  · skip
    refine z_Ev_blk 22 (c' := ((if ((s 21) - (1 : Int32)) = 0 then 53 else 57), [some (aR 0 32), some (aI (1 : Int32)), none, none], [aI (17 : Int32), aR 0 33], (C, up2 (mk2 (md D s) ld ob) 33 21 ((s 21) - (1 : Int32)), E))) rfl ⟨rfl, rfl, rfl, trivial⟩ ?_
    refine z_Ev_ite (fun h2 => ?_) (fun h2 => ?_)
    · skip
      refine z_Ev_blk 5 (c' := (2, [some (aR 0 32), some (aI (2 : Int32)), none, none], [], (C, up2 (up2 (mk2 (md D s) ld ob) 33 21 ((s 21) - (1 : Int32))) 33 17 (2 : Int32), E))) rfl ⟨rfl, trivial⟩ ?_
      refine z_Ev_fgt [true, true, false, false] ?_
      exact z_Ev_eq (c := (2, [some (aR 0 32), some (aI (2 : Int32)), none, none], [], (C, up2 (up2 (mk2 (md D s) ld ob) 33 21 ((s 21) - (1 : Int32))) 33 17 (2 : Int32), E))) (c' := (2, [some (aR 0 32), some (aI (2 : Int32)), none, none], [], (C, mk2 (md D (if s 17 = 1 then upd (upd s 21 (s 21 - 1)) 17 (if s 21 - 1 = 0 then 2 else 1) else s)) ld ob, E))) (by simp [h1, h2, mk2_37, mk2_32, mk2_33]) K
    · skip
      refine z_Ev_blk 4 (c' := (2, [some (aR 0 32), some (aI (2 : Int32)), none, none], [], (C, up2 (up2 (mk2 (md D s) ld ob) 33 21 ((s 21) - (1 : Int32))) 33 17 (1 : Int32), E))) rfl ⟨rfl, trivial⟩ ?_
      refine z_Ev_fgt [true, true, false, false] ?_
      exact z_Ev_eq (c := (2, [some (aR 0 32), some (aI (2 : Int32)), none, none], [], (C, up2 (up2 (mk2 (md D s) ld ob) 33 21 ((s 21) - (1 : Int32))) 33 17 (1 : Int32), E))) (c' := (2, [some (aR 0 32), some (aI (2 : Int32)), none, none], [], (C, mk2 (md D (if s 17 = 1 then upd (upd s 21 (s 21 - 1)) 17 (if s 21 - 1 = 0 then 2 else 1) else s)) ld ob, E))) (by simp [h1, h2, mk2_37, mk2_32, mk2_33]) K
  · skip
    refine z_Ev_blk 2 (c' := (2, [some (aR 0 32), some (aI (2 : Int32)), none, none], [], (C, mk2 (md D s) ld ob, E))) rfl trivial ?_
    refine z_Ev_fgt [true, true, false, false] ?_
    exact z_Ev_eq (c := (2, [some (aR 0 32), some (aI (2 : Int32)), none, none], [], (C, mk2 (md D s) ld ob, E))) (c' := (2, [some (aR 0 32), some (aI (2 : Int32)), none, none], [], (C, mk2 (md D (if s 17 = 1 then upd (upd s 21 (s 21 - 1)) 17 (if s 21 - 1 = 0 then 2 else 1) else s)) ld ob, E))) (by simp [h1, mk2_37, mk2_32, mk2_33]) K
theorem go1_2 {xs : Nat → Int32} {L : Nat} {o : z_Rs} {M' : Mem} {kk : Nat}  (C : Nat → Nat → Nat → Int32) (D : Nat → Nat → Int32) (s ld ob : Nat → Int32) (E : Nat → Int64)  (K : z_Ev xs L m_X5_goOn (2, [some (aR 0 32), some (aI (3 : Int32)), none, none], [], (C, mk2 (md D (if s 18 = 1 then upd (upd s 22 (s 22 - 1)) 18 (if s 22 - 1 = 0 then 2 else 1) else s)) ld ob, E)) o M' kk) : z_Ev xs L m_X5_goOn (2, [some (aR 0 32), some (aI (2 : Int32)), none, none], [], (C, mk2 (md D s) ld ob, E)) o M' kk := by
  refine z_Ev_blk 3 (c' := ((if (4 : Int32) ≤ (2 : Int32) then 65 else 7), [some (aR 0 32), some (aI (2 : Int32)), none, none], [], (C, mk2 (md D s) ld ob, E))) rfl trivial ?_
  refine z_Ev_else (by decide) ?_
  refine z_Ev_blk 8 (c' := ((if (s 18) = (1 : Int32) then 20 else 59), [some (aR 0 32), some (aI (2 : Int32)), none, none], [], (C, mk2 (md D s) ld ob, E))) rfl ⟨rfl, trivial⟩ ?_
  refine z_Ev_ite (fun h1 => ?_) (fun h1 => ?_)
  · skip
    refine z_Ev_blk 22 (c' := ((if ((s 22) - (1 : Int32)) = 0 then 53 else 57), [some (aR 0 32), some (aI (2 : Int32)), none, none], [aI (18 : Int32), aR 0 33], (C, up2 (mk2 (md D s) ld ob) 33 22 ((s 22) - (1 : Int32)), E))) rfl ⟨rfl, rfl, rfl, trivial⟩ ?_
    refine z_Ev_ite (fun h2 => ?_) (fun h2 => ?_)
    · skip
      refine z_Ev_blk 5 (c' := (2, [some (aR 0 32), some (aI (3 : Int32)), none, none], [], (C, up2 (up2 (mk2 (md D s) ld ob) 33 22 ((s 22) - (1 : Int32))) 33 18 (2 : Int32), E))) rfl ⟨rfl, trivial⟩ ?_
      refine z_Ev_fgt [true, true, false, false] ?_
      exact z_Ev_eq (c := (2, [some (aR 0 32), some (aI (3 : Int32)), none, none], [], (C, up2 (up2 (mk2 (md D s) ld ob) 33 22 ((s 22) - (1 : Int32))) 33 18 (2 : Int32), E))) (c' := (2, [some (aR 0 32), some (aI (3 : Int32)), none, none], [], (C, mk2 (md D (if s 18 = 1 then upd (upd s 22 (s 22 - 1)) 18 (if s 22 - 1 = 0 then 2 else 1) else s)) ld ob, E))) (by simp [h1, h2, mk2_37, mk2_32, mk2_33]) K
    · skip
      refine z_Ev_blk 4 (c' := (2, [some (aR 0 32), some (aI (3 : Int32)), none, none], [], (C, up2 (up2 (mk2 (md D s) ld ob) 33 22 ((s 22) - (1 : Int32))) 33 18 (1 : Int32), E))) rfl ⟨rfl, trivial⟩ ?_
      refine z_Ev_fgt [true, true, false, false] ?_
      exact z_Ev_eq (c := (2, [some (aR 0 32), some (aI (3 : Int32)), none, none], [], (C, up2 (up2 (mk2 (md D s) ld ob) 33 22 ((s 22) - (1 : Int32))) 33 18 (1 : Int32), E))) (c' := (2, [some (aR 0 32), some (aI (3 : Int32)), none, none], [], (C, mk2 (md D (if s 18 = 1 then upd (upd s 22 (s 22 - 1)) 18 (if s 22 - 1 = 0 then 2 else 1) else s)) ld ob, E))) (by simp [h1, h2, mk2_37, mk2_32, mk2_33]) K
  · skip
    refine z_Ev_blk 2 (c' := (2, [some (aR 0 32), some (aI (3 : Int32)), none, none], [], (C, mk2 (md D s) ld ob, E))) rfl trivial ?_
    refine z_Ev_fgt [true, true, false, false] ?_
    exact z_Ev_eq (c := (2, [some (aR 0 32), some (aI (3 : Int32)), none, none], [], (C, mk2 (md D s) ld ob, E))) (c' := (2, [some (aR 0 32), some (aI (3 : Int32)), none, none], [], (C, mk2 (md D (if s 18 = 1 then upd (upd s 22 (s 22 - 1)) 18 (if s 22 - 1 = 0 then 2 else 1) else s)) ld ob, E))) (by simp [h1, mk2_37, mk2_32, mk2_33]) K
theorem go1_3 {xs : Nat → Int32} {L : Nat} {o : z_Rs} {M' : Mem} {kk : Nat}  (C : Nat → Nat → Nat → Int32) (D : Nat → Nat → Int32) (s ld ob : Nat → Int32) (E : Nat → Int64)  (K : z_Ev xs L m_X5_goOn (2, [some (aR 0 32), some (aI (4 : Int32)), none, none], [], (C, mk2 (md D (if s 19 = 1 then upd (upd s 23 (s 23 - 1)) 19 (if s 23 - 1 = 0 then 2 else 1) else s)) ld ob, E)) o M' kk) : z_Ev xs L m_X5_goOn (2, [some (aR 0 32), some (aI (3 : Int32)), none, none], [], (C, mk2 (md D s) ld ob, E)) o M' kk := by
  refine z_Ev_blk 3 (c' := ((if (4 : Int32) ≤ (3 : Int32) then 65 else 7), [some (aR 0 32), some (aI (3 : Int32)), none, none], [], (C, mk2 (md D s) ld ob, E))) rfl trivial ?_
  refine z_Ev_else (by decide) ?_
  refine z_Ev_blk 8 (c' := ((if (s 19) = (1 : Int32) then 20 else 59), [some (aR 0 32), some (aI (3 : Int32)), none, none], [], (C, mk2 (md D s) ld ob, E))) rfl ⟨rfl, trivial⟩ ?_
  refine z_Ev_ite (fun h1 => ?_) (fun h1 => ?_)
  · skip
    refine z_Ev_blk 22 (c' := ((if ((s 23) - (1 : Int32)) = 0 then 53 else 57), [some (aR 0 32), some (aI (3 : Int32)), none, none], [aI (19 : Int32), aR 0 33], (C, up2 (mk2 (md D s) ld ob) 33 23 ((s 23) - (1 : Int32)), E))) rfl ⟨rfl, rfl, rfl, trivial⟩ ?_
    refine z_Ev_ite (fun h2 => ?_) (fun h2 => ?_)
    · skip
      refine z_Ev_blk 5 (c' := (2, [some (aR 0 32), some (aI (4 : Int32)), none, none], [], (C, up2 (up2 (mk2 (md D s) ld ob) 33 23 ((s 23) - (1 : Int32))) 33 19 (2 : Int32), E))) rfl ⟨rfl, trivial⟩ ?_
      refine z_Ev_fgt [true, true, false, false] ?_
      exact z_Ev_eq (c := (2, [some (aR 0 32), some (aI (4 : Int32)), none, none], [], (C, up2 (up2 (mk2 (md D s) ld ob) 33 23 ((s 23) - (1 : Int32))) 33 19 (2 : Int32), E))) (c' := (2, [some (aR 0 32), some (aI (4 : Int32)), none, none], [], (C, mk2 (md D (if s 19 = 1 then upd (upd s 23 (s 23 - 1)) 19 (if s 23 - 1 = 0 then 2 else 1) else s)) ld ob, E))) (by simp [h1, h2, mk2_37, mk2_32, mk2_33]) K
    · skip
      refine z_Ev_blk 4 (c' := (2, [some (aR 0 32), some (aI (4 : Int32)), none, none], [], (C, up2 (up2 (mk2 (md D s) ld ob) 33 23 ((s 23) - (1 : Int32))) 33 19 (1 : Int32), E))) rfl ⟨rfl, trivial⟩ ?_
      refine z_Ev_fgt [true, true, false, false] ?_
      exact z_Ev_eq (c := (2, [some (aR 0 32), some (aI (4 : Int32)), none, none], [], (C, up2 (up2 (mk2 (md D s) ld ob) 33 23 ((s 23) - (1 : Int32))) 33 19 (1 : Int32), E))) (c' := (2, [some (aR 0 32), some (aI (4 : Int32)), none, none], [], (C, mk2 (md D (if s 19 = 1 then upd (upd s 23 (s 23 - 1)) 19 (if s 23 - 1 = 0 then 2 else 1) else s)) ld ob, E))) (by simp [h1, h2, mk2_37, mk2_32, mk2_33]) K
  · skip
    refine z_Ev_blk 2 (c' := (2, [some (aR 0 32), some (aI (4 : Int32)), none, none], [], (C, mk2 (md D s) ld ob, E))) rfl trivial ?_
    refine z_Ev_fgt [true, true, false, false] ?_
    exact z_Ev_eq (c := (2, [some (aR 0 32), some (aI (4 : Int32)), none, none], [], (C, mk2 (md D s) ld ob, E))) (c' := (2, [some (aR 0 32), some (aI (4 : Int32)), none, none], [], (C, mk2 (md D (if s 19 = 1 then upd (upd s 23 (s 23 - 1)) 19 (if s 23 - 1 = 0 then 2 else 1) else s)) ld ob, E))) (by simp [h1, mk2_37, mk2_32, mk2_33]) K
theorem goA {xs : Nat → Int32} {L : Nat} {o : z_Rs} {M' : Mem} {kk : Nat} (all mask : Int32) (C : Nat → Nat → Nat → Int32) (D : Nat → Nat → Int32) (s ld ob : Nat → Int32) (E : Nat → Int64) (LD OB : Nat → Int32) (hl : z_inb (40 + s 34) 376 = true) (ha : lodF s (s 34) = all) (hm : mkF (fun j => s (16 + j)) 2 = mask) (hLD : (sGv (md D s) all mask ld).1 = LD) (hOB : sOb (md D s) all mask ld ob = OB) (K : z_Ev xs L m_X5_goOn (134, [some (aR 0 32), some (aI all), some (aI mask), some (aI (0 : Int32))], [], (C, mk2 (md D (upd (upd s 38 (s 38 + (if OB 8 ≤ 0 then 0 else 1))) 39 (s 39 + (if OB 11 = 0 then 1 else 0)))) LD OB, E)) o M' kk) : z_Ev xs L m_X5_goOn (65, [some (aR 0 32), none, none, none], [], (C, mk2 (md D s) ld ob, E)) o M' kk := by
  refine z_Ev_blk 5 (c' := (73, [some (aR 0 32), none, none, none], [aI (s 34), aR 0 32], (C, mk2 (md D s) ld ob, E))) rfl ⟨rfl, trivial⟩ ?_
  refine z_Ev_call0 (m' := m_X5_loadOf) (as := [aR 0 32, aI (s 34)]) (r := []) ((by have q := e_mLoad (xs := xs) (L := L) (s 34) hl C D s ld ob E; rw [ha] at q; exact q)) rfl rfl ?_
  refine z_Ev_blk 2 (c' := (78, [some (aR 0 32), some (aI all), none, none], [aR 0 32], (C, mk2 (md D s) ld ob, E))) rfl trivial ?_
  refine z_Ev_call0 (m' := m_X5_running) (as := [aR 0 32]) (r := []) ((by have q := e_running (xs := xs) (L := L) C (mk2 (md D s) ld ob) E; rw [show mkF (fun j => mk2 (md D s) ld ob 33 (16 + j)) 2 = mask from hm] at q; exact q)) rfl rfl ?_
  refine z_Ev_blk 4 (c' := (85, [some (aR 0 32), some (aI all), some (aI mask), none], [aI mask, aI all, aR 0 32], (C, mk2 (md D s) ld ob, E))) rfl trivial ?_
  refine z_Ev_call0 (m' := m_X5_share) (as := [aR 0 32, aI all, aI mask]) (r := []) ((by have q := e_share (xs := xs) (L := L) all mask (by rw [← hm]; exact mkF_m _ _) C (md D s) ld ob E; rw [hLD, hOB] at q; exact q)) rfl rfl ?_
  refine z_Ev_blk 8 (c' := ((if (OB 8) ≤ 0 then 107 else 103), [some (aR 0 32), some (aI all), some (aI mask), none], [aI (s 38), aI (38 : Int32), aR 0 33], (C, mk2 (md D s) LD OB, E))) rfl ⟨rfl, trivial⟩ ?_
  refine z_Ev_ite (fun h1 => ?_) (fun h1 => ?_)
  · skip
    refine z_Ev_blk 11 (c' := ((if (OB 11) = 0 then 129 else 125), [some (aR 0 32), some (aI all), some (aI mask), none], [aI (s 39), aI (39 : Int32), aR 0 33], (C, up2 (mk2 (md D s) LD OB) 33 38 ((s 38) + (0 : Int32)), E))) rfl ⟨rfl, rfl, trivial⟩ ?_
    refine z_Ev_ite (fun h2 => ?_) (fun h2 => ?_)
    · skip
      refine z_Ev_blk 5 (c' := (134, [some (aR 0 32), some (aI all), some (aI mask), some (aI (0 : Int32))], [], (C, up2 (up2 (mk2 (md D s) LD OB) 33 38 ((s 38) + (0 : Int32))) 33 39 ((s 39) + (1 : Int32)), E))) rfl ⟨rfl, trivial⟩ ?_
      refine z_Ev_fgt [true, true, true, true] ?_
      exact z_Ev_eq (c := (134, [some (aR 0 32), some (aI all), some (aI mask), some (aI (0 : Int32))], [], (C, up2 (up2 (mk2 (md D s) LD OB) 33 38 ((s 38) + (0 : Int32))) 33 39 ((s 39) + (1 : Int32)), E))) (c' := (134, [some (aR 0 32), some (aI all), some (aI mask), some (aI (0 : Int32))], [], (C, mk2 (md D (upd (upd s 38 (s 38 + (if OB 8 ≤ 0 then 0 else 1))) 39 (s 39 + (if OB 11 = 0 then 1 else 0)))) LD OB, E))) (by simp [h1, h2, mk2_37, mk2_32, mk2_33]) K
    · skip
      refine z_Ev_blk 6 (c' := (134, [some (aR 0 32), some (aI all), some (aI mask), some (aI (0 : Int32))], [], (C, up2 (up2 (mk2 (md D s) LD OB) 33 38 ((s 38) + (0 : Int32))) 33 39 ((s 39) + (0 : Int32)), E))) rfl ⟨rfl, trivial⟩ ?_
      refine z_Ev_fgt [true, true, true, true] ?_
      exact z_Ev_eq (c := (134, [some (aR 0 32), some (aI all), some (aI mask), some (aI (0 : Int32))], [], (C, up2 (up2 (mk2 (md D s) LD OB) 33 38 ((s 38) + (0 : Int32))) 33 39 ((s 39) + (0 : Int32)), E))) (c' := (134, [some (aR 0 32), some (aI all), some (aI mask), some (aI (0 : Int32))], [], (C, mk2 (md D (upd (upd s 38 (s 38 + (if OB 8 ≤ 0 then 0 else 1))) 39 (s 39 + (if OB 11 = 0 then 1 else 0)))) LD OB, E))) (by simp [h1, h2, mk2_37, mk2_32, mk2_33]) K
  · skip
    refine z_Ev_blk 12 (c' := ((if (OB 11) = 0 then 129 else 125), [some (aR 0 32), some (aI all), some (aI mask), none], [aI (s 39), aI (39 : Int32), aR 0 33], (C, up2 (mk2 (md D s) LD OB) 33 38 ((s 38) + (1 : Int32)), E))) rfl ⟨rfl, rfl, trivial⟩ ?_
    refine z_Ev_ite (fun h3 => ?_) (fun h3 => ?_)
    · skip
      refine z_Ev_blk 5 (c' := (134, [some (aR 0 32), some (aI all), some (aI mask), some (aI (0 : Int32))], [], (C, up2 (up2 (mk2 (md D s) LD OB) 33 38 ((s 38) + (1 : Int32))) 33 39 ((s 39) + (1 : Int32)), E))) rfl ⟨rfl, trivial⟩ ?_
      refine z_Ev_fgt [true, true, true, true] ?_
      exact z_Ev_eq (c := (134, [some (aR 0 32), some (aI all), some (aI mask), some (aI (0 : Int32))], [], (C, up2 (up2 (mk2 (md D s) LD OB) 33 38 ((s 38) + (1 : Int32))) 33 39 ((s 39) + (1 : Int32)), E))) (c' := (134, [some (aR 0 32), some (aI all), some (aI mask), some (aI (0 : Int32))], [], (C, mk2 (md D (upd (upd s 38 (s 38 + (if OB 8 ≤ 0 then 0 else 1))) 39 (s 39 + (if OB 11 = 0 then 1 else 0)))) LD OB, E))) (by simp [h1, h3, mk2_37, mk2_32, mk2_33]) K
    · skip
      refine z_Ev_blk 6 (c' := (134, [some (aR 0 32), some (aI all), some (aI mask), some (aI (0 : Int32))], [], (C, up2 (up2 (mk2 (md D s) LD OB) 33 38 ((s 38) + (1 : Int32))) 33 39 ((s 39) + (0 : Int32)), E))) rfl ⟨rfl, trivial⟩ ?_
      refine z_Ev_fgt [true, true, true, true] ?_
      exact z_Ev_eq (c := (134, [some (aR 0 32), some (aI all), some (aI mask), some (aI (0 : Int32))], [], (C, up2 (up2 (mk2 (md D s) LD OB) 33 38 ((s 38) + (1 : Int32))) 33 39 ((s 39) + (0 : Int32)), E))) (c' := (134, [some (aR 0 32), some (aI all), some (aI mask), some (aI (0 : Int32))], [], (C, mk2 (md D (upd (upd s 38 (s 38 + (if OB 8 ≤ 0 then 0 else 1))) 39 (s 39 + (if OB 11 = 0 then 1 else 0)))) LD OB, E))) (by simp [h1, h3, mk2_37, mk2_32, mk2_33]) K
theorem go3_0 {xs : Nat → Int32} {L : Nat} {o : z_Rs} {M' : Mem} {kk : Nat} (all mask : Int32) (C : Nat → Nat → Nat → Int32) (D : Nat → Nat → Int32) (s ld ob : Nat → Int32) (E : Nat → Int64)  (K : z_Ev xs L m_X5_goOn (134, [some (aR 0 32), some (aI all), some (aI mask), some (aI (1 : Int32))], [], (C, mk2 (md D (upd (upd s 24 (s 24 + s 8 * ld 0 / 10)) 28 (s 28 + (if hs mask 0 = true then 1 else 0)))) ld ob, E)) o M' kk) : z_Ev xs L m_X5_goOn (134, [some (aR 0 32), some (aI all), some (aI mask), some (aI (0 : Int32))], [], (C, mk2 (md D s) ld ob, E)) o M' kk := by
  refine z_Ev_blk 3 (c' := ((if (4 : Int32) ≤ (0 : Int32) then 201 else 139), [some (aR 0 32), some (aI all), some (aI mask), some (aI (0 : Int32))], [], (C, mk2 (md D s) ld ob, E))) rfl trivial ?_
  refine z_Ev_else (by decide) ?_
  refine z_Ev_blk 25 (c' := (176, [some (aR 0 32), some (aI all), some (aI mask), some (aI (0 : Int32))], [aI (28 : Int32), aR 0 33], (C, up2 (mk2 (md D s) ld ob) 33 24 ((s 24) + (((s 8) * (ld 0)) / (10 : Int32))), E))) rfl ⟨rfl, rfl, rfl, by decide, rfl, trivial⟩ ?_
  refine z_Ev_blk 6 (c' := (182, [some (aR 0 32), some (aI all), some (aI mask), some (aI (0 : Int32))], [aI (0 : Int32), aI mask, aI (s 28), aI (28 : Int32), aR 0 33], (C, up2 (mk2 (md D s) ld ob) 33 24 ((s 24) + (((s 8) * (ld 0)) / (10 : Int32))), E))) rfl ⟨rfl, trivial⟩ ?_
  refine z_Ev_call0 (m' := m_X5_has) (as := [aI mask, aI (0 : Int32)]) (r := [aI (s 28), aI (28 : Int32), aR 0 33]) (e_has mask (0 : Int32) _ _ _) rfl rfl ?_
  refine z_Ev_blk 1 (c' := ((if (f_b (hs mask (0 : Int32) = true)) = 0 then 192 else 188), [some (aR 0 32), some (aI all), some (aI mask), some (aI (0 : Int32))], [aI (s 28), aI (28 : Int32), aR 0 33], (C, up2 (mk2 (md D s) ld ob) 33 24 ((s 24) + (((s 8) * (ld 0)) / (10 : Int32))), E))) rfl trivial ?_
  refine z_Ev_ite (fun h1 => ?_) (fun h1 => ?_)
  · replace h1 := f_bZ h1
    refine z_Ev_blk 5 (c' := (134, [some (aR 0 32), some (aI all), some (aI mask), some (aI (1 : Int32))], [], (C, up2 (up2 (mk2 (md D s) ld ob) 33 24 ((s 24) + (((s 8) * (ld 0)) / (10 : Int32)))) 33 28 ((s 28) + (0 : Int32)), E))) rfl ⟨rfl, trivial⟩ ?_
    refine z_Ev_fgt [true, true, true, true] ?_
    exact z_Ev_eq (c := (134, [some (aR 0 32), some (aI all), some (aI mask), some (aI (1 : Int32))], [], (C, up2 (up2 (mk2 (md D s) ld ob) 33 24 ((s 24) + (((s 8) * (ld 0)) / (10 : Int32)))) 33 28 ((s 28) + (0 : Int32)), E))) (c' := (134, [some (aR 0 32), some (aI all), some (aI mask), some (aI (1 : Int32))], [], (C, mk2 (md D (upd (upd s 24 (s 24 + s 8 * ld 0 / 10)) 28 (s 28 + (if hs mask 0 = true then 1 else 0)))) ld ob, E))) (by simp [h1, mk2_37, mk2_32, mk2_33]) K
  · replace h1 := f_bQ h1
    refine z_Ev_blk 6 (c' := (134, [some (aR 0 32), some (aI all), some (aI mask), some (aI (1 : Int32))], [], (C, up2 (up2 (mk2 (md D s) ld ob) 33 24 ((s 24) + (((s 8) * (ld 0)) / (10 : Int32)))) 33 28 ((s 28) + (1 : Int32)), E))) rfl ⟨rfl, trivial⟩ ?_
    refine z_Ev_fgt [true, true, true, true] ?_
    exact z_Ev_eq (c := (134, [some (aR 0 32), some (aI all), some (aI mask), some (aI (1 : Int32))], [], (C, up2 (up2 (mk2 (md D s) ld ob) 33 24 ((s 24) + (((s 8) * (ld 0)) / (10 : Int32)))) 33 28 ((s 28) + (1 : Int32)), E))) (c' := (134, [some (aR 0 32), some (aI all), some (aI mask), some (aI (1 : Int32))], [], (C, mk2 (md D (upd (upd s 24 (s 24 + s 8 * ld 0 / 10)) 28 (s 28 + (if hs mask 0 = true then 1 else 0)))) ld ob, E))) (by simp [h1, mk2_37, mk2_32, mk2_33]) K
theorem go3_1 {xs : Nat → Int32} {L : Nat} {o : z_Rs} {M' : Mem} {kk : Nat} (all mask : Int32) (C : Nat → Nat → Nat → Int32) (D : Nat → Nat → Int32) (s ld ob : Nat → Int32) (E : Nat → Int64)  (K : z_Ev xs L m_X5_goOn (134, [some (aR 0 32), some (aI all), some (aI mask), some (aI (2 : Int32))], [], (C, mk2 (md D (upd (upd s 25 (s 25 + s 9 * ld 1 / 10)) 29 (s 29 + (if hs mask 1 = true then 1 else 0)))) ld ob, E)) o M' kk) : z_Ev xs L m_X5_goOn (134, [some (aR 0 32), some (aI all), some (aI mask), some (aI (1 : Int32))], [], (C, mk2 (md D s) ld ob, E)) o M' kk := by
  refine z_Ev_blk 3 (c' := ((if (4 : Int32) ≤ (1 : Int32) then 201 else 139), [some (aR 0 32), some (aI all), some (aI mask), some (aI (1 : Int32))], [], (C, mk2 (md D s) ld ob, E))) rfl trivial ?_
  refine z_Ev_else (by decide) ?_
  refine z_Ev_blk 25 (c' := (176, [some (aR 0 32), some (aI all), some (aI mask), some (aI (1 : Int32))], [aI (28 : Int32), aR 0 33], (C, up2 (mk2 (md D s) ld ob) 33 25 ((s 25) + (((s 9) * (ld 1)) / (10 : Int32))), E))) rfl ⟨rfl, rfl, rfl, by decide, rfl, trivial⟩ ?_
  refine z_Ev_blk 6 (c' := (182, [some (aR 0 32), some (aI all), some (aI mask), some (aI (1 : Int32))], [aI (1 : Int32), aI mask, aI (s 29), aI (29 : Int32), aR 0 33], (C, up2 (mk2 (md D s) ld ob) 33 25 ((s 25) + (((s 9) * (ld 1)) / (10 : Int32))), E))) rfl ⟨rfl, trivial⟩ ?_
  refine z_Ev_call0 (m' := m_X5_has) (as := [aI mask, aI (1 : Int32)]) (r := [aI (s 29), aI (29 : Int32), aR 0 33]) (e_has mask (1 : Int32) _ _ _) rfl rfl ?_
  refine z_Ev_blk 1 (c' := ((if (f_b (hs mask (1 : Int32) = true)) = 0 then 192 else 188), [some (aR 0 32), some (aI all), some (aI mask), some (aI (1 : Int32))], [aI (s 29), aI (29 : Int32), aR 0 33], (C, up2 (mk2 (md D s) ld ob) 33 25 ((s 25) + (((s 9) * (ld 1)) / (10 : Int32))), E))) rfl trivial ?_
  refine z_Ev_ite (fun h1 => ?_) (fun h1 => ?_)
  · replace h1 := f_bZ h1
    refine z_Ev_blk 5 (c' := (134, [some (aR 0 32), some (aI all), some (aI mask), some (aI (2 : Int32))], [], (C, up2 (up2 (mk2 (md D s) ld ob) 33 25 ((s 25) + (((s 9) * (ld 1)) / (10 : Int32)))) 33 29 ((s 29) + (0 : Int32)), E))) rfl ⟨rfl, trivial⟩ ?_
    refine z_Ev_fgt [true, true, true, true] ?_
    exact z_Ev_eq (c := (134, [some (aR 0 32), some (aI all), some (aI mask), some (aI (2 : Int32))], [], (C, up2 (up2 (mk2 (md D s) ld ob) 33 25 ((s 25) + (((s 9) * (ld 1)) / (10 : Int32)))) 33 29 ((s 29) + (0 : Int32)), E))) (c' := (134, [some (aR 0 32), some (aI all), some (aI mask), some (aI (2 : Int32))], [], (C, mk2 (md D (upd (upd s 25 (s 25 + s 9 * ld 1 / 10)) 29 (s 29 + (if hs mask 1 = true then 1 else 0)))) ld ob, E))) (by simp [h1, mk2_37, mk2_32, mk2_33]) K
  · replace h1 := f_bQ h1
    refine z_Ev_blk 6 (c' := (134, [some (aR 0 32), some (aI all), some (aI mask), some (aI (2 : Int32))], [], (C, up2 (up2 (mk2 (md D s) ld ob) 33 25 ((s 25) + (((s 9) * (ld 1)) / (10 : Int32)))) 33 29 ((s 29) + (1 : Int32)), E))) rfl ⟨rfl, trivial⟩ ?_
    refine z_Ev_fgt [true, true, true, true] ?_
    exact z_Ev_eq (c := (134, [some (aR 0 32), some (aI all), some (aI mask), some (aI (2 : Int32))], [], (C, up2 (up2 (mk2 (md D s) ld ob) 33 25 ((s 25) + (((s 9) * (ld 1)) / (10 : Int32)))) 33 29 ((s 29) + (1 : Int32)), E))) (c' := (134, [some (aR 0 32), some (aI all), some (aI mask), some (aI (2 : Int32))], [], (C, mk2 (md D (upd (upd s 25 (s 25 + s 9 * ld 1 / 10)) 29 (s 29 + (if hs mask 1 = true then 1 else 0)))) ld ob, E))) (by simp [h1, mk2_37, mk2_32, mk2_33]) K
theorem go3_2 {xs : Nat → Int32} {L : Nat} {o : z_Rs} {M' : Mem} {kk : Nat} (all mask : Int32) (C : Nat → Nat → Nat → Int32) (D : Nat → Nat → Int32) (s ld ob : Nat → Int32) (E : Nat → Int64)  (K : z_Ev xs L m_X5_goOn (134, [some (aR 0 32), some (aI all), some (aI mask), some (aI (3 : Int32))], [], (C, mk2 (md D (upd (upd s 26 (s 26 + s 10 * ld 2 / 10)) 30 (s 30 + (if hs mask 2 = true then 1 else 0)))) ld ob, E)) o M' kk) : z_Ev xs L m_X5_goOn (134, [some (aR 0 32), some (aI all), some (aI mask), some (aI (2 : Int32))], [], (C, mk2 (md D s) ld ob, E)) o M' kk := by
  refine z_Ev_blk 3 (c' := ((if (4 : Int32) ≤ (2 : Int32) then 201 else 139), [some (aR 0 32), some (aI all), some (aI mask), some (aI (2 : Int32))], [], (C, mk2 (md D s) ld ob, E))) rfl trivial ?_
  refine z_Ev_else (by decide) ?_
  refine z_Ev_blk 25 (c' := (176, [some (aR 0 32), some (aI all), some (aI mask), some (aI (2 : Int32))], [aI (28 : Int32), aR 0 33], (C, up2 (mk2 (md D s) ld ob) 33 26 ((s 26) + (((s 10) * (ld 2)) / (10 : Int32))), E))) rfl ⟨rfl, rfl, rfl, by decide, rfl, trivial⟩ ?_
  refine z_Ev_blk 6 (c' := (182, [some (aR 0 32), some (aI all), some (aI mask), some (aI (2 : Int32))], [aI (2 : Int32), aI mask, aI (s 30), aI (30 : Int32), aR 0 33], (C, up2 (mk2 (md D s) ld ob) 33 26 ((s 26) + (((s 10) * (ld 2)) / (10 : Int32))), E))) rfl ⟨rfl, trivial⟩ ?_
  refine z_Ev_call0 (m' := m_X5_has) (as := [aI mask, aI (2 : Int32)]) (r := [aI (s 30), aI (30 : Int32), aR 0 33]) (e_has mask (2 : Int32) _ _ _) rfl rfl ?_
  refine z_Ev_blk 1 (c' := ((if (f_b (hs mask (2 : Int32) = true)) = 0 then 192 else 188), [some (aR 0 32), some (aI all), some (aI mask), some (aI (2 : Int32))], [aI (s 30), aI (30 : Int32), aR 0 33], (C, up2 (mk2 (md D s) ld ob) 33 26 ((s 26) + (((s 10) * (ld 2)) / (10 : Int32))), E))) rfl trivial ?_
  refine z_Ev_ite (fun h1 => ?_) (fun h1 => ?_)
  · replace h1 := f_bZ h1
    refine z_Ev_blk 5 (c' := (134, [some (aR 0 32), some (aI all), some (aI mask), some (aI (3 : Int32))], [], (C, up2 (up2 (mk2 (md D s) ld ob) 33 26 ((s 26) + (((s 10) * (ld 2)) / (10 : Int32)))) 33 30 ((s 30) + (0 : Int32)), E))) rfl ⟨rfl, trivial⟩ ?_
    refine z_Ev_fgt [true, true, true, true] ?_
    exact z_Ev_eq (c := (134, [some (aR 0 32), some (aI all), some (aI mask), some (aI (3 : Int32))], [], (C, up2 (up2 (mk2 (md D s) ld ob) 33 26 ((s 26) + (((s 10) * (ld 2)) / (10 : Int32)))) 33 30 ((s 30) + (0 : Int32)), E))) (c' := (134, [some (aR 0 32), some (aI all), some (aI mask), some (aI (3 : Int32))], [], (C, mk2 (md D (upd (upd s 26 (s 26 + s 10 * ld 2 / 10)) 30 (s 30 + (if hs mask 2 = true then 1 else 0)))) ld ob, E))) (by simp [h1, mk2_37, mk2_32, mk2_33]) K
  · replace h1 := f_bQ h1
    refine z_Ev_blk 6 (c' := (134, [some (aR 0 32), some (aI all), some (aI mask), some (aI (3 : Int32))], [], (C, up2 (up2 (mk2 (md D s) ld ob) 33 26 ((s 26) + (((s 10) * (ld 2)) / (10 : Int32)))) 33 30 ((s 30) + (1 : Int32)), E))) rfl ⟨rfl, trivial⟩ ?_
    refine z_Ev_fgt [true, true, true, true] ?_
    exact z_Ev_eq (c := (134, [some (aR 0 32), some (aI all), some (aI mask), some (aI (3 : Int32))], [], (C, up2 (up2 (mk2 (md D s) ld ob) 33 26 ((s 26) + (((s 10) * (ld 2)) / (10 : Int32)))) 33 30 ((s 30) + (1 : Int32)), E))) (c' := (134, [some (aR 0 32), some (aI all), some (aI mask), some (aI (3 : Int32))], [], (C, mk2 (md D (upd (upd s 26 (s 26 + s 10 * ld 2 / 10)) 30 (s 30 + (if hs mask 2 = true then 1 else 0)))) ld ob, E))) (by simp [h1, mk2_37, mk2_32, mk2_33]) K
theorem go3_3 {xs : Nat → Int32} {L : Nat} {o : z_Rs} {M' : Mem} {kk : Nat} (all mask : Int32) (C : Nat → Nat → Nat → Int32) (D : Nat → Nat → Int32) (s ld ob : Nat → Int32) (E : Nat → Int64)  (K : z_Ev xs L m_X5_goOn (134, [some (aR 0 32), some (aI all), some (aI mask), some (aI (4 : Int32))], [], (C, mk2 (md D (upd (upd s 27 (s 27 + s 11 * ld 3 / 10)) 31 (s 31 + (if hs mask 3 = true then 1 else 0)))) ld ob, E)) o M' kk) : z_Ev xs L m_X5_goOn (134, [some (aR 0 32), some (aI all), some (aI mask), some (aI (3 : Int32))], [], (C, mk2 (md D s) ld ob, E)) o M' kk := by
  refine z_Ev_blk 3 (c' := ((if (4 : Int32) ≤ (3 : Int32) then 201 else 139), [some (aR 0 32), some (aI all), some (aI mask), some (aI (3 : Int32))], [], (C, mk2 (md D s) ld ob, E))) rfl trivial ?_
  refine z_Ev_else (by decide) ?_
  refine z_Ev_blk 25 (c' := (176, [some (aR 0 32), some (aI all), some (aI mask), some (aI (3 : Int32))], [aI (28 : Int32), aR 0 33], (C, up2 (mk2 (md D s) ld ob) 33 27 ((s 27) + (((s 11) * (ld 3)) / (10 : Int32))), E))) rfl ⟨rfl, rfl, rfl, by decide, rfl, trivial⟩ ?_
  refine z_Ev_blk 6 (c' := (182, [some (aR 0 32), some (aI all), some (aI mask), some (aI (3 : Int32))], [aI (3 : Int32), aI mask, aI (s 31), aI (31 : Int32), aR 0 33], (C, up2 (mk2 (md D s) ld ob) 33 27 ((s 27) + (((s 11) * (ld 3)) / (10 : Int32))), E))) rfl ⟨rfl, trivial⟩ ?_
  refine z_Ev_call0 (m' := m_X5_has) (as := [aI mask, aI (3 : Int32)]) (r := [aI (s 31), aI (31 : Int32), aR 0 33]) (e_has mask (3 : Int32) _ _ _) rfl rfl ?_
  refine z_Ev_blk 1 (c' := ((if (f_b (hs mask (3 : Int32) = true)) = 0 then 192 else 188), [some (aR 0 32), some (aI all), some (aI mask), some (aI (3 : Int32))], [aI (s 31), aI (31 : Int32), aR 0 33], (C, up2 (mk2 (md D s) ld ob) 33 27 ((s 27) + (((s 11) * (ld 3)) / (10 : Int32))), E))) rfl trivial ?_
  refine z_Ev_ite (fun h1 => ?_) (fun h1 => ?_)
  · replace h1 := f_bZ h1
    refine z_Ev_blk 5 (c' := (134, [some (aR 0 32), some (aI all), some (aI mask), some (aI (4 : Int32))], [], (C, up2 (up2 (mk2 (md D s) ld ob) 33 27 ((s 27) + (((s 11) * (ld 3)) / (10 : Int32)))) 33 31 ((s 31) + (0 : Int32)), E))) rfl ⟨rfl, trivial⟩ ?_
    refine z_Ev_fgt [true, true, true, true] ?_
    exact z_Ev_eq (c := (134, [some (aR 0 32), some (aI all), some (aI mask), some (aI (4 : Int32))], [], (C, up2 (up2 (mk2 (md D s) ld ob) 33 27 ((s 27) + (((s 11) * (ld 3)) / (10 : Int32)))) 33 31 ((s 31) + (0 : Int32)), E))) (c' := (134, [some (aR 0 32), some (aI all), some (aI mask), some (aI (4 : Int32))], [], (C, mk2 (md D (upd (upd s 27 (s 27 + s 11 * ld 3 / 10)) 31 (s 31 + (if hs mask 3 = true then 1 else 0)))) ld ob, E))) (by simp [h1, mk2_37, mk2_32, mk2_33]) K
  · replace h1 := f_bQ h1
    refine z_Ev_blk 6 (c' := (134, [some (aR 0 32), some (aI all), some (aI mask), some (aI (4 : Int32))], [], (C, up2 (up2 (mk2 (md D s) ld ob) 33 27 ((s 27) + (((s 11) * (ld 3)) / (10 : Int32)))) 33 31 ((s 31) + (1 : Int32)), E))) rfl ⟨rfl, trivial⟩ ?_
    refine z_Ev_fgt [true, true, true, true] ?_
    exact z_Ev_eq (c := (134, [some (aR 0 32), some (aI all), some (aI mask), some (aI (4 : Int32))], [], (C, up2 (up2 (mk2 (md D s) ld ob) 33 27 ((s 27) + (((s 11) * (ld 3)) / (10 : Int32)))) 33 31 ((s 31) + (1 : Int32)), E))) (c' := (134, [some (aR 0 32), some (aI all), some (aI mask), some (aI (4 : Int32))], [], (C, mk2 (md D (upd (upd s 27 (s 27 + s 11 * ld 3 / 10)) 31 (s 31 + (if hs mask 3 = true then 1 else 0)))) ld ob, E))) (by simp [h1, mk2_37, mk2_32, mk2_33]) K
theorem goR {xs : Nat → Int32} {L : Nat} {o : z_Rs} {M' : Mem} {kk : Nat} (all mask : Int32) (C : Nat → Nat → Nat → Int32) (D : Nat → Nat → Int32) (s ld ob : Nat → Int32) (E : Nat → Int64) (i0 : z_inb (88 + 6 * s 34) 376 = true) (i1 : z_inb (88 + 6 * s 34 + 1) 376 = true) (i2 : z_inb (88 + 6 * s 34 + 2) 376 = true) (i3 : z_inb (88 + 6 * s 34 + 3) 376 = true) (i4 : z_inb (88 + 6 * s 34 + 4) 376 = true) (i5 : z_inb (88 + 6 * s 34 + 5) 376 = true) (K : z_Ev xs L m_X5_goOn (287, [some (aR 0 32), none, none, none], [], (C, mk2 (md D (upd (upd (upd (upd (upd (upd s (88 + 6 * s 34).toNatClampNeg all) (88 + 6 * s 34 + 1).toNatClampNeg (ob 8)) (88 + 6 * s 34 + 2).toNatClampNeg (ob 9)) (88 + 6 * s 34 + 3).toNatClampNeg (ob 10)) (88 + 6 * s 34 + 4).toNatClampNeg (if ob 11 = 0 then 0 else 1)) (88 + 6 * s 34 + 5).toNatClampNeg mask)) ld ob, E)) o M' kk) : z_Ev xs L m_X5_goOn (134, [some (aR 0 32), some (aI all), some (aI mask), some (aI (4 : Int32))], [], (C, mk2 (md D s) ld ob, E)) o M' kk := by
  refine z_Ev_blk 3 (c' := ((if (4 : Int32) ≤ (4 : Int32) then 201 else 139), [some (aR 0 32), some (aI all), some (aI mask), some (aI (4 : Int32))], [], (C, mk2 (md D s) ld ob, E))) rfl trivial ?_
  refine z_Ev_if (by decide) ?_
  refine z_Ev_blk 14 (c' := (222, [some (aR 0 32), some (aI all), some (aI mask), some (aI ((88 : Int32) + ((6 : Int32) * (s 34))))], [], (C, up2 (mk2 (md D s) ld ob) 33 (((88 : Int32) + ((6 : Int32) * (s 34))).toNatClampNeg) all, E))) rfl ⟨rfl, (i0), trivial⟩ ?_
  rw [mk2_33]
  refine z_Ev_blk 8 (c' := (234, [some (aR 0 32), some (aI all), some (aI mask), some (aI ((88 : Int32) + ((6 : Int32) * (s 34))))], [], (C, up2 (mk2 (md D (upd s (((88 : Int32) + ((6 : Int32) * (s 34))).toNatClampNeg) all)) ld ob) 33 ((((88 : Int32) + ((6 : Int32) * (s 34))) + (1 : Int32)).toNatClampNeg) (ob 8), E))) rfl ⟨(i1), trivial⟩ ?_
  rw [mk2_33]
  refine z_Ev_blk 8 (c' := (246, [some (aR 0 32), some (aI all), some (aI mask), some (aI ((88 : Int32) + ((6 : Int32) * (s 34))))], [], (C, up2 (mk2 (md D (upd (upd s (((88 : Int32) + ((6 : Int32) * (s 34))).toNatClampNeg) all) ((((88 : Int32) + ((6 : Int32) * (s 34))) + (1 : Int32)).toNatClampNeg) (ob 8))) ld ob) 33 ((((88 : Int32) + ((6 : Int32) * (s 34))) + (2 : Int32)).toNatClampNeg) (ob 9), E))) rfl ⟨(i2), trivial⟩ ?_
  rw [mk2_33]
  refine z_Ev_blk 8 (c' := (258, [some (aR 0 32), some (aI all), some (aI mask), some (aI ((88 : Int32) + ((6 : Int32) * (s 34))))], [], (C, up2 (mk2 (md D (upd (upd (upd s (((88 : Int32) + ((6 : Int32) * (s 34))).toNatClampNeg) all) ((((88 : Int32) + ((6 : Int32) * (s 34))) + (1 : Int32)).toNatClampNeg) (ob 8)) ((((88 : Int32) + ((6 : Int32) * (s 34))) + (2 : Int32)).toNatClampNeg) (ob 9))) ld ob) 33 ((((88 : Int32) + ((6 : Int32) * (s 34))) + (3 : Int32)).toNatClampNeg) (ob 10), E))) rfl ⟨(i3), trivial⟩ ?_
  rw [mk2_33]
  refine z_Ev_blk 8 (c' := ((if (ob 11) = 0 then 276 else 272), [some (aR 0 32), some (aI all), some (aI mask), some (aI ((88 : Int32) + ((6 : Int32) * (s 34))))], [aI (((88 : Int32) + ((6 : Int32) * (s 34))) + (4 : Int32)), aR 0 33], (C, mk2 (md D (upd (upd (upd (upd s (((88 : Int32) + ((6 : Int32) * (s 34))).toNatClampNeg) all) ((((88 : Int32) + ((6 : Int32) * (s 34))) + (1 : Int32)).toNatClampNeg) (ob 8)) ((((88 : Int32) + ((6 : Int32) * (s 34))) + (2 : Int32)).toNatClampNeg) (ob 9)) ((((88 : Int32) + ((6 : Int32) * (s 34))) + (3 : Int32)).toNatClampNeg) (ob 10))) ld ob, E))) rfl trivial ?_
  refine z_Ev_ite (fun h1 => ?_) (fun h1 => ?_)
  · skip
    refine z_Ev_blk 2 (c' := (278, [some (aR 0 32), some (aI all), some (aI mask), some (aI ((88 : Int32) + ((6 : Int32) * (s 34))))], [], (C, up2 (mk2 (md D (upd (upd (upd (upd s (((88 : Int32) + ((6 : Int32) * (s 34))).toNatClampNeg) all) ((((88 : Int32) + ((6 : Int32) * (s 34))) + (1 : Int32)).toNatClampNeg) (ob 8)) ((((88 : Int32) + ((6 : Int32) * (s 34))) + (2 : Int32)).toNatClampNeg) (ob 9)) ((((88 : Int32) + ((6 : Int32) * (s 34))) + (3 : Int32)).toNatClampNeg) (ob 10))) ld ob) 33 ((((88 : Int32) + ((6 : Int32) * (s 34))) + (4 : Int32)).toNatClampNeg) (0 : Int32), E))) rfl ⟨(i4), trivial⟩ ?_
    rw [mk2_33]
    refine z_Ev_blk 7 (c' := (287, [some (aR 0 32), some (aI all), some (aI mask), some (aI ((88 : Int32) + ((6 : Int32) * (s 34))))], [], (C, up2 (mk2 (md D (upd (upd (upd (upd (upd s (((88 : Int32) + ((6 : Int32) * (s 34))).toNatClampNeg) all) ((((88 : Int32) + ((6 : Int32) * (s 34))) + (1 : Int32)).toNatClampNeg) (ob 8)) ((((88 : Int32) + ((6 : Int32) * (s 34))) + (2 : Int32)).toNatClampNeg) (ob 9)) ((((88 : Int32) + ((6 : Int32) * (s 34))) + (3 : Int32)).toNatClampNeg) (ob 10)) ((((88 : Int32) + ((6 : Int32) * (s 34))) + (4 : Int32)).toNatClampNeg) (0 : Int32))) ld ob) 33 ((((88 : Int32) + ((6 : Int32) * (s 34))) + (5 : Int32)).toNatClampNeg) mask, E))) rfl ⟨(i5), trivial⟩ ?_
    rw [mk2_33]
    refine z_Ev_fgt [true, false, false, false] ?_
    exact z_Ev_eq (c := (287, [some (aR 0 32), none, none, none], [], (C, mk2 (md D (upd (upd (upd (upd (upd (upd s (((88 : Int32) + ((6 : Int32) * (s 34))).toNatClampNeg) all) ((((88 : Int32) + ((6 : Int32) * (s 34))) + (1 : Int32)).toNatClampNeg) (ob 8)) ((((88 : Int32) + ((6 : Int32) * (s 34))) + (2 : Int32)).toNatClampNeg) (ob 9)) ((((88 : Int32) + ((6 : Int32) * (s 34))) + (3 : Int32)).toNatClampNeg) (ob 10)) ((((88 : Int32) + ((6 : Int32) * (s 34))) + (4 : Int32)).toNatClampNeg) (0 : Int32)) ((((88 : Int32) + ((6 : Int32) * (s 34))) + (5 : Int32)).toNatClampNeg) mask)) ld ob, E))) (c' := (287, [some (aR 0 32), none, none, none], [], (C, mk2 (md D (upd (upd (upd (upd (upd (upd s (88 + 6 * s 34).toNatClampNeg all) (88 + 6 * s 34 + 1).toNatClampNeg (ob 8)) (88 + 6 * s 34 + 2).toNatClampNeg (ob 9)) (88 + 6 * s 34 + 3).toNatClampNeg (ob 10)) (88 + 6 * s 34 + 4).toNatClampNeg (if ob 11 = 0 then 0 else 1)) (88 + 6 * s 34 + 5).toNatClampNeg mask)) ld ob, E))) (by simp [h1, mk2_37, mk2_32, mk2_33]) K
  · skip
    refine z_Ev_blk 3 (c' := (278, [some (aR 0 32), some (aI all), some (aI mask), some (aI ((88 : Int32) + ((6 : Int32) * (s 34))))], [], (C, up2 (mk2 (md D (upd (upd (upd (upd s (((88 : Int32) + ((6 : Int32) * (s 34))).toNatClampNeg) all) ((((88 : Int32) + ((6 : Int32) * (s 34))) + (1 : Int32)).toNatClampNeg) (ob 8)) ((((88 : Int32) + ((6 : Int32) * (s 34))) + (2 : Int32)).toNatClampNeg) (ob 9)) ((((88 : Int32) + ((6 : Int32) * (s 34))) + (3 : Int32)).toNatClampNeg) (ob 10))) ld ob) 33 ((((88 : Int32) + ((6 : Int32) * (s 34))) + (4 : Int32)).toNatClampNeg) (1 : Int32), E))) rfl ⟨(i4), trivial⟩ ?_
    rw [mk2_33]
    refine z_Ev_blk 7 (c' := (287, [some (aR 0 32), some (aI all), some (aI mask), some (aI ((88 : Int32) + ((6 : Int32) * (s 34))))], [], (C, up2 (mk2 (md D (upd (upd (upd (upd (upd s (((88 : Int32) + ((6 : Int32) * (s 34))).toNatClampNeg) all) ((((88 : Int32) + ((6 : Int32) * (s 34))) + (1 : Int32)).toNatClampNeg) (ob 8)) ((((88 : Int32) + ((6 : Int32) * (s 34))) + (2 : Int32)).toNatClampNeg) (ob 9)) ((((88 : Int32) + ((6 : Int32) * (s 34))) + (3 : Int32)).toNatClampNeg) (ob 10)) ((((88 : Int32) + ((6 : Int32) * (s 34))) + (4 : Int32)).toNatClampNeg) (1 : Int32))) ld ob) 33 ((((88 : Int32) + ((6 : Int32) * (s 34))) + (5 : Int32)).toNatClampNeg) mask, E))) rfl ⟨(i5), trivial⟩ ?_
    rw [mk2_33]
    refine z_Ev_fgt [true, false, false, false] ?_
    exact z_Ev_eq (c := (287, [some (aR 0 32), none, none, none], [], (C, mk2 (md D (upd (upd (upd (upd (upd (upd s (((88 : Int32) + ((6 : Int32) * (s 34))).toNatClampNeg) all) ((((88 : Int32) + ((6 : Int32) * (s 34))) + (1 : Int32)).toNatClampNeg) (ob 8)) ((((88 : Int32) + ((6 : Int32) * (s 34))) + (2 : Int32)).toNatClampNeg) (ob 9)) ((((88 : Int32) + ((6 : Int32) * (s 34))) + (3 : Int32)).toNatClampNeg) (ob 10)) ((((88 : Int32) + ((6 : Int32) * (s 34))) + (4 : Int32)).toNatClampNeg) (1 : Int32)) ((((88 : Int32) + ((6 : Int32) * (s 34))) + (5 : Int32)).toNatClampNeg) mask)) ld ob, E))) (c' := (287, [some (aR 0 32), none, none, none], [], (C, mk2 (md D (upd (upd (upd (upd (upd (upd s (88 + 6 * s 34).toNatClampNeg all) (88 + 6 * s 34 + 1).toNatClampNeg (ob 8)) (88 + 6 * s 34 + 2).toNatClampNeg (ob 9)) (88 + 6 * s 34 + 3).toNatClampNeg (ob 10)) (88 + 6 * s 34 + 4).toNatClampNeg (if ob 11 = 0 then 0 else 1)) (88 + 6 * s 34 + 5).toNatClampNeg mask)) ld ob, E))) (by simp [h1, mk2_37, mk2_32, mk2_33]) K
def wrmF (s : Nat → Int32) : Nat → Int32 := upd (upd (upd s 35 (s 35 + (if s 37 = 1 then 1 else if s 35 ≤ 0 then 0 else -1))) 36 (if (s 35 + (if s 37 = 1 then 1 else if s 35 ≤ 0 then 0 else -1)) ≤ s 33 then s 36 else 1)) 34 (s 34 + 1)
theorem goW {xs : Nat → Int32} {L : Nat} (C : Nat → Nat → Nat → Int32) (D : Nat → Nat → Int32) (s ld ob : Nat → Int32) (E : Nat → Int64) : z_Ev xs L m_X5_goOn (287, [some (aR 0 32), none, none, none], [], (C, mk2 (md D s) ld ob, E)) (.inl none) (C, mk2 (md D (wrmF s)) ld ob, E) 0 := by
  unfold wrmF
  refine z_Ev_blk 11 (c' := ((if (s 37) = (1 : Int32) then 306 else 310), [some (aR 0 32), none, none, none], [aI (s 35), aI (35 : Int32), aR 0 33], (C, mk2 (md D s) ld ob, E))) rfl ⟨rfl, rfl, trivial⟩ ?_
  refine z_Ev_ite (fun h1 => ?_) (fun h1 => ?_)
  · skip
    refine z_Ev_blk 16 (c' := ((if ((s 35) + (1 : Int32)) ≤ (s 33) then 354 else 350), [some (aR 0 32), none, none, none], [aI (36 : Int32), aR 0 33], (C, up2 (mk2 (md D s) ld ob) 33 35 ((s 35) + (1 : Int32)), E))) rfl ⟨rfl, rfl, rfl, trivial⟩ ?_
    refine z_Ev_ite (fun h2 => ?_) (fun h2 => ?_)
    · skip
      refine z_Ev_blk 13 (c' := (373, [some (aR 0 32), none, none, none], [], (C, up2 (up2 (up2 (mk2 (md D s) ld ob) 33 35 ((s 35) + (1 : Int32))) 33 36 (s 36)) 33 34 ((s 34) + (1 : Int32)), E))) rfl ⟨rfl, rfl, rfl, rfl, trivial⟩ ?_
      exact z_Ev_vretE rfl rfl (by (try simp only [Int32.add_zero] at *); simp [*, mk2_37, mk2_32, mk2_33])
    · skip
      refine z_Ev_blk 11 (c' := (373, [some (aR 0 32), none, none, none], [], (C, up2 (up2 (up2 (mk2 (md D s) ld ob) 33 35 ((s 35) + (1 : Int32))) 33 36 (1 : Int32)) 33 34 ((s 34) + (1 : Int32)), E))) rfl ⟨rfl, rfl, rfl, trivial⟩ ?_
      exact z_Ev_vretE rfl rfl (by (try simp only [Int32.add_zero] at *); simp [*, mk2_37, mk2_32, mk2_33])
  · skip
    refine z_Ev_blk 5 (c' := ((if (s 35) ≤ 0 then 324 else 320), [some (aR 0 32), none, none, none], [aI (s 35), aI (35 : Int32), aR 0 33], (C, mk2 (md D s) ld ob, E))) rfl ⟨rfl, trivial⟩ ?_
    refine z_Ev_ite (fun h3 => ?_) (fun h3 => ?_)
    · skip
      refine z_Ev_blk 15 (c' := ((if ((s 35) + (0 : Int32)) ≤ (s 33) then 354 else 350), [some (aR 0 32), none, none, none], [aI (36 : Int32), aR 0 33], (C, up2 (mk2 (md D s) ld ob) 33 35 ((s 35) + (0 : Int32)), E))) rfl ⟨rfl, rfl, rfl, trivial⟩ ?_
      refine z_Ev_ite (fun h4 => ?_) (fun h4 => ?_)
      · skip
        refine z_Ev_blk 13 (c' := (373, [some (aR 0 32), none, none, none], [], (C, up2 (up2 (up2 (mk2 (md D s) ld ob) 33 35 ((s 35) + (0 : Int32))) 33 36 (s 36)) 33 34 ((s 34) + (1 : Int32)), E))) rfl ⟨rfl, rfl, rfl, rfl, trivial⟩ ?_
        exact z_Ev_vretE rfl rfl (by (try simp only [Int32.add_zero] at *); simp [*, mk2_37, mk2_32, mk2_33])
      · skip
        refine z_Ev_blk 11 (c' := (373, [some (aR 0 32), none, none, none], [], (C, up2 (up2 (up2 (mk2 (md D s) ld ob) 33 35 ((s 35) + (0 : Int32))) 33 36 (1 : Int32)) 33 34 ((s 34) + (1 : Int32)), E))) rfl ⟨rfl, rfl, rfl, trivial⟩ ?_
        exact z_Ev_vretE rfl rfl (by (try simp only [Int32.add_zero] at *); simp [*, mk2_37, mk2_32, mk2_33])
    · skip
      refine z_Ev_blk 16 (c' := ((if ((s 35) + (-1 : Int32)) ≤ (s 33) then 354 else 350), [some (aR 0 32), none, none, none], [aI (36 : Int32), aR 0 33], (C, up2 (mk2 (md D s) ld ob) 33 35 ((s 35) + (-1 : Int32)), E))) rfl ⟨rfl, rfl, rfl, trivial⟩ ?_
      refine z_Ev_ite (fun h5 => ?_) (fun h5 => ?_)
      · skip
        refine z_Ev_blk 13 (c' := (373, [some (aR 0 32), none, none, none], [], (C, up2 (up2 (up2 (mk2 (md D s) ld ob) 33 35 ((s 35) + (-1 : Int32))) 33 36 (s 36)) 33 34 ((s 34) + (1 : Int32)), E))) rfl ⟨rfl, rfl, rfl, rfl, trivial⟩ ?_
        exact z_Ev_vretE rfl rfl (by (try simp only [Int32.add_zero] at *); simp [*, mk2_37, mk2_32, mk2_33])
      · skip
        refine z_Ev_blk 11 (c' := (373, [some (aR 0 32), none, none, none], [], (C, up2 (up2 (up2 (mk2 (md D s) ld ob) 33 35 ((s 35) + (-1 : Int32))) 33 36 (1 : Int32)) 33 34 ((s 34) + (1 : Int32)), E))) rfl ⟨rfl, rfl, rfl, trivial⟩ ?_
        exact z_Ev_vretE rfl rfl (by (try simp only [Int32.add_zero] at *); simp [*, mk2_37, mk2_32, mk2_33])
def recF (s ob : Nat → Int32) (all mask : Int32) : Nat → Int32 := upd (upd (upd (upd (upd (upd s (88 + 6 * s 34).toNatClampNeg all) (88 + 6 * s 34 + 1).toNatClampNeg (ob 8)) (88 + 6 * s 34 + 2).toNatClampNeg (ob 9)) (88 + 6 * s 34 + 3).toNatClampNeg (ob 10)) (88 + 6 * s 34 + 4).toNatClampNeg (if ob 11 = 0 then 0 else 1)) (88 + 6 * s 34 + 5).toNatClampNeg mask
def wuS (s : Nat → Int32) (i j : Nat) : Nat → Int32 := if s i = 1 then upd (upd s j (s j - 1)) i (if s j - 1 = 0 then 2 else 1) else s
def wuF (s : Nat → Int32) : Nat → Int32 := wuS (wuS (wuS (wuS s 16 20) 17 21) 18 22) 19 23
def cntF (s ob : Nat → Int32) : Nat → Int32 := upd (upd s 38 (s 38 + (if ob 8 ≤ 0 then 0 else 1))) 39 (s 39 + (if ob 11 = 0 then 1 else 0))
def fuS (s ld : Nat → Int32) (mask k : Int32) (i j q n : Nat) : Nat → Int32 := upd (upd s i (s i + s j * ld n / 10)) q (s q + (if hs mask k = true then 1 else 0))
def fuF (s ld : Nat → Int32) (mask : Int32) : Nat → Int32 := fuS (fuS (fuS (fuS s ld mask 0 24 8 28 0) ld mask 1 25 9 29 1) ld mask 2 26 10 30 2) ld mask 3 27 11 31 3
def gMask (s : Nat → Int32) : Int32 := mkF (fun j => wuF s (16 + j)) 2
def gAll (s : Nat → Int32) : Int32 := lodF (wuF s) (wuF s 34)
def gLd (D : Nat → Nat → Int32) (s ld : Nat → Int32) : Nat → Int32 := (sGv (md D (wuF s)) (gAll s) (gMask s) ld).1
def gOb (D : Nat → Nat → Int32) (s ld ob : Nat → Int32) : Nat → Int32 := sOb (md D (wuF s)) (gAll s) (gMask s) ld ob
/-- the model's island behind an hour -/
def goF (D : Nat → Nat → Int32) (s ld ob : Nat → Int32) : Nat → Int32 := wrmF (recF (fuF (cntF (wuF s) (gOb D s ld ob)) (gLd D s ld) (gMask s)) (gOb D s ld ob) (gAll s) (gMask s))
theorem wuS_o {s : Nat → Int32} {i j k : Nat} (h1 : k ≠ i) (h2 : k ≠ j) : wuS s i j k = s k := by
  unfold wuS
  split
  · simp [upd, h1, h2]
  · rfl
theorem wuF_o {s : Nat → Int32} {k : Nat} (h : k < 16 ∨ 24 ≤ k) : wuF s k = s k := by
  unfold wuF
  rw [wuS_o (by omega) (by omega), wuS_o (by omega) (by omega), wuS_o (by omega) (by omega), wuS_o (by omega) (by omega)]
theorem cnt_34 {s ob ld : Nat → Int32} {mask : Int32} : fuF (cntF s ob) ld mask 34 = s 34 := by
  simp [fuF, fuS, cntF, upd]
theorem e_goOn {xs : Nat → Int32} {L : Nat} (C : Nat → Nat → Nat → Int32) (D : Nat → Nat → Int32) (s ld ob : Nat → Int32) (E : Nat → Int64) (hl : z_inb (40 + s 34) 376 = true)
    (i0 : z_inb (88 + 6 * s 34) 376 = true) (i1 : z_inb (88 + 6 * s 34 + 1) 376 = true) (i2 : z_inb (88 + 6 * s 34 + 2) 376 = true) (i3 : z_inb (88 + 6 * s 34 + 3) 376 = true) (i4 : z_inb (88 + 6 * s 34 + 4) 376 = true) (i5 : z_inb (88 + 6 * s 34 + 5) 376 = true) :
    z_Mt xs L m_X5_goOn [aR 0 32] (C, mk2 (md D s) ld ob, E) (.inl none) (C, mk2 (md D (goF D s ld ob)) (gLd D s ld) (gOb D s ld ob), E) 0 := by
  refine z_Ev_blk 2 (c' := (2, [some (aR 0 32), some (aI (0 : Int32)), none, none], [], (C, mk2 (md D s) ld ob, E))) rfl trivial ?_
  refine go1_0 C D _ _ _ E ?_
  refine go1_1 C D _ _ _ E ?_
  refine go1_2 C D _ _ _ E ?_
  refine go1_3 C D _ _ _ E ?_
  refine z_Ev_blk 3 (c' := ((if (4 : Int32) ≤ (4 : Int32) then 65 else 7), [some (aR 0 32), some (aI (4 : Int32)), none, none], [], (C, mk2 (md D (wuF s)) ld ob, E))) rfl trivial ?_
  refine z_Ev_if (by decide) ?_
  refine z_Ev_fgt [true, false, true, true] ?_
  have e34 : wuF s 34 = s 34 := wuF_o (Or.inr (by decide))
  refine goA (gAll s) (gMask s) C D (wuF s) ld ob E (gLd D s ld) (gOb D s ld ob) (by rw [e34]; exact hl) rfl rfl rfl rfl ?_
  refine go3_0 _ _ C D _ _ _ E ?_
  refine go3_1 _ _ C D _ _ _ E ?_
  refine go3_2 _ _ C D _ _ _ E ?_
  refine go3_3 _ _ C D _ _ _ E ?_
  have q : fuF (cntF (wuF s) (gOb D s ld ob)) (gLd D s ld) (gMask s) 34 = s 34 := by rw [cnt_34, e34]
  refine goR (gAll s) (gMask s) C D (fuF (cntF (wuF s) (gOb D s ld ob)) (gLd D s ld) (gMask s)) _ _ E (by rw [q]; exact i0) (by rw [q]; exact i1) (by rw [q]; exact i2) (by rw [q]; exact i3) (by rw [q]; exact i4) (by rw [q]; exact i5) ?_
  exact goW C D (recF (fuF (cntF (wuF s) (gOb D s ld ob)) (gLd D s ld) (gMask s)) (gOb D s ld ob) (gAll s) (gMask s)) _ _ E

