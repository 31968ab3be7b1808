/-! THE MODEL: best, whole -/
theorem beI_s {s : Nat → Int32} {hour : Int32} {d i : Nat} {x : Int32 × (Int32 × ((Nat → Int32) × (Nat → Int32)))} : beI s hour (d + 1) i x = beI s hour d (i + 1) (beT s hour (nI i) x) := rfl
theorem be_all {xs : Nat → Int32} {L : Nat} {o : z_Rs} {M' : Mem} {kk : Nat} (hour what : Int32) (C : Nat → Nat → Nat → Int32) (s a v t : Nat → Int32) (E : Nat → Int64) (hh : z_inb (40 + hour) 376 = true) : ∀ (d i : Nat) (x : Int32 × (Int32 × ((Nat → Int32) × (Nat → Int32)))), i + d = 16 →
    z_Ev xs L m_X5_best (8, [some (aR 0 32), some (aI hour), some (aI what), some (aI (beI s hour d i x).1), some (aI (beI s hour d i x).2.1), some (aI (16 : Int32)), none, none], [], (C, dm s a v t (beI s hour d i x).2.2.1 (beI s hour d i x).2.2.2, E)) o M' kk →
    z_Ev xs L m_X5_best (8, [some (aR 0 32), some (aI hour), some (aI what), some (aI x.1), some (aI x.2.1), some (aI (nI i)), none, none], [], (C, dm s a v t x.2.2.1 x.2.2.2, E)) o M' kk := by
  intro d
  induction d with
  | zero =>
    intro i x h K
    have e : i = 16 := by omega
    subst e
    exact K
  | succ d ih =>
    intro i x h K
    rw [beI_s] at K
    exact be_1 hour what C s a v t E i x hh (by omega) (ih (i + 1) (beT s hour (nI i) x) (by omega) K)
theorem m_best {xs : Nat → Int32} {L : Nat} (hour what : Int32) (C : Nat → Nat → Nat → Int32) (s a v t ld ob : Nat → Int32) (E : Nat → Int64) (hh : z_inb (40 + hour) 376 = true) (y : Int32 × (Int32 × ((Nat → Int32) × (Nat → Int32)))) (hy : beI s hour 16 0 (-1, 0, ld, ob) = y) :
    z_Mt xs L m_X5_best [aR 0 32, aI hour, aI what] (C, dm s a v t ld ob, E) (.inl (some (aI (if y.1 = -1 then -1 else if what = 0 then y.1 else y.2.1)))) (C, dm s a v t y.2.2.1 y.2.2.2, E) 0 := by
  refine z_Ev_blk 6 (c' := (8, [some (aR 0 32), some (aI hour), some (aI what), some (aI (-1 : Int32)), some (aI (0 : Int32)), some (aI (nI 0)), none, none], [], (C, dm s a v t ld ob, E))) rfl trivial ?_
  refine be_all hour what C s a v t E hh 16 0 (-1, 0, ld, ob) rfl ?_
  rw [hy]
  obtain ⟨found, least, LD, OB⟩ := y

  refine z_Ev_blk 3 (c' := ((if (16 : Int32) ≤ (16 : Int32) then 147 else 15), [some (aR 0 32), some (aI hour), some (aI what), some (aI found), some (aI least), some (aI (16 : Int32)), none, none], [], (C, dm s a v t LD OB, E))) rfl trivial ?_
  refine z_Ev_if (by decide) ?_
  refine z_Ev_blk 3 (c' := ((if found = (-1 : Int32) then 152 else 156), [some (aR 0 32), some (aI hour), some (aI what), some (aI found), some (aI least), some (aI (16 : Int32)), none, none], [], (C, dm s a v t LD OB, E))) rfl trivial ?_
  refine z_Ev_ite (fun h1 => ?_) (fun h1 => ?_)
  · skip
    refine z_Ev_blk 2 (c' := (166, [some (aR 0 32), some (aI hour), some (aI what), some (aI found), some (aI least), some (aI (16 : Int32)), none, none], [aI (-1 : Int32)], (C, dm s a v t LD OB, E))) rfl trivial ?_
    exact z_Ev_iretE rfl rfl (by simp [*]) (by rfl)
  · skip
    refine z_Ev_blk 2 (c' := ((if what = 0 then 160 else 164), [some (aR 0 32), some (aI hour), some (aI what), some (aI found), some (aI least), some (aI (16 : Int32)), none, none], [], (C, dm s a v t LD OB, E))) rfl trivial ?_
    refine z_Ev_ite (fun h2 => ?_) (fun h2 => ?_)
    · skip
      refine z_Ev_blk 2 (c' := (166, [some (aR 0 32), some (aI hour), some (aI what), some (aI found), some (aI least), some (aI (16 : Int32)), none, none], [aI found], (C, dm s a v t LD OB, E))) rfl trivial ?_
      exact z_Ev_iretE rfl rfl (by simp [*]) (by rfl)
    · skip
      refine z_Ev_blk 1 (c' := (166, [some (aR 0 32), some (aI hour), some (aI what), some (aI found), some (aI least), some (aI (16 : Int32)), none, none], [aI least], (C, dm s a v t LD OB, E))) rfl trivial ?_
      exact z_Ev_iretE rfl rfl (by simp [*]) (by rfl)
