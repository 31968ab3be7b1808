/-! THE MODEL: the cheapest sets for an hour -/
def cnS (s : Nat → Int32) (mask k can : Int32) (j : Nat) : Int32 := if can = 0 then 0 else if hs mask k = true then (if s j = 3 then 0 else 1) else 1

theorem bn_0 {xs : Nat → Int32} {L : Nat} {o : z_Rs} {M' : Mem} {kk : Nat} (hour what found least mask can : Int32) (C : Nat → Nat → Nat → Int32) (s a v t ld ob : Nat → Int32) (E : Nat → Int64)  (K : z_Ev xs L m_X5_best (21, [some (aR 0 32), some (aI hour), some (aI what), some (aI found), some (aI least), some (aI mask), some (aI (cnS s mask 0 can 16)), some (aI (1 : Int32))], [], (C, dm s a v t ld ob, E)) o M' kk) : z_Ev xs L m_X5_best (21, [some (aR 0 32), some (aI hour), some (aI what), some (aI found), some (aI least), some (aI mask), some (aI can), some (aI (0 : Int32))], [], (C, dm s a v t ld ob, E)) o M' kk := by
  refine z_Ev_blk 3 (c' := ((if (4 : Int32) ≤ (0 : Int32) then 69 else 27), [some (aR 0 32), some (aI hour), some (aI what), some (aI found), some (aI least), some (aI mask), some (aI can), some (aI (0 : Int32))], [], (C, dm s a v t ld ob, E))) rfl trivial ?_
  refine z_Ev_else (by decide) ?_
  refine z_Ev_blk 2 (c' := ((if can = 0 then 60 else 32), [some (aR 0 32), some (aI hour), some (aI what), some (aI found), some (aI least), some (aI mask), some (aI can), some (aI (0 : Int32))], [], (C, dm s a v t ld ob, E))) rfl trivial ?_
  refine z_Ev_ite (fun h1 => ?_) (fun h1 => ?_)
  · skip
    refine z_Ev_blk 4 (c' := (21, [some (aR 0 32), some (aI hour), some (aI what), some (aI found), some (aI least), some (aI mask), some (aI (0 : Int32)), some (aI (1 : Int32))], [], (C, dm s a v t ld ob, E))) rfl trivial ?_
    refine z_Ev_fgt [true, true, true, true, true, true, true, true] ?_
    exact z_Ev_eq (c := (21, [some (aR 0 32), some (aI hour), some (aI what), some (aI found), some (aI least), some (aI mask), some (aI (0 : Int32)), some (aI (1 : Int32))], [], (C, dm s a v t ld ob, E))) (c' := (21, [some (aR 0 32), some (aI hour), some (aI what), some (aI found), some (aI least), some (aI mask), some (aI (cnS s mask 0 can 16)), some (aI (1 : Int32))], [], (C, dm s a v t ld ob, E))) (by simp [h1, cnS]) K
  · skip
    refine z_Ev_blk 2 (c' := (36, [some (aR 0 32), some (aI hour), some (aI what), some (aI found), some (aI least), some (aI mask), some (aI can), some (aI (0 : Int32))], [aI (0 : Int32), aI mask], (C, dm s a v t ld ob, E))) rfl trivial ?_
    refine z_Ev_call0 (m' := m_X5_has) (as := [aI mask, aI (0 : Int32)]) (r := []) (e_has mask (0 : Int32) _ _ _) rfl rfl ?_
    refine z_Ev_blk 1 (c' := ((if (f_b (hs mask (0 : Int32) = true)) = 0 then 56 else 42), [some (aR 0 32), some (aI hour), some (aI what), some (aI found), some (aI least), some (aI mask), some (aI can), some (aI (0 : Int32))], [], (C, dm s a v t ld ob, E))) rfl trivial ?_
    refine z_Ev_ite (fun h2 => ?_) (fun h2 => ?_)
    · replace h2 := f_bZ h2
      refine z_Ev_blk 5 (c' := (21, [some (aR 0 32), some (aI hour), some (aI what), some (aI found), some (aI least), some (aI mask), some (aI (1 : Int32)), some (aI (1 : Int32))], [], (C, dm s a v t ld ob, E))) rfl trivial ?_
      refine z_Ev_fgt [true, true, true, true, true, true, true, true] ?_
      exact z_Ev_eq (c := (21, [some (aR 0 32), some (aI hour), some (aI what), some (aI found), some (aI least), some (aI mask), some (aI (1 : Int32)), some (aI (1 : Int32))], [], (C, dm s a v t ld ob, E))) (c' := (21, [some (aR 0 32), some (aI hour), some (aI what), some (aI found), some (aI least), some (aI mask), some (aI (cnS s mask 0 can 16)), some (aI (1 : Int32))], [], (C, dm s a v t ld ob, E))) (by simp [h1, h2, cnS]) K
    · replace h2 := f_bQ h2
      refine z_Ev_blk 8 (c' := ((if (s 16) = (3 : Int32) then 60 else 56), [some (aR 0 32), some (aI hour), some (aI what), some (aI found), some (aI least), some (aI mask), some (aI can), some (aI (0 : Int32))], [], (C, dm s a v t ld ob, E))) rfl ⟨rfl, trivial⟩ ?_
      refine z_Ev_ite (fun h3 => ?_) (fun h3 => ?_)
      · skip
        refine z_Ev_blk 4 (c' := (21, [some (aR 0 32), some (aI hour), some (aI what), some (aI found), some (aI least), some (aI mask), some (aI (0 : Int32)), some (aI (1 : Int32))], [], (C, dm s a v t ld ob, E))) rfl trivial ?_
        refine z_Ev_fgt [true, true, true, true, true, true, true, true] ?_
        exact z_Ev_eq (c := (21, [some (aR 0 32), some (aI hour), some (aI what), some (aI found), some (aI least), some (aI mask), some (aI (0 : Int32)), some (aI (1 : Int32))], [], (C, dm s a v t ld ob, E))) (c' := (21, [some (aR 0 32), some (aI hour), some (aI what), some (aI found), some (aI least), some (aI mask), some (aI (cnS s mask 0 can 16)), some (aI (1 : Int32))], [], (C, dm s a v t ld ob, E))) (by simp [h1, h2, h3, cnS]) K
      · skip
        refine z_Ev_blk 5 (c' := (21, [some (aR 0 32), some (aI hour), some (aI what), some (aI found), some (aI least), some (aI mask), some (aI (1 : Int32)), some (aI (1 : Int32))], [], (C, dm s a v t ld ob, E))) rfl trivial ?_
        refine z_Ev_fgt [true, true, true, true, true, true, true, true] ?_
        exact z_Ev_eq (c := (21, [some (aR 0 32), some (aI hour), some (aI what), some (aI found), some (aI least), some (aI mask), some (aI (1 : Int32)), some (aI (1 : Int32))], [], (C, dm s a v t ld ob, E))) (c' := (21, [some (aR 0 32), some (aI hour), some (aI what), some (aI found), some (aI least), some (aI mask), some (aI (cnS s mask 0 can 16)), some (aI (1 : Int32))], [], (C, dm s a v t ld ob, E))) (by simp [h1, h2, h3, cnS]) K
theorem bn_1 {xs : Nat → Int32} {L : Nat} {o : z_Rs} {M' : Mem} {kk : Nat} (hour what found least mask can : Int32) (C : Nat → Nat → Nat → Int32) (s a v t ld ob : Nat → Int32) (E : Nat → Int64)  (K : z_Ev xs L m_X5_best (21, [some (aR 0 32), some (aI hour), some (aI what), some (aI found), some (aI least), some (aI mask), some (aI (cnS s mask 1 can 17)), some (aI (2 : Int32))], [], (C, dm s a v t ld ob, E)) o M' kk) : z_Ev xs L m_X5_best (21, [some (aR 0 32), some (aI hour), some (aI what), some (aI found), some (aI least), some (aI mask), some (aI can), some (aI (1 : Int32))], [], (C, dm s a v t ld ob, E)) o M' kk := by
  refine z_Ev_blk 3 (c' := ((if (4 : Int32) ≤ (1 : Int32) then 69 else 27), [some (aR 0 32), some (aI hour), some (aI what), some (aI found), some (aI least), some (aI mask), some (aI can), some (aI (1 : Int32))], [], (C, dm s a v t ld ob, E))) rfl trivial ?_
  refine z_Ev_else (by decide) ?_
  refine z_Ev_blk 2 (c' := ((if can = 0 then 60 else 32), [some (aR 0 32), some (aI hour), some (aI what), some (aI found), some (aI least), some (aI mask), some (aI can), some (aI (1 : Int32))], [], (C, dm s a v t ld ob, E))) rfl trivial ?_
  refine z_Ev_ite (fun h1 => ?_) (fun h1 => ?_)
  · skip
    refine z_Ev_blk 4 (c' := (21, [some (aR 0 32), some (aI hour), some (aI what), some (aI found), some (aI least), some (aI mask), some (aI (0 : Int32)), some (aI (2 : Int32))], [], (C, dm s a v t ld ob, E))) rfl trivial ?_
    refine z_Ev_fgt [true, true, true, true, true, true, true, true] ?_
    exact z_Ev_eq (c := (21, [some (aR 0 32), some (aI hour), some (aI what), some (aI found), some (aI least), some (aI mask), some (aI (0 : Int32)), some (aI (2 : Int32))], [], (C, dm s a v t ld ob, E))) (c' := (21, [some (aR 0 32), some (aI hour), some (aI what), some (aI found), some (aI least), some (aI mask), some (aI (cnS s mask 1 can 17)), some (aI (2 : Int32))], [], (C, dm s a v t ld ob, E))) (by simp [h1, cnS]) K
  · skip
    refine z_Ev_blk 2 (c' := (36, [some (aR 0 32), some (aI hour), some (aI what), some (aI found), some (aI least), some (aI mask), some (aI can), some (aI (1 : Int32))], [aI (1 : Int32), aI mask], (C, dm s a v t ld ob, E))) rfl trivial ?_
    refine z_Ev_call0 (m' := m_X5_has) (as := [aI mask, aI (1 : Int32)]) (r := []) (e_has mask (1 : Int32) _ _ _) rfl rfl ?_
    refine z_Ev_blk 1 (c' := ((if (f_b (hs mask (1 : Int32) = true)) = 0 then 56 else 42), [some (aR 0 32), some (aI hour), some (aI what), some (aI found), some (aI least), some (aI mask), some (aI can), some (aI (1 : Int32))], [], (C, dm s a v t ld ob, E))) rfl trivial ?_
    refine z_Ev_ite (fun h2 => ?_) (fun h2 => ?_)
    · replace h2 := f_bZ h2
      refine z_Ev_blk 5 (c' := (21, [some (aR 0 32), some (aI hour), some (aI what), some (aI found), some (aI least), some (aI mask), some (aI (1 : Int32)), some (aI (2 : Int32))], [], (C, dm s a v t ld ob, E))) rfl trivial ?_
      refine z_Ev_fgt [true, true, true, true, true, true, true, true] ?_
      exact z_Ev_eq (c := (21, [some (aR 0 32), some (aI hour), some (aI what), some (aI found), some (aI least), some (aI mask), some (aI (1 : Int32)), some (aI (2 : Int32))], [], (C, dm s a v t ld ob, E))) (c' := (21, [some (aR 0 32), some (aI hour), some (aI what), some (aI found), some (aI least), some (aI mask), some (aI (cnS s mask 1 can 17)), some (aI (2 : Int32))], [], (C, dm s a v t ld ob, E))) (by simp [h1, h2, cnS]) K
    · replace h2 := f_bQ h2
      refine z_Ev_blk 8 (c' := ((if (s 17) = (3 : Int32) then 60 else 56), [some (aR 0 32), some (aI hour), some (aI what), some (aI found), some (aI least), some (aI mask), some (aI can), some (aI (1 : Int32))], [], (C, dm s a v t ld ob, E))) rfl ⟨rfl, trivial⟩ ?_
      refine z_Ev_ite (fun h3 => ?_) (fun h3 => ?_)
      · skip
        refine z_Ev_blk 4 (c' := (21, [some (aR 0 32), some (aI hour), some (aI what), some (aI found), some (aI least), some (aI mask), some (aI (0 : Int32)), some (aI (2 : Int32))], [], (C, dm s a v t ld ob, E))) rfl trivial ?_
        refine z_Ev_fgt [true, true, true, true, true, true, true, true] ?_
        exact z_Ev_eq (c := (21, [some (aR 0 32), some (aI hour), some (aI what), some (aI found), some (aI least), some (aI mask), some (aI (0 : Int32)), some (aI (2 : Int32))], [], (C, dm s a v t ld ob, E))) (c' := (21, [some (aR 0 32), some (aI hour), some (aI what), some (aI found), some (aI least), some (aI mask), some (aI (cnS s mask 1 can 17)), some (aI (2 : Int32))], [], (C, dm s a v t ld ob, E))) (by simp [h1, h2, h3, cnS]) K
      · skip
        refine z_Ev_blk 5 (c' := (21, [some (aR 0 32), some (aI hour), some (aI what), some (aI found), some (aI least), some (aI mask), some (aI (1 : Int32)), some (aI (2 : Int32))], [], (C, dm s a v t ld ob, E))) rfl trivial ?_
        refine z_Ev_fgt [true, true, true, true, true, true, true, true] ?_
        exact z_Ev_eq (c := (21, [some (aR 0 32), some (aI hour), some (aI what), some (aI found), some (aI least), some (aI mask), some (aI (1 : Int32)), some (aI (2 : Int32))], [], (C, dm s a v t ld ob, E))) (c' := (21, [some (aR 0 32), some (aI hour), some (aI what), some (aI found), some (aI least), some (aI mask), some (aI (cnS s mask 1 can 17)), some (aI (2 : Int32))], [], (C, dm s a v t ld ob, E))) (by simp [h1, h2, h3, cnS]) K
theorem bn_2 {xs : Nat → Int32} {L : Nat} {o : z_Rs} {M' : Mem} {kk : Nat} (hour what found least mask can : Int32) (C : Nat → Nat → Nat → Int32) (s a v t ld ob : Nat → Int32) (E : Nat → Int64)  (K : z_Ev xs L m_X5_best (21, [some (aR 0 32), some (aI hour), some (aI what), some (aI found), some (aI least), some (aI mask), some (aI (cnS s mask 2 can 18)), some (aI (3 : Int32))], [], (C, dm s a v t ld ob, E)) o M' kk) : z_Ev xs L m_X5_best (21, [some (aR 0 32), some (aI hour), some (aI what), some (aI found), some (aI least), some (aI mask), some (aI can), some (aI (2 : Int32))], [], (C, dm s a v t ld ob, E)) o M' kk := by
  refine z_Ev_blk 3 (c' := ((if (4 : Int32) ≤ (2 : Int32) then 69 else 27), [some (aR 0 32), some (aI hour), some (aI what), some (aI found), some (aI least), some (aI mask), some (aI can), some (aI (2 : Int32))], [], (C, dm s a v t ld ob, E))) rfl trivial ?_
  refine z_Ev_else (by decide) ?_
  refine z_Ev_blk 2 (c' := ((if can = 0 then 60 else 32), [some (aR 0 32), some (aI hour), some (aI what), some (aI found), some (aI least), some (aI mask), some (aI can), some (aI (2 : Int32))], [], (C, dm s a v t ld ob, E))) rfl trivial ?_
  refine z_Ev_ite (fun h1 => ?_) (fun h1 => ?_)
  · skip
    refine z_Ev_blk 4 (c' := (21, [some (aR 0 32), some (aI hour), some (aI what), some (aI found), some (aI least), some (aI mask), some (aI (0 : Int32)), some (aI (3 : Int32))], [], (C, dm s a v t ld ob, E))) rfl trivial ?_
    refine z_Ev_fgt [true, true, true, true, true, true, true, true] ?_
    exact z_Ev_eq (c := (21, [some (aR 0 32), some (aI hour), some (aI what), some (aI found), some (aI least), some (aI mask), some (aI (0 : Int32)), some (aI (3 : Int32))], [], (C, dm s a v t ld ob, E))) (c' := (21, [some (aR 0 32), some (aI hour), some (aI what), some (aI found), some (aI least), some (aI mask), some (aI (cnS s mask 2 can 18)), some (aI (3 : Int32))], [], (C, dm s a v t ld ob, E))) (by simp [h1, cnS]) K
  · skip
    refine z_Ev_blk 2 (c' := (36, [some (aR 0 32), some (aI hour), some (aI what), some (aI found), some (aI least), some (aI mask), some (aI can), some (aI (2 : Int32))], [aI (2 : Int32), aI mask], (C, dm s a v t ld ob, E))) rfl trivial ?_
    refine z_Ev_call0 (m' := m_X5_has) (as := [aI mask, aI (2 : Int32)]) (r := []) (e_has mask (2 : Int32) _ _ _) rfl rfl ?_
    refine z_Ev_blk 1 (c' := ((if (f_b (hs mask (2 : Int32) = true)) = 0 then 56 else 42), [some (aR 0 32), some (aI hour), some (aI what), some (aI found), some (aI least), some (aI mask), some (aI can), some (aI (2 : Int32))], [], (C, dm s a v t ld ob, E))) rfl trivial ?_
    refine z_Ev_ite (fun h2 => ?_) (fun h2 => ?_)
    · replace h2 := f_bZ h2
      refine z_Ev_blk 5 (c' := (21, [some (aR 0 32), some (aI hour), some (aI what), some (aI found), some (aI least), some (aI mask), some (aI (1 : Int32)), some (aI (3 : Int32))], [], (C, dm s a v t ld ob, E))) rfl trivial ?_
      refine z_Ev_fgt [true, true, true, true, true, true, true, true] ?_
      exact z_Ev_eq (c := (21, [some (aR 0 32), some (aI hour), some (aI what), some (aI found), some (aI least), some (aI mask), some (aI (1 : Int32)), some (aI (3 : Int32))], [], (C, dm s a v t ld ob, E))) (c' := (21, [some (aR 0 32), some (aI hour), some (aI what), some (aI found), some (aI least), some (aI mask), some (aI (cnS s mask 2 can 18)), some (aI (3 : Int32))], [], (C, dm s a v t ld ob, E))) (by simp [h1, h2, cnS]) K
    · replace h2 := f_bQ h2
      refine z_Ev_blk 8 (c' := ((if (s 18) = (3 : Int32) then 60 else 56), [some (aR 0 32), some (aI hour), some (aI what), some (aI found), some (aI least), some (aI mask), some (aI can), some (aI (2 : Int32))], [], (C, dm s a v t ld ob, E))) rfl ⟨rfl, trivial⟩ ?_
      refine z_Ev_ite (fun h3 => ?_) (fun h3 => ?_)
      · skip
        refine z_Ev_blk 4 (c' := (21, [some (aR 0 32), some (aI hour), some (aI what), some (aI found), some (aI least), some (aI mask), some (aI (0 : Int32)), some (aI (3 : Int32))], [], (C, dm s a v t ld ob, E))) rfl trivial ?_
        refine z_Ev_fgt [true, true, true, true, true, true, true, true] ?_
        exact z_Ev_eq (c := (21, [some (aR 0 32), some (aI hour), some (aI what), some (aI found), some (aI least), some (aI mask), some (aI (0 : Int32)), some (aI (3 : Int32))], [], (C, dm s a v t ld ob, E))) (c' := (21, [some (aR 0 32), some (aI hour), some (aI what), some (aI found), some (aI least), some (aI mask), some (aI (cnS s mask 2 can 18)), some (aI (3 : Int32))], [], (C, dm s a v t ld ob, E))) (by simp [h1, h2, h3, cnS]) K
      · skip
        refine z_Ev_blk 5 (c' := (21, [some (aR 0 32), some (aI hour), some (aI what), some (aI found), some (aI least), some (aI mask), some (aI (1 : Int32)), some (aI (3 : Int32))], [], (C, dm s a v t ld ob, E))) rfl trivial ?_
        refine z_Ev_fgt [true, true, true, true, true, true, true, true] ?_
        exact z_Ev_eq (c := (21, [some (aR 0 32), some (aI hour), some (aI what), some (aI found), some (aI least), some (aI mask), some (aI (1 : Int32)), some (aI (3 : Int32))], [], (C, dm s a v t ld ob, E))) (c' := (21, [some (aR 0 32), some (aI hour), some (aI what), some (aI found), some (aI least), some (aI mask), some (aI (cnS s mask 2 can 18)), some (aI (3 : Int32))], [], (C, dm s a v t ld ob, E))) (by simp [h1, h2, h3, cnS]) K
theorem bn_3 {xs : Nat → Int32} {L : Nat} {o : z_Rs} {M' : Mem} {kk : Nat} (hour what found least mask can : Int32) (C : Nat → Nat → Nat → Int32) (s a v t ld ob : Nat → Int32) (E : Nat → Int64)  (K : z_Ev xs L m_X5_best (21, [some (aR 0 32), some (aI hour), some (aI what), some (aI found), some (aI least), some (aI mask), some (aI (cnS s mask 3 can 19)), some (aI (4 : Int32))], [], (C, dm s a v t ld ob, E)) o M' kk) : z_Ev xs L m_X5_best (21, [some (aR 0 32), some (aI hour), some (aI what), some (aI found), some (aI least), some (aI mask), some (aI can), some (aI (3 : Int32))], [], (C, dm s a v t ld ob, E)) o M' kk := by
  refine z_Ev_blk 3 (c' := ((if (4 : Int32) ≤ (3 : Int32) then 69 else 27), [some (aR 0 32), some (aI hour), some (aI what), some (aI found), some (aI least), some (aI mask), some (aI can), some (aI (3 : Int32))], [], (C, dm s a v t ld ob, E))) rfl trivial ?_
  refine z_Ev_else (by decide) ?_
  refine z_Ev_blk 2 (c' := ((if can = 0 then 60 else 32), [some (aR 0 32), some (aI hour), some (aI what), some (aI found), some (aI least), some (aI mask), some (aI can), some (aI (3 : Int32))], [], (C, dm s a v t ld ob, E))) rfl trivial ?_
  refine z_Ev_ite (fun h1 => ?_) (fun h1 => ?_)
  · skip
    refine z_Ev_blk 4 (c' := (21, [some (aR 0 32), some (aI hour), some (aI what), some (aI found), some (aI least), some (aI mask), some (aI (0 : Int32)), some (aI (4 : Int32))], [], (C, dm s a v t ld ob, E))) rfl trivial ?_
    refine z_Ev_fgt [true, true, true, true, true, true, true, true] ?_
    exact z_Ev_eq (c := (21, [some (aR 0 32), some (aI hour), some (aI what), some (aI found), some (aI least), some (aI mask), some (aI (0 : Int32)), some (aI (4 : Int32))], [], (C, dm s a v t ld ob, E))) (c' := (21, [some (aR 0 32), some (aI hour), some (aI what), some (aI found), some (aI least), some (aI mask), some (aI (cnS s mask 3 can 19)), some (aI (4 : Int32))], [], (C, dm s a v t ld ob, E))) (by simp [h1, cnS]) K
  · skip
    refine z_Ev_blk 2 (c' := (36, [some (aR 0 32), some (aI hour), some (aI what), some (aI found), some (aI least), some (aI mask), some (aI can), some (aI (3 : Int32))], [aI (3 : Int32), aI mask], (C, dm s a v t ld ob, E))) rfl trivial ?_
    refine z_Ev_call0 (m' := m_X5_has) (as := [aI mask, aI (3 : Int32)]) (r := []) (e_has mask (3 : Int32) _ _ _) rfl rfl ?_
    refine z_Ev_blk 1 (c' := ((if (f_b (hs mask (3 : Int32) = true)) = 0 then 56 else 42), [some (aR 0 32), some (aI hour), some (aI what), some (aI found), some (aI least), some (aI mask), some (aI can), some (aI (3 : Int32))], [], (C, dm s a v t ld ob, E))) rfl trivial ?_
    refine z_Ev_ite (fun h2 => ?_) (fun h2 => ?_)
    · replace h2 := f_bZ h2
      refine z_Ev_blk 5 (c' := (21, [some (aR 0 32), some (aI hour), some (aI what), some (aI found), some (aI least), some (aI mask), some (aI (1 : Int32)), some (aI (4 : Int32))], [], (C, dm s a v t ld ob, E))) rfl trivial ?_
      refine z_Ev_fgt [true, true, true, true, true, true, true, true] ?_
      exact z_Ev_eq (c := (21, [some (aR 0 32), some (aI hour), some (aI what), some (aI found), some (aI least), some (aI mask), some (aI (1 : Int32)), some (aI (4 : Int32))], [], (C, dm s a v t ld ob, E))) (c' := (21, [some (aR 0 32), some (aI hour), some (aI what), some (aI found), some (aI least), some (aI mask), some (aI (cnS s mask 3 can 19)), some (aI (4 : Int32))], [], (C, dm s a v t ld ob, E))) (by simp [h1, h2, cnS]) K
    · replace h2 := f_bQ h2
      refine z_Ev_blk 8 (c' := ((if (s 19) = (3 : Int32) then 60 else 56), [some (aR 0 32), some (aI hour), some (aI what), some (aI found), some (aI least), some (aI mask), some (aI can), some (aI (3 : Int32))], [], (C, dm s a v t ld ob, E))) rfl ⟨rfl, trivial⟩ ?_
      refine z_Ev_ite (fun h3 => ?_) (fun h3 => ?_)
      · skip
        refine z_Ev_blk 4 (c' := (21, [some (aR 0 32), some (aI hour), some (aI what), some (aI found), some (aI least), some (aI mask), some (aI (0 : Int32)), some (aI (4 : Int32))], [], (C, dm s a v t ld ob, E))) rfl trivial ?_
        refine z_Ev_fgt [true, true, true, true, true, true, true, true] ?_
        exact z_Ev_eq (c := (21, [some (aR 0 32), some (aI hour), some (aI what), some (aI found), some (aI least), some (aI mask), some (aI (0 : Int32)), some (aI (4 : Int32))], [], (C, dm s a v t ld ob, E))) (c' := (21, [some (aR 0 32), some (aI hour), some (aI what), some (aI found), some (aI least), some (aI mask), some (aI (cnS s mask 3 can 19)), some (aI (4 : Int32))], [], (C, dm s a v t ld ob, E))) (by simp [h1, h2, h3, cnS]) K
      · skip
        refine z_Ev_blk 5 (c' := (21, [some (aR 0 32), some (aI hour), some (aI what), some (aI found), some (aI least), some (aI mask), some (aI (1 : Int32)), some (aI (4 : Int32))], [], (C, dm s a v t ld ob, E))) rfl trivial ?_
        refine z_Ev_fgt [true, true, true, true, true, true, true, true] ?_
        exact z_Ev_eq (c := (21, [some (aR 0 32), some (aI hour), some (aI what), some (aI found), some (aI least), some (aI mask), some (aI (1 : Int32)), some (aI (4 : Int32))], [], (C, dm s a v t ld ob, E))) (c' := (21, [some (aR 0 32), some (aI hour), some (aI what), some (aI found), some (aI least), some (aI mask), some (aI (cnS s mask 3 can 19)), some (aI (4 : Int32))], [], (C, dm s a v t ld ob, E))) (by simp [h1, h2, h3, cnS]) K
def canF (s : Nat → Int32) (mask : Int32) : Int32 := cnS s mask 3 (cnS s mask 2 (cnS s mask 1 (cnS s mask 0 1 16) 17) 18) 19
def isF (can en found fu least : Int32) : Bool := decide (¬ can = 0 ∧ ¬ en = 0 ∧ (found = -1 ∨ fu < least))
theorem bm {xs : Nat → Int32} {L : Nat} {o : z_Rs} {M' : Mem} {kk : Nat} (hour what found least mask can : Int32) (C : Nat → Nat → Nat → Int32) (s a v t ld ob : Nat → Int32) (E : Nat → Int64) (LD OB : Nat → Int32) (hh : z_inb (40 + hour) 376 = true) (hm : mask ∈ m16) (hLD : (sGv (md g0 s) (lodF s hour) mask ld).1 = LD) (hOB : sOb (md g0 s) (lodF s hour) mask ld ob = OB) (K : z_Ev xs L m_X5_best (8, [some (aR 0 32), some (aI hour), some (aI what), some (aI (if isF can (OB 11) found (OB 12) least = true then mask else found)), some (aI (if isF can (OB 11) found (OB 12) least = true then OB 12 else least)), some (aI (mask + 1)), none, none], [], (C, dm s a v t LD OB, E)) o M' kk) : z_Ev xs L m_X5_best (21, [some (aR 0 32), some (aI hour), some (aI what), some (aI found), some (aI least), some (aI mask), some (aI can), some (aI (4 : Int32))], [], (C, dm s a v t ld ob, E)) o M' kk := by
  refine z_Ev_blk 3 (c' := ((if (4 : Int32) ≤ (4 : Int32) then 69 else 27), [some (aR 0 32), some (aI hour), some (aI what), some (aI found), some (aI least), some (aI mask), some (aI can), some (aI (4 : Int32))], [], (C, dm s a v t ld ob, E))) rfl trivial ?_
  refine z_Ev_if (by decide) ?_
  refine z_Ev_blk 3 (c' := (72, [some (aR 0 32), some (aI hour), some (aI what), some (aI found), some (aI least), some (aI mask), some (aI can), some (aI (4 : Int32))], [aI hour, aR 0 32, aR 0 32], (C, dm s a v t ld ob, E))) rfl trivial ?_
  refine z_Ev_call0 (m' := m_X5_loadOf) (as := [aR 0 32, aI hour]) (r := [aR 0 32]) (E_load hour (hh) C s a v t ld ob E) rfl rfl ?_
  refine z_Ev_blk 1 (c' := (77, [some (aR 0 32), some (aI hour), some (aI what), some (aI found), some (aI least), some (aI mask), some (aI can), some (aI (4 : Int32))], [aI mask, aI (lodF s hour), aR 0 32], (C, dm s a v t ld ob, E))) rfl trivial ?_
  refine z_Ev_call0 (m' := m_X5_share) (as := [aR 0 32, aI (lodF s hour), aI mask]) (r := []) ((by have q := E_share (xs := xs) (L := L) (lodF s hour) mask hm C s a v t ld ob E; rw [hLD, hOB] at q; exact q)) rfl rfl ?_
  refine z_Ev_blk 2 (c' := ((if can = 0 then 110 else 85), [some (aR 0 32), some (aI hour), some (aI what), some (aI found), some (aI least), some (aI mask), some (aI can), some (aI (4 : Int32))], [], (C, dm s a v t LD OB, E))) rfl trivial ?_
  refine z_Ev_ite (fun h1 => ?_) (fun h1 => ?_)
  · skip
    refine z_Ev_blk 4 (c' := ((if (0 : Int32) = 0 then 123 else 118), [some (aR 0 32), some (aI hour), some (aI what), some (aI found), some (aI least), some (aI mask), some (aI can), some (aI (0 : Int32))], [], (C, dm s a v t LD OB, E))) rfl trivial ?_
    refine z_Ev_if (by decide) ?_
    refine z_Ev_blk 4 (c' := ((if (0 : Int32) = 0 then 137 else 130), [some (aR 0 32), some (aI hour), some (aI what), some (aI found), some (aI least), some (aI mask), some (aI can), some (aI (0 : Int32))], [], (C, dm s a v t LD OB, E))) rfl trivial ?_
    refine z_Ev_if (by decide) ?_
    refine z_Ev_blk 4 (c' := (8, [some (aR 0 32), some (aI hour), some (aI what), some (aI found), some (aI least), some (aI (mask + (1 : Int32))), some (aI can), some (aI (0 : Int32))], [], (C, dm s a v t LD OB, E))) rfl trivial ?_
    refine z_Ev_fgt [true, true, true, true, true, true, false, false] ?_
    exact z_Ev_eq (c := (8, [some (aR 0 32), some (aI hour), some (aI what), some (aI found), some (aI least), some (aI (mask + (1 : Int32))), none, none], [], (C, dm s a v t LD OB, E))) (c' := (8, [some (aR 0 32), some (aI hour), some (aI what), some (aI (if isF can (OB 11) found (OB 12) least = true then mask else found)), some (aI (if isF can (OB 11) found (OB 12) least = true then OB 12 else least)), some (aI (mask + 1)), none, none], [], (C, dm s a v t LD OB, E))) (by first | (simp_all [isF]; done) | (have q := Int32.not_lt.mpr h4; simp [isF, *]; done) | (have q := Int32.not_le.mp h4; simp [isF, *]; done)) K
  · skip
    refine z_Ev_blk 3 (c' := ((if (OB 11) = 0 then 110 else 92), [some (aR 0 32), some (aI hour), some (aI what), some (aI found), some (aI least), some (aI mask), some (aI can), some (aI (4 : Int32))], [], (C, dm s a v t LD OB, E))) rfl trivial ?_
    refine z_Ev_ite (fun h2 => ?_) (fun h2 => ?_)
    · skip
      refine z_Ev_blk 4 (c' := ((if (0 : Int32) = 0 then 123 else 118), [some (aR 0 32), some (aI hour), some (aI what), some (aI found), some (aI least), some (aI mask), some (aI can), some (aI (0 : Int32))], [], (C, dm s a v t LD OB, E))) rfl trivial ?_
      refine z_Ev_if (by decide) ?_
      refine z_Ev_blk 4 (c' := ((if (0 : Int32) = 0 then 137 else 130), [some (aR 0 32), some (aI hour), some (aI what), some (aI found), some (aI least), some (aI mask), some (aI can), some (aI (0 : Int32))], [], (C, dm s a v t LD OB, E))) rfl trivial ?_
      refine z_Ev_if (by decide) ?_
      refine z_Ev_blk 4 (c' := (8, [some (aR 0 32), some (aI hour), some (aI what), some (aI found), some (aI least), some (aI (mask + (1 : Int32))), some (aI can), some (aI (0 : Int32))], [], (C, dm s a v t LD OB, E))) rfl trivial ?_
      refine z_Ev_fgt [true, true, true, true, true, true, false, false] ?_
      exact z_Ev_eq (c := (8, [some (aR 0 32), some (aI hour), some (aI what), some (aI found), some (aI least), some (aI (mask + (1 : Int32))), none, none], [], (C, dm s a v t LD OB, E))) (c' := (8, [some (aR 0 32), some (aI hour), some (aI what), some (aI (if isF can (OB 11) found (OB 12) least = true then mask else found)), some (aI (if isF can (OB 11) found (OB 12) least = true then OB 12 else least)), some (aI (mask + 1)), none, none], [], (C, dm s a v t LD OB, E))) (by first | (simp_all [isF]; done) | (have q := Int32.not_lt.mpr h4; simp [isF, *]; done) | (have q := Int32.not_le.mp h4; simp [isF, *]; done)) K
    · skip
      refine z_Ev_blk 3 (c' := ((if found = (-1 : Int32) then 106 else 97), [some (aR 0 32), some (aI hour), some (aI what), some (aI found), some (aI least), some (aI mask), some (aI can), some (aI (4 : Int32))], [], (C, dm s a v t LD OB, E))) rfl trivial ?_
      refine z_Ev_ite (fun h3 => ?_) (fun h3 => ?_)
      · skip
        refine z_Ev_blk 5 (c' := ((if (1 : Int32) = 0 then 123 else 118), [some (aR 0 32), some (aI hour), some (aI what), some (aI found), some (aI least), some (aI mask), some (aI can), some (aI (1 : Int32))], [], (C, dm s a v t LD OB, E))) rfl trivial ?_
        refine z_Ev_else (by decide) ?_
        refine z_Ev_blk 5 (c' := ((if (1 : Int32) = 0 then 137 else 130), [some (aR 0 32), some (aI hour), some (aI what), some (aI mask), some (aI least), some (aI mask), some (aI can), some (aI (1 : Int32))], [], (C, dm s a v t LD OB, E))) rfl trivial ?_
        refine z_Ev_else (by decide) ?_
        refine z_Ev_blk 6 (c' := (8, [some (aR 0 32), some (aI hour), some (aI what), some (aI mask), some (aI (OB 12)), some (aI (mask + (1 : Int32))), some (aI can), some (aI (1 : Int32))], [], (C, dm s a v t LD OB, E))) rfl trivial ?_
        refine z_Ev_fgt [true, true, true, true, true, true, false, false] ?_
        exact z_Ev_eq (c := (8, [some (aR 0 32), some (aI hour), some (aI what), some (aI mask), some (aI (OB 12)), some (aI (mask + (1 : Int32))), none, none], [], (C, dm s a v t LD OB, E))) (c' := (8, [some (aR 0 32), some (aI hour), some (aI what), some (aI (if isF can (OB 11) found (OB 12) least = true then mask else found)), some (aI (if isF can (OB 11) found (OB 12) least = true then OB 12 else least)), some (aI (mask + 1)), none, none], [], (C, dm s a v t LD OB, E))) (by first | (simp_all [isF]; done) | (have q := Int32.not_lt.mpr h4; simp [isF, *]; done) | (have q := Int32.not_le.mp h4; simp [isF, *]; done)) K
      · skip
        refine z_Ev_blk 4 (c' := ((if least ≤ (OB 12) then 110 else 106), [some (aR 0 32), some (aI hour), some (aI what), some (aI found), some (aI least), some (aI mask), some (aI can), some (aI (4 : Int32))], [], (C, dm s a v t LD OB, E))) rfl trivial ?_
        refine z_Ev_ite (fun h4 => ?_) (fun h4 => ?_)
        · skip
          refine z_Ev_blk 4 (c' := ((if (0 : Int32) = 0 then 123 else 118), [some (aR 0 32), some (aI hour), some (aI what), some (aI found), some (aI least), some (aI mask), some (aI can), some (aI (0 : Int32))], [], (C, dm s a v t LD OB, E))) rfl trivial ?_
          refine z_Ev_if (by decide) ?_
          refine z_Ev_blk 4 (c' := ((if (0 : Int32) = 0 then 137 else 130), [some (aR 0 32), some (aI hour), some (aI what), some (aI found), some (aI least), some (aI mask), some (aI can), some (aI (0 : Int32))], [], (C, dm s a v t LD OB, E))) rfl trivial ?_
          refine z_Ev_if (by decide) ?_
          refine z_Ev_blk 4 (c' := (8, [some (aR 0 32), some (aI hour), some (aI what), some (aI found), some (aI least), some (aI (mask + (1 : Int32))), some (aI can), some (aI (0 : Int32))], [], (C, dm s a v t LD OB, E))) rfl trivial ?_
          refine z_Ev_fgt [true, true, true, true, true, true, false, false] ?_
          exact z_Ev_eq (c := (8, [some (aR 0 32), some (aI hour), some (aI what), some (aI found), some (aI least), some (aI (mask + (1 : Int32))), none, none], [], (C, dm s a v t LD OB, E))) (c' := (8, [some (aR 0 32), some (aI hour), some (aI what), some (aI (if isF can (OB 11) found (OB 12) least = true then mask else found)), some (aI (if isF can (OB 11) found (OB 12) least = true then OB 12 else least)), some (aI (mask + 1)), none, none], [], (C, dm s a v t LD OB, E))) (by first | (simp_all [isF]; done) | (have q := Int32.not_lt.mpr h4; simp [isF, *]; done) | (have q := Int32.not_le.mp h4; simp [isF, *]; done)) K
        · skip
          refine z_Ev_blk 5 (c' := ((if (1 : Int32) = 0 then 123 else 118), [some (aR 0 32), some (aI hour), some (aI what), some (aI found), some (aI least), some (aI mask), some (aI can), some (aI (1 : Int32))], [], (C, dm s a v t LD OB, E))) rfl trivial ?_
          refine z_Ev_else (by decide) ?_
          refine z_Ev_blk 5 (c' := ((if (1 : Int32) = 0 then 137 else 130), [some (aR 0 32), some (aI hour), some (aI what), some (aI mask), some (aI least), some (aI mask), some (aI can), some (aI (1 : Int32))], [], (C, dm s a v t LD OB, E))) rfl trivial ?_
          refine z_Ev_else (by decide) ?_
          refine z_Ev_blk 6 (c' := (8, [some (aR 0 32), some (aI hour), some (aI what), some (aI mask), some (aI (OB 12)), some (aI (mask + (1 : Int32))), some (aI can), some (aI (1 : Int32))], [], (C, dm s a v t LD OB, E))) rfl trivial ?_
          refine z_Ev_fgt [true, true, true, true, true, true, false, false] ?_
          exact z_Ev_eq (c := (8, [some (aR 0 32), some (aI hour), some (aI what), some (aI mask), some (aI (OB 12)), some (aI (mask + (1 : Int32))), none, none], [], (C, dm s a v t LD OB, E))) (c' := (8, [some (aR 0 32), some (aI hour), some (aI what), some (aI (if isF can (OB 11) found (OB 12) least = true then mask else found)), some (aI (if isF can (OB 11) found (OB 12) least = true then OB 12 else least)), some (aI (mask + 1)), none, none], [], (C, dm s a v t LD OB, E))) (by first | (simp_all [isF]; done) | (have q := Int32.not_lt.mpr h4; simp [isF, *]; done) | (have q := Int32.not_le.mp h4; simp [isF, *]; done)) K

theorem m16_nI {i : Nat} (h : i < 16) : nI i ∈ m16 := by
  have h2 : (List.range 16).all (fun i => decide (nI i ∈ m16)) = true := by decide +kernel
  exact of_decide_eq_true (List.all_eq_true.mp h2 i (List.mem_range.mpr h))
/-- found, its fuel, and the scratch, behind the masks i and on -/
def beT (s : Nat → Int32) (hour mask : Int32) (x : Int32 × (Int32 × ((Nat → Int32) × (Nat → Int32)))) : Int32 × (Int32 × ((Nat → Int32) × (Nat → Int32))) :=
  (if isF (canF s mask) (sOb (md g0 s) (lodF s hour) mask x.2.2.1 x.2.2.2 11) x.1 (sOb (md g0 s) (lodF s hour) mask x.2.2.1 x.2.2.2 12) x.2.1 = true then mask else x.1, if isF (canF s mask) (sOb (md g0 s) (lodF s hour) mask x.2.2.1 x.2.2.2 11) x.1 (sOb (md g0 s) (lodF s hour) mask x.2.2.1 x.2.2.2 12) x.2.1 = true then sOb (md g0 s) (lodF s hour) mask x.2.2.1 x.2.2.2 12 else x.2.1, (sGv (md g0 s) (lodF s hour) mask x.2.2.1).1, sOb (md g0 s) (lodF s hour) mask x.2.2.1 x.2.2.2)
def beI (s : Nat → Int32) (hour : Int32) : Nat → Nat → Int32 × (Int32 × ((Nat → Int32) × (Nat → Int32))) → Int32 × (Int32 × ((Nat → Int32) × (Nat → Int32)))
  | 0, _, x => x
  | d + 1, i, x => beI s hour d (i + 1) (beT s hour (nI i) x)

theorem be_1 {xs : Nat → Int32} {L : Nat} {o : z_Rs} {M' : Mem} {kk : Nat} (hour what : Int32) (C : Nat → Nat → Nat → Int32) (s a v t : Nat → Int32) (E : Nat → Int64) (i : Nat) (x : Int32 × (Int32 × ((Nat → Int32) × (Nat → Int32)))) (hh : z_inb (40 + hour) 376 = true) (hi : i < 16) (K : z_Ev xs L m_X5_best (8, [some (aR 0 32), some (aI hour), some (aI what), some (aI ((beT s hour (nI i) x).1)), some (aI ((beT s hour (nI i) x).2.1)), some (aI (nI (i + 1))), none, none], [], (C, dm s a v t (beT s hour (nI i) x).2.2.1 (beT s hour (nI i) x).2.2.2, E)) o M' kk) : z_Ev xs L m_X5_best (8, [some (aR 0 32), some (aI hour), some (aI what), some (aI x.1), some (aI x.2.1), some (aI (nI i)), none, none], [], (C, dm s a v t x.2.2.1 x.2.2.2, E)) o M' kk := by
  obtain ⟨found, least, ld, ob⟩ := x
  refine z_Ev_blk 3 (c' := ((if (16 : Int32) ≤ nI i then 147 else 15), [some (aR 0 32), some (aI hour), some (aI what), some (aI found), some (aI least), some (aI (nI i)), none, none], [], (C, dm s a v t ld ob, E))) rfl trivial ?_
  refine z_Ev_else (nI_ge (b := 16) hi (by decide)) ?_
  refine z_Ev_blk 4 (c' := (21, [some (aR 0 32), some (aI hour), some (aI what), some (aI found), some (aI least), some (aI (nI i)), some (aI (1 : Int32)), some (aI (0 : Int32))], [], (C, dm s a v t ld ob, E))) rfl trivial ?_
  refine bn_0 hour what _ _ _ _ C s a v t ld ob E ?_
  refine bn_1 hour what _ _ _ _ C s a v t ld ob E ?_
  refine bn_2 hour what _ _ _ _ C s a v t ld ob E ?_
  refine bn_3 hour what _ _ _ _ C s a v t ld ob E ?_
  refine bm hour what _ _ _ _ C s a v t ld ob E _ _ hh (m16_nI hi) rfl rfl ?_
  rw [nI_1]
  unfold beT canF at K
  dsimp only at K
  generalize sOb (md g0 s) (lodF s hour) (nI i) ld ob = OB at K ⊢
  generalize (sGv (md g0 s) (lodF s hour) (nI i) ld).1 = LD at K ⊢
  exact K
