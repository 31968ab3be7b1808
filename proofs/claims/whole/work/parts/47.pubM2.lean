/-! THE MODEL: its public methods, second -/
theorem u_rateA {xs : Nat → Int32} {L : Nat} (x g l e w : Int32) (C : Nat → Nat → Nat → Int32) (s a v t ld ob : Nat → Int32) (E : Nat → Int64) (hbad : ¬ ((0 ≤ x ∧ x ≤ 3) ∧ (50 ≤ g ∧ g ≤ 500) ∧ (0 ≤ l ∧ l ≤ g) ∧ (1 ≤ e ∧ e ≤ 99) ∧ 0 ≤ w ∧ w ≤ 4)) : z_Mt xs L m_X5_rate [aR 0 32, aI x, aI g, aI l, aI e, aI w] (C, dm s a v t ld ob, E) (.inl (some (aI 0))) (C, dm s a v t ld (upd ob 0 1), E) 0 := by
  refine z_Ev_blk 1 (c' := (1, [some (aR 0 32), some (aI x), some (aI g), some (aI l), some (aI e), some (aI w), none], [aI x], (C, dm s a v t ld ob, E))) rfl trivial ?_
  refine z_Ev_call0 (m' := m_X5_isSet) (as := [aI x]) (r := []) (e_mSet x C (dm s a v t ld ob) E) rfl rfl ?_
  refine z_Ev_blk 1 (c' := ((if (f_b (0 ≤ x ∧ x ≤ 3)) = 0 then 53 else 7), [some (aR 0 32), some (aI x), some (aI g), some (aI l), some (aI e), some (aI w), none], [], (C, dm s a v t ld ob, E))) rfl trivial ?_
  refine z_Ev_ite (fun h1 => ?_) (fun h1 => ?_)
  · replace h1 := f_bZ h1
    refine z_Ev_blk 5 (c' := ((if (0 : Int32) = 0 then 62 else 66), [some (aR 0 32), some (aI x), some (aI g), some (aI l), some (aI e), some (aI w), some (aI (0 : Int32))], [aR 0 32], (C, dm s a v t ld ob, E))) rfl trivial ?_
    refine z_Ev_if (by decide) ?_
    refine z_Ev_blk 2 (c' := (83, [some (aR 0 32), some (aI x), some (aI g), some (aI l), some (aI e), some (aI w), some (aI (0 : Int32))], [aI (1 : Int32), aR 0 32], (C, dm s a v t ld ob, E))) rfl trivial ?_
    refine z_Ev_call0 (m' := m_X5_holds) (as := [aR 0 32, aI (1 : Int32)]) (r := []) ((by have q := m_holds (xs := xs) (L := L) (1 : Int32) C s a v t ld ob E; rw [f_b_f (by decide)] at q; exact q)) rfl rfl ?_
    refine z_Ev_blk 1 (c' := ((if (0 : Int32) = 0 then 89 else 91), [some (aR 0 32), some (aI x), some (aI g), some (aI l), some (aI e), some (aI w), some (aI (0 : Int32))], [], (C, dm s a v t ld (upd ob 0 (1 : Int32)), E))) rfl trivial ?_
    refine z_Ev_if (by decide) ?_
    refine z_Ev_blk 1 (c' := (90, [some (aR 0 32), some (aI x), some (aI g), some (aI l), some (aI e), some (aI w), some (aI (0 : Int32))], [aI (0 : Int32)], (C, dm s a v t ld (upd ob 0 (1 : Int32)), E))) rfl trivial ?_
    exact z_Ev_iretE rfl rfl (by rfl) (by rfl)
  · replace h1 := f_bQ h1
    refine z_Ev_blk 3 (c' := (13, [some (aR 0 32), some (aI x), some (aI g), some (aI l), some (aI e), some (aI w), none], [aI (500 : Int32), aI (50 : Int32), aI g], (C, dm s a v t ld ob, E))) rfl trivial ?_
    refine z_Ev_call0 (m' := m_X5_in) (as := [aI g, aI (50 : Int32), aI (500 : Int32)]) (r := []) (e_in g (50 : Int32) (500 : Int32) C (dm s a v t ld ob) E) rfl rfl ?_
    refine z_Ev_blk 1 (c' := ((if (f_b ((50 : Int32) ≤ g ∧ g ≤ (500 : Int32))) = 0 then 53 else 19), [some (aR 0 32), some (aI x), some (aI g), some (aI l), some (aI e), some (aI w), none], [], (C, dm s a v t ld ob, E))) rfl trivial ?_
    refine z_Ev_ite (fun h2 => ?_) (fun h2 => ?_)
    · replace h2 := f_bZ h2
      refine z_Ev_blk 5 (c' := ((if (0 : Int32) = 0 then 62 else 66), [some (aR 0 32), some (aI x), some (aI g), some (aI l), some (aI e), some (aI w), some (aI (0 : Int32))], [aR 0 32], (C, dm s a v t ld ob, E))) rfl trivial ?_
      refine z_Ev_if (by decide) ?_
      refine z_Ev_blk 2 (c' := (83, [some (aR 0 32), some (aI x), some (aI g), some (aI l), some (aI e), some (aI w), some (aI (0 : Int32))], [aI (1 : Int32), aR 0 32], (C, dm s a v t ld ob, E))) rfl trivial ?_
      refine z_Ev_call0 (m' := m_X5_holds) (as := [aR 0 32, aI (1 : Int32)]) (r := []) ((by have q := m_holds (xs := xs) (L := L) (1 : Int32) C s a v t ld ob E; rw [f_b_f (by decide)] at q; exact q)) rfl rfl ?_
      refine z_Ev_blk 1 (c' := ((if (0 : Int32) = 0 then 89 else 91), [some (aR 0 32), some (aI x), some (aI g), some (aI l), some (aI e), some (aI w), some (aI (0 : Int32))], [], (C, dm s a v t ld (upd ob 0 (1 : Int32)), E))) rfl trivial ?_
      refine z_Ev_if (by decide) ?_
      refine z_Ev_blk 1 (c' := (90, [some (aR 0 32), some (aI x), some (aI g), some (aI l), some (aI e), some (aI w), some (aI (0 : Int32))], [aI (0 : Int32)], (C, dm s a v t ld (upd ob 0 (1 : Int32)), E))) rfl trivial ?_
      exact z_Ev_iretE rfl rfl (by rfl) (by rfl)
    · replace h2 := f_bQ h2
      refine z_Ev_blk 3 (c' := (22, [some (aR 0 32), some (aI x), some (aI g), some (aI l), some (aI e), some (aI w), none], [aI g, aI (0 : Int32), aI l], (C, dm s a v t ld ob, E))) rfl trivial ?_
      refine z_Ev_call0 (m' := m_X5_in) (as := [aI l, aI (0 : Int32), aI g]) (r := []) (e_in l (0 : Int32) g C (dm s a v t ld ob) E) rfl rfl ?_
      refine z_Ev_blk 1 (c' := ((if (f_b ((0 : Int32) ≤ l ∧ l ≤ g)) = 0 then 53 else 28), [some (aR 0 32), some (aI x), some (aI g), some (aI l), some (aI e), some (aI w), none], [], (C, dm s a v t ld ob, E))) rfl trivial ?_
      refine z_Ev_ite (fun h3 => ?_) (fun h3 => ?_)
      · replace h3 := f_bZ h3
        refine z_Ev_blk 5 (c' := ((if (0 : Int32) = 0 then 62 else 66), [some (aR 0 32), some (aI x), some (aI g), some (aI l), some (aI e), some (aI w), some (aI (0 : Int32))], [aR 0 32], (C, dm s a v t ld ob, E))) rfl trivial ?_
        refine z_Ev_if (by decide) ?_
        refine z_Ev_blk 2 (c' := (83, [some (aR 0 32), some (aI x), some (aI g), some (aI l), some (aI e), some (aI w), some (aI (0 : Int32))], [aI (1 : Int32), aR 0 32], (C, dm s a v t ld ob, E))) rfl trivial ?_
        refine z_Ev_call0 (m' := m_X5_holds) (as := [aR 0 32, aI (1 : Int32)]) (r := []) ((by have q := m_holds (xs := xs) (L := L) (1 : Int32) C s a v t ld ob E; rw [f_b_f (by decide)] at q; exact q)) rfl rfl ?_
        refine z_Ev_blk 1 (c' := ((if (0 : Int32) = 0 then 89 else 91), [some (aR 0 32), some (aI x), some (aI g), some (aI l), some (aI e), some (aI w), some (aI (0 : Int32))], [], (C, dm s a v t ld (upd ob 0 (1 : Int32)), E))) rfl trivial ?_
        refine z_Ev_if (by decide) ?_
        refine z_Ev_blk 1 (c' := (90, [some (aR 0 32), some (aI x), some (aI g), some (aI l), some (aI e), some (aI w), some (aI (0 : Int32))], [aI (0 : Int32)], (C, dm s a v t ld (upd ob 0 (1 : Int32)), E))) rfl trivial ?_
        exact z_Ev_iretE rfl rfl (by rfl) (by rfl)
      · replace h3 := f_bQ h3
        refine z_Ev_blk 3 (c' := (33, [some (aR 0 32), some (aI x), some (aI g), some (aI l), some (aI e), some (aI w), none], [aI (99 : Int32), aI (1 : Int32), aI e], (C, dm s a v t ld ob, E))) rfl trivial ?_
        refine z_Ev_call0 (m' := m_X5_in) (as := [aI e, aI (1 : Int32), aI (99 : Int32)]) (r := []) (e_in e (1 : Int32) (99 : Int32) C (dm s a v t ld ob) E) rfl rfl ?_
        refine z_Ev_blk 1 (c' := ((if (f_b ((1 : Int32) ≤ e ∧ e ≤ (99 : Int32))) = 0 then 53 else 39), [some (aR 0 32), some (aI x), some (aI g), some (aI l), some (aI e), some (aI w), none], [], (C, dm s a v t ld ob, E))) rfl trivial ?_
        refine z_Ev_ite (fun h4 => ?_) (fun h4 => ?_)
        · replace h4 := f_bZ h4
          refine z_Ev_blk 5 (c' := ((if (0 : Int32) = 0 then 62 else 66), [some (aR 0 32), some (aI x), some (aI g), some (aI l), some (aI e), some (aI w), some (aI (0 : Int32))], [aR 0 32], (C, dm s a v t ld ob, E))) rfl trivial ?_
          refine z_Ev_if (by decide) ?_
          refine z_Ev_blk 2 (c' := (83, [some (aR 0 32), some (aI x), some (aI g), some (aI l), some (aI e), some (aI w), some (aI (0 : Int32))], [aI (1 : Int32), aR 0 32], (C, dm s a v t ld ob, E))) rfl trivial ?_
          refine z_Ev_call0 (m' := m_X5_holds) (as := [aR 0 32, aI (1 : Int32)]) (r := []) ((by have q := m_holds (xs := xs) (L := L) (1 : Int32) C s a v t ld ob E; rw [f_b_f (by decide)] at q; exact q)) rfl rfl ?_
          refine z_Ev_blk 1 (c' := ((if (0 : Int32) = 0 then 89 else 91), [some (aR 0 32), some (aI x), some (aI g), some (aI l), some (aI e), some (aI w), some (aI (0 : Int32))], [], (C, dm s a v t ld (upd ob 0 (1 : Int32)), E))) rfl trivial ?_
          refine z_Ev_if (by decide) ?_
          refine z_Ev_blk 1 (c' := (90, [some (aR 0 32), some (aI x), some (aI g), some (aI l), some (aI e), some (aI w), some (aI (0 : Int32))], [aI (0 : Int32)], (C, dm s a v t ld (upd ob 0 (1 : Int32)), E))) rfl trivial ?_
          exact z_Ev_iretE rfl rfl (by rfl) (by rfl)
        · replace h4 := f_bQ h4
          refine z_Ev_blk 3 (c' := (43, [some (aR 0 32), some (aI x), some (aI g), some (aI l), some (aI e), some (aI w), none], [aI (4 : Int32), aI (0 : Int32), aI w], (C, dm s a v t ld ob, E))) rfl trivial ?_
          refine z_Ev_call0 (m' := m_X5_in) (as := [aI w, aI (0 : Int32), aI (4 : Int32)]) (r := []) (e_in w (0 : Int32) (4 : Int32) C (dm s a v t ld ob) E) rfl rfl ?_
          refine z_Ev_blk 1 (c' := ((if (f_b ((0 : Int32) ≤ w ∧ w ≤ (4 : Int32))) = 0 then 53 else 49), [some (aR 0 32), some (aI x), some (aI g), some (aI l), some (aI e), some (aI w), none], [], (C, dm s a v t ld ob, E))) rfl trivial ?_
          refine z_Ev_ite (fun h5 => ?_) (fun h5 => ?_)
          · replace h5 := f_bZ h5
            refine z_Ev_blk 5 (c' := ((if (0 : Int32) = 0 then 62 else 66), [some (aR 0 32), some (aI x), some (aI g), some (aI l), some (aI e), some (aI w), some (aI (0 : Int32))], [aR 0 32], (C, dm s a v t ld ob, E))) rfl trivial ?_
            refine z_Ev_if (by decide) ?_
            refine z_Ev_blk 2 (c' := (83, [some (aR 0 32), some (aI x), some (aI g), some (aI l), some (aI e), some (aI w), some (aI (0 : Int32))], [aI (1 : Int32), aR 0 32], (C, dm s a v t ld ob, E))) rfl trivial ?_
            refine z_Ev_call0 (m' := m_X5_holds) (as := [aR 0 32, aI (1 : Int32)]) (r := []) ((by have q := m_holds (xs := xs) (L := L) (1 : Int32) C s a v t ld ob E; rw [f_b_f (by decide)] at q; exact q)) rfl rfl ?_
            refine z_Ev_blk 1 (c' := ((if (0 : Int32) = 0 then 89 else 91), [some (aR 0 32), some (aI x), some (aI g), some (aI l), some (aI e), some (aI w), some (aI (0 : Int32))], [], (C, dm s a v t ld (upd ob 0 (1 : Int32)), E))) rfl trivial ?_
            refine z_Ev_if (by decide) ?_
            refine z_Ev_blk 1 (c' := (90, [some (aR 0 32), some (aI x), some (aI g), some (aI l), some (aI e), some (aI w), some (aI (0 : Int32))], [aI (0 : Int32)], (C, dm s a v t ld (upd ob 0 (1 : Int32)), E))) rfl trivial ?_
            exact z_Ev_iretE rfl rfl (by rfl) (by rfl)
          · replace h5 := f_bQ h5
            exact absurd ⟨h1, h2, h3, h4, h5⟩ hbad
theorem u_set_0 {xs : Nat → Int32} {L : Nat} (x : Int32) (C : Nat → Nat → Nat → Int32) (s a v t ld ob : Nat → Int32) (E : Nat → Int64) (hx : 0 ≤ x ∧ x ≤ 300) (m : Nat) (h4 : ob 4 = nI m) (hm : m ≤ 6)  : z_Mt xs L m_X5_set [aR 0 32, aI (0 : Int32), aI x] (C, dm s a v t ld ob, E) (.inl (some (aI (s 32)))) (C, dm (upd s 32 x) a (mvV v s m) t ld (upd (upd ob 0 0) 4 (nI (svm m + 1))), E) 0 := by
  refine z_Ev_blk 4 (c' := (4, [some (aR 0 32), some (aI (0 : Int32)), some (aI x)], [aI (1 : Int32), aI (0 : Int32), aI (0 : Int32), aR 0 32], (C, dm s a v t ld ob, E))) rfl trivial ?_
  refine z_Ev_call0 (m' := m_X5_in) (as := [aI (0 : Int32), aI (0 : Int32), aI (1 : Int32)]) (r := [aR 0 32]) ((by have q := e_in (xs := xs) (L := L) (0 : Int32) (0 : Int32) (1 : Int32) C (dm s a v t ld ob) E; rw [f_b_t (by decide)] at q; exact q)) rfl rfl ?_
  refine z_Ev_blk 1 (c' := ((if (1 : Int32) = 0 then 10 else 14), [some (aR 0 32), some (aI (0 : Int32)), some (aI x)], [aR 0 32], (C, dm s a v t ld ob, E))) rfl trivial ?_
  refine z_Ev_else (by decide) ?_
  refine z_Ev_blk 4 (c' := ((if (0 : Int32) = 0 then 20 else 26), [some (aR 0 32), some (aI (0 : Int32)), some (aI x)], [aI (0 : Int32), aI x, aR 0 32], (C, dm s a v t ld ob, E))) rfl trivial ?_
  refine z_Ev_if (by decide) ?_
  refine z_Ev_blk 2 (c' := (28, [some (aR 0 32), some (aI (0 : Int32)), some (aI x)], [aI (300 : Int32), aI (0 : Int32), aI x, aR 0 32], (C, dm s a v t ld ob, E))) rfl trivial ?_
  refine z_Ev_call0 (m' := m_X5_in) (as := [aI x, aI (0 : Int32), aI (300 : Int32)]) (r := [aR 0 32]) ((by have q := e_in (xs := xs) (L := L) x (0 : Int32) (300 : Int32) C (dm s a v t ld ob) E; rw [f_b_t (hx)] at q; exact q)) rfl rfl ?_
  refine z_Ev_blk 1 (c' := ((if (1 : Int32) = 0 then 34 else 38), [some (aR 0 32), some (aI (0 : Int32)), some (aI x)], [aR 0 32], (C, dm s a v t ld ob, E))) rfl trivial ?_
  refine z_Ev_else (by decide) ?_
  refine z_Ev_blk 1 (c' := (39, [some (aR 0 32), some (aI (0 : Int32)), some (aI x)], [aI (0 : Int32), aR 0 32], (C, dm s a v t ld ob, E))) rfl trivial ?_
  refine z_Ev_call0 (m' := m_X5_holds) (as := [aR 0 32, aI (0 : Int32)]) (r := []) ((by have q := m_holds (xs := xs) (L := L) (0 : Int32) C s a v t ld ob E; rw [f_b_t rfl] at q; exact q)) rfl rfl ?_
  refine z_Ev_blk 1 (c' := ((if (1 : Int32) = 0 then 45 else 47), [some (aR 0 32), some (aI (0 : Int32)), some (aI x)], [], (C, dm s a v t ld (upd ob 0 (0 : Int32)), E))) rfl trivial ?_
  refine z_Ev_else (by decide) ?_
  refine z_Ev_blk 1 (c' := (48, [some (aR 0 32), some (aI (0 : Int32)), some (aI x)], [aR 0 32], (C, dm s a v t ld (upd ob 0 (0 : Int32)), E))) rfl trivial ?_
  refine z_Ev_call0 (m' := m_X5_save) (as := [aR 0 32]) (r := []) (n_save m C s a v t ld (upd ob 0 (0 : Int32)) E h4 hm) rfl rfl ?_
  refine z_Ev_blk 5 (c' := (57, [some (aR 0 32), some (aI (0 : Int32)), some (aI x)], [aI x, aI (32 : Int32), aR 0 32], (C, dm s a (mvV v s m) t ld (upd (upd ob 0 (0 : Int32)) 4 (nI (svm m + 1))), E))) rfl trivial ?_
  refine z_Ev_call0 (m' := m_X5_puts) (as := [aR 0 32, aI (32 : Int32), aI x]) (r := []) (m_puts (32 : Int32) x C s a (mvV v s m) t ld (upd (upd ob 0 (0 : Int32)) 4 (nI (svm m + 1))) E rfl) rfl rfl ?_
  exact z_Ev_iretE rfl rfl (by rfl) (by rfl)
theorem u_setA_0 {xs : Nat → Int32} {L : Nat} (x : Int32) (C : Nat → Nat → Nat → Int32) (s a v t ld ob : Nat → Int32) (E : Nat → Int64) (hx : ¬ (0 ≤ x ∧ x ≤ 300))  : z_Mt xs L m_X5_set [aR 0 32, aI (0 : Int32), aI x] (C, dm s a v t ld ob, E) (.inl (some (aI 0))) (C, dm s a v t ld (upd ob 0 2), E) 0 := by
  refine z_Ev_blk 4 (c' := (4, [some (aR 0 32), some (aI (0 : Int32)), some (aI x)], [aI (1 : Int32), aI (0 : Int32), aI (0 : Int32), aR 0 32], (C, dm s a v t ld ob, E))) rfl trivial ?_
  refine z_Ev_call0 (m' := m_X5_in) (as := [aI (0 : Int32), aI (0 : Int32), aI (1 : Int32)]) (r := [aR 0 32]) ((by have q := e_in (xs := xs) (L := L) (0 : Int32) (0 : Int32) (1 : Int32) C (dm s a v t ld ob) E; rw [f_b_t (by decide)] at q; exact q)) rfl rfl ?_
  refine z_Ev_blk 1 (c' := ((if (1 : Int32) = 0 then 10 else 14), [some (aR 0 32), some (aI (0 : Int32)), some (aI x)], [aR 0 32], (C, dm s a v t ld ob, E))) rfl trivial ?_
  refine z_Ev_else (by decide) ?_
  refine z_Ev_blk 4 (c' := ((if (0 : Int32) = 0 then 20 else 26), [some (aR 0 32), some (aI (0 : Int32)), some (aI x)], [aI (0 : Int32), aI x, aR 0 32], (C, dm s a v t ld ob, E))) rfl trivial ?_
  refine z_Ev_if (by decide) ?_
  refine z_Ev_blk 2 (c' := (28, [some (aR 0 32), some (aI (0 : Int32)), some (aI x)], [aI (300 : Int32), aI (0 : Int32), aI x, aR 0 32], (C, dm s a v t ld ob, E))) rfl trivial ?_
  refine z_Ev_call0 (m' := m_X5_in) (as := [aI x, aI (0 : Int32), aI (300 : Int32)]) (r := [aR 0 32]) ((by have q := e_in (xs := xs) (L := L) x (0 : Int32) (300 : Int32) C (dm s a v t ld ob) E; rw [f_b_f (hx)] at q; exact q)) rfl rfl ?_
  refine z_Ev_blk 1 (c' := ((if (0 : Int32) = 0 then 34 else 38), [some (aR 0 32), some (aI (0 : Int32)), some (aI x)], [aR 0 32], (C, dm s a v t ld ob, E))) rfl trivial ?_
  refine z_Ev_if (by decide) ?_
  refine z_Ev_blk 2 (c' := (39, [some (aR 0 32), some (aI (0 : Int32)), some (aI x)], [aI (2 : Int32), aR 0 32], (C, dm s a v t ld ob, E))) rfl trivial ?_
  refine z_Ev_call0 (m' := m_X5_holds) (as := [aR 0 32, aI (2 : Int32)]) (r := []) ((by have q := m_holds (xs := xs) (L := L) (2 : Int32) C s a v t ld ob E; rw [f_b_f (by decide)] at q; exact q)) rfl rfl ?_
  refine z_Ev_blk 1 (c' := ((if (0 : Int32) = 0 then 45 else 47), [some (aR 0 32), some (aI (0 : Int32)), some (aI x)], [], (C, dm s a v t ld (upd ob 0 (2 : Int32)), E))) rfl trivial ?_
  refine z_Ev_if (by decide) ?_
  refine z_Ev_blk 1 (c' := (46, [some (aR 0 32), some (aI (0 : Int32)), some (aI x)], [aI (0 : Int32)], (C, dm s a v t ld (upd ob 0 (2 : Int32)), E))) rfl trivial ?_
  exact z_Ev_iretE rfl rfl (by rfl) (by rfl)
theorem u_setting_0 {xs : Nat → Int32} {L : Nat}  (C : Nat → Nat → Nat → Int32) (s a v t ld ob : Nat → Int32) (E : Nat → Int64)  : z_Mt xs L m_X5_setting [aR 0 32, aI (0 : Int32)] (C, dm s a v t ld ob, E) (.inl (some (aI (s 32)))) (C, dm s a v t ld (upd ob 0 0), E) 0 := by
  refine z_Ev_blk 4 (c' := (4, [some (aR 0 32), some (aI (0 : Int32))], [aI (1 : Int32), aI (0 : Int32), aI (0 : Int32), aR 0 32], (C, dm s a v t ld ob, E))) rfl trivial ?_
  refine z_Ev_call0 (m' := m_X5_in) (as := [aI (0 : Int32), aI (0 : Int32), aI (1 : Int32)]) (r := [aR 0 32]) ((by have q := e_in (xs := xs) (L := L) (0 : Int32) (0 : Int32) (1 : Int32) C (dm s a v t ld ob) E; rw [f_b_t (by decide)] at q; exact q)) rfl rfl ?_
  refine z_Ev_blk 1 (c' := ((if (1 : Int32) = 0 then 14 else 10), [some (aR 0 32), some (aI (0 : Int32))], [aR 0 32], (C, dm s a v t ld ob, E))) rfl trivial ?_
  refine z_Ev_else (by decide) ?_
  refine z_Ev_blk 2 (c' := (15, [some (aR 0 32), some (aI (0 : Int32))], [aI (0 : Int32), aR 0 32], (C, dm s a v t ld ob, E))) rfl trivial ?_
  refine z_Ev_call0 (m' := m_X5_holds) (as := [aR 0 32, aI (0 : Int32)]) (r := []) ((by have q := m_holds (xs := xs) (L := L) (0 : Int32) C s a v t ld ob E; rw [f_b_t rfl] at q; exact q)) rfl rfl ?_
  refine z_Ev_blk 1 (c' := ((if (1 : Int32) = 0 then 33 else 21), [some (aR 0 32), some (aI (0 : Int32))], [], (C, dm s a v t ld (upd ob 0 (0 : Int32)), E))) rfl trivial ?_
  refine z_Ev_else (by decide) ?_
  refine z_Ev_blk 7 (c' := (34, [some (aR 0 32), some (aI (0 : Int32))], [aI (s 32)], (C, dm s a v t ld (upd ob 0 (0 : Int32)), E))) rfl ⟨rfl, trivial⟩ ?_
  exact z_Ev_iretE rfl rfl (by rfl) (by rfl)
theorem u_set_1 {xs : Nat → Int32} {L : Nat} (x : Int32) (C : Nat → Nat → Nat → Int32) (s a v t ld ob : Nat → Int32) (E : Nat → Int64) (hx : 0 ≤ x ∧ x ≤ 48) (m : Nat) (h4 : ob 4 = nI m) (hm : m ≤ 6)  : z_Mt xs L m_X5_set [aR 0 32, aI (1 : Int32), aI x] (C, dm s a v t ld ob, E) (.inl (some (aI (s 33)))) (C, dm (upd s 33 x) a (mvV v s m) t ld (upd (upd ob 0 0) 4 (nI (svm m + 1))), E) 0 := by
  refine z_Ev_blk 4 (c' := (4, [some (aR 0 32), some (aI (1 : Int32)), some (aI x)], [aI (1 : Int32), aI (0 : Int32), aI (1 : Int32), aR 0 32], (C, dm s a v t ld ob, E))) rfl trivial ?_
  refine z_Ev_call0 (m' := m_X5_in) (as := [aI (1 : Int32), aI (0 : Int32), aI (1 : Int32)]) (r := [aR 0 32]) ((by have q := e_in (xs := xs) (L := L) (1 : Int32) (0 : Int32) (1 : Int32) C (dm s a v t ld ob) E; rw [f_b_t (by decide)] at q; exact q)) rfl rfl ?_
  refine z_Ev_blk 1 (c' := ((if (1 : Int32) = 0 then 10 else 14), [some (aR 0 32), some (aI (1 : Int32)), some (aI x)], [aR 0 32], (C, dm s a v t ld ob, E))) rfl trivial ?_
  refine z_Ev_else (by decide) ?_
  refine z_Ev_blk 4 (c' := ((if (1 : Int32) = 0 then 20 else 26), [some (aR 0 32), some (aI (1 : Int32)), some (aI x)], [aI (0 : Int32), aI x, aR 0 32], (C, dm s a v t ld ob, E))) rfl trivial ?_
  refine z_Ev_else (by decide) ?_
  refine z_Ev_blk 1 (c' := (28, [some (aR 0 32), some (aI (1 : Int32)), some (aI x)], [aI (48 : Int32), aI (0 : Int32), aI x, aR 0 32], (C, dm s a v t ld ob, E))) rfl trivial ?_
  refine z_Ev_call0 (m' := m_X5_in) (as := [aI x, aI (0 : Int32), aI (48 : Int32)]) (r := [aR 0 32]) ((by have q := e_in (xs := xs) (L := L) x (0 : Int32) (48 : Int32) C (dm s a v t ld ob) E; rw [f_b_t (hx)] at q; exact q)) rfl rfl ?_
  refine z_Ev_blk 1 (c' := ((if (1 : Int32) = 0 then 34 else 38), [some (aR 0 32), some (aI (1 : Int32)), some (aI x)], [aR 0 32], (C, dm s a v t ld ob, E))) rfl trivial ?_
  refine z_Ev_else (by decide) ?_
  refine z_Ev_blk 1 (c' := (39, [some (aR 0 32), some (aI (1 : Int32)), some (aI x)], [aI (0 : Int32), aR 0 32], (C, dm s a v t ld ob, E))) rfl trivial ?_
  refine z_Ev_call0 (m' := m_X5_holds) (as := [aR 0 32, aI (0 : Int32)]) (r := []) ((by have q := m_holds (xs := xs) (L := L) (0 : Int32) C s a v t ld ob E; rw [f_b_t rfl] at q; exact q)) rfl rfl ?_
  refine z_Ev_blk 1 (c' := ((if (1 : Int32) = 0 then 45 else 47), [some (aR 0 32), some (aI (1 : Int32)), some (aI x)], [], (C, dm s a v t ld (upd ob 0 (0 : Int32)), E))) rfl trivial ?_
  refine z_Ev_else (by decide) ?_
  refine z_Ev_blk 1 (c' := (48, [some (aR 0 32), some (aI (1 : Int32)), some (aI x)], [aR 0 32], (C, dm s a v t ld (upd ob 0 (0 : Int32)), E))) rfl trivial ?_
  refine z_Ev_call0 (m' := m_X5_save) (as := [aR 0 32]) (r := []) (n_save m C s a v t ld (upd ob 0 (0 : Int32)) E h4 hm) rfl rfl ?_
  refine z_Ev_blk 5 (c' := (57, [some (aR 0 32), some (aI (1 : Int32)), some (aI x)], [aI x, aI (33 : Int32), aR 0 32], (C, dm s a (mvV v s m) t ld (upd (upd ob 0 (0 : Int32)) 4 (nI (svm m + 1))), E))) rfl trivial ?_
  refine z_Ev_call0 (m' := m_X5_puts) (as := [aR 0 32, aI (33 : Int32), aI x]) (r := []) (m_puts (33 : Int32) x C s a (mvV v s m) t ld (upd (upd ob 0 (0 : Int32)) 4 (nI (svm m + 1))) E rfl) rfl rfl ?_
  exact z_Ev_iretE rfl rfl (by rfl) (by rfl)
theorem u_setA_1 {xs : Nat → Int32} {L : Nat} (x : Int32) (C : Nat → Nat → Nat → Int32) (s a v t ld ob : Nat → Int32) (E : Nat → Int64) (hx : ¬ (0 ≤ x ∧ x ≤ 48))  : z_Mt xs L m_X5_set [aR 0 32, aI (1 : Int32), aI x] (C, dm s a v t ld ob, E) (.inl (some (aI 0))) (C, dm s a v t ld (upd ob 0 2), E) 0 := by
  refine z_Ev_blk 4 (c' := (4, [some (aR 0 32), some (aI (1 : Int32)), some (aI x)], [aI (1 : Int32), aI (0 : Int32), aI (1 : Int32), aR 0 32], (C, dm s a v t ld ob, E))) rfl trivial ?_
  refine z_Ev_call0 (m' := m_X5_in) (as := [aI (1 : Int32), aI (0 : Int32), aI (1 : Int32)]) (r := [aR 0 32]) ((by have q := e_in (xs := xs) (L := L) (1 : Int32) (0 : Int32) (1 : Int32) C (dm s a v t ld ob) E; rw [f_b_t (by decide)] at q; exact q)) rfl rfl ?_
  refine z_Ev_blk 1 (c' := ((if (1 : Int32) = 0 then 10 else 14), [some (aR 0 32), some (aI (1 : Int32)), some (aI x)], [aR 0 32], (C, dm s a v t ld ob, E))) rfl trivial ?_
  refine z_Ev_else (by decide) ?_
  refine z_Ev_blk 4 (c' := ((if (1 : Int32) = 0 then 20 else 26), [some (aR 0 32), some (aI (1 : Int32)), some (aI x)], [aI (0 : Int32), aI x, aR 0 32], (C, dm s a v t ld ob, E))) rfl trivial ?_
  refine z_Ev_else (by decide) ?_
  refine z_Ev_blk 1 (c' := (28, [some (aR 0 32), some (aI (1 : Int32)), some (aI x)], [aI (48 : Int32), aI (0 : Int32), aI x, aR 0 32], (C, dm s a v t ld ob, E))) rfl trivial ?_
  refine z_Ev_call0 (m' := m_X5_in) (as := [aI x, aI (0 : Int32), aI (48 : Int32)]) (r := [aR 0 32]) ((by have q := e_in (xs := xs) (L := L) x (0 : Int32) (48 : Int32) C (dm s a v t ld ob) E; rw [f_b_f (hx)] at q; exact q)) rfl rfl ?_
  refine z_Ev_blk 1 (c' := ((if (0 : Int32) = 0 then 34 else 38), [some (aR 0 32), some (aI (1 : Int32)), some (aI x)], [aR 0 32], (C, dm s a v t ld ob, E))) rfl trivial ?_
  refine z_Ev_if (by decide) ?_
  refine z_Ev_blk 2 (c' := (39, [some (aR 0 32), some (aI (1 : Int32)), some (aI x)], [aI (2 : Int32), aR 0 32], (C, dm s a v t ld ob, E))) rfl trivial ?_
  refine z_Ev_call0 (m' := m_X5_holds) (as := [aR 0 32, aI (2 : Int32)]) (r := []) ((by have q := m_holds (xs := xs) (L := L) (2 : Int32) C s a v t ld ob E; rw [f_b_f (by decide)] at q; exact q)) rfl rfl ?_
  refine z_Ev_blk 1 (c' := ((if (0 : Int32) = 0 then 45 else 47), [some (aR 0 32), some (aI (1 : Int32)), some (aI x)], [], (C, dm s a v t ld (upd ob 0 (2 : Int32)), E))) rfl trivial ?_
  refine z_Ev_if (by decide) ?_
  refine z_Ev_blk 1 (c' := (46, [some (aR 0 32), some (aI (1 : Int32)), some (aI x)], [aI (0 : Int32)], (C, dm s a v t ld (upd ob 0 (2 : Int32)), E))) rfl trivial ?_
  exact z_Ev_iretE rfl rfl (by rfl) (by rfl)
theorem u_setting_1 {xs : Nat → Int32} {L : Nat}  (C : Nat → Nat → Nat → Int32) (s a v t ld ob : Nat → Int32) (E : Nat → Int64)  : z_Mt xs L m_X5_setting [aR 0 32, aI (1 : Int32)] (C, dm s a v t ld ob, E) (.inl (some (aI (s 33)))) (C, dm s a v t ld (upd ob 0 0), E) 0 := by
  refine z_Ev_blk 4 (c' := (4, [some (aR 0 32), some (aI (1 : Int32))], [aI (1 : Int32), aI (0 : Int32), aI (1 : Int32), aR 0 32], (C, dm s a v t ld ob, E))) rfl trivial ?_
  refine z_Ev_call0 (m' := m_X5_in) (as := [aI (1 : Int32), aI (0 : Int32), aI (1 : Int32)]) (r := [aR 0 32]) ((by have q := e_in (xs := xs) (L := L) (1 : Int32) (0 : Int32) (1 : Int32) C (dm s a v t ld ob) E; rw [f_b_t (by decide)] at q; exact q)) rfl rfl ?_
  refine z_Ev_blk 1 (c' := ((if (1 : Int32) = 0 then 14 else 10), [some (aR 0 32), some (aI (1 : Int32))], [aR 0 32], (C, dm s a v t ld ob, E))) rfl trivial ?_
  refine z_Ev_else (by decide) ?_
  refine z_Ev_blk 2 (c' := (15, [some (aR 0 32), some (aI (1 : Int32))], [aI (0 : Int32), aR 0 32], (C, dm s a v t ld ob, E))) rfl trivial ?_
  refine z_Ev_call0 (m' := m_X5_holds) (as := [aR 0 32, aI (0 : Int32)]) (r := []) ((by have q := m_holds (xs := xs) (L := L) (0 : Int32) C s a v t ld ob E; rw [f_b_t rfl] at q; exact q)) rfl rfl ?_
  refine z_Ev_blk 1 (c' := ((if (1 : Int32) = 0 then 33 else 21), [some (aR 0 32), some (aI (1 : Int32))], [], (C, dm s a v t ld (upd ob 0 (0 : Int32)), E))) rfl trivial ?_
  refine z_Ev_else (by decide) ?_
  refine z_Ev_blk 7 (c' := (34, [some (aR 0 32), some (aI (1 : Int32))], [aI (s 33)], (C, dm s a v t ld (upd ob 0 (0 : Int32)), E))) rfl ⟨rfl, trivial⟩ ?_
  exact z_Ev_iretE rfl rfl (by rfl) (by rfl)
theorem u_setX {xs : Nat → Int32} {L : Nat} (x y : Int32) (C : Nat → Nat → Nat → Int32) (s a v t ld ob : Nat → Int32) (E : Nat → Int64) (hbad : ¬ (0 ≤ x ∧ x ≤ 1)) : z_Mt xs L m_X5_set [aR 0 32, aI x, aI y] (C, dm s a v t ld ob, E) (.inl (some (aI 0))) (C, dm s a v t ld (upd ob 0 1), E) 0 := by
  refine z_Ev_blk 4 (c' := (4, [some (aR 0 32), some (aI x), some (aI y)], [aI (1 : Int32), aI (0 : Int32), aI x, aR 0 32], (C, dm s a v t ld ob, E))) rfl trivial ?_
  refine z_Ev_call0 (m' := m_X5_in) (as := [aI x, aI (0 : Int32), aI (1 : Int32)]) (r := [aR 0 32]) ((by have q := e_in (xs := xs) (L := L) x (0 : Int32) (1 : Int32) C (dm s a v t ld ob) E; rw [f_b_f (hbad)] at q; exact q)) rfl rfl ?_
  refine z_Ev_blk 1 (c' := ((if (0 : Int32) = 0 then 10 else 14), [some (aR 0 32), some (aI x), some (aI y)], [aR 0 32], (C, dm s a v t ld ob, E))) rfl trivial ?_
  refine z_Ev_if (by decide) ?_
  refine z_Ev_blk 2 (c' := (39, [some (aR 0 32), some (aI x), some (aI y)], [aI (1 : Int32), aR 0 32], (C, dm s a v t ld ob, E))) rfl trivial ?_
  refine z_Ev_call0 (m' := m_X5_holds) (as := [aR 0 32, aI (1 : Int32)]) (r := []) ((by have q := m_holds (xs := xs) (L := L) (1 : Int32) C s a v t ld ob E; rw [f_b_f (by decide)] at q; exact q)) rfl rfl ?_
  refine z_Ev_blk 1 (c' := ((if (0 : Int32) = 0 then 45 else 47), [some (aR 0 32), some (aI x), some (aI y)], [], (C, dm s a v t ld (upd ob 0 (1 : Int32)), E))) rfl trivial ?_
  refine z_Ev_if (by decide) ?_
  refine z_Ev_blk 1 (c' := (46, [some (aR 0 32), some (aI x), some (aI y)], [aI (0 : Int32)], (C, dm s a v t ld (upd ob 0 (1 : Int32)), E))) rfl trivial ?_
  exact z_Ev_iretE rfl rfl (by rfl) (by rfl)
theorem u_settingX {xs : Nat → Int32} {L : Nat} (x : Int32) (C : Nat → Nat → Nat → Int32) (s a v t ld ob : Nat → Int32) (E : Nat → Int64) (hbad : ¬ (0 ≤ x ∧ x ≤ 1)) : z_Mt xs L m_X5_setting [aR 0 32, aI x] (C, dm s a v t ld ob, E) (.inl (some (aI 0))) (C, dm s a v t ld (upd ob 0 1), E) 0 := by
  refine z_Ev_blk 4 (c' := (4, [some (aR 0 32), some (aI x)], [aI (1 : Int32), aI (0 : Int32), aI x, aR 0 32], (C, dm s a v t ld ob, E))) rfl trivial ?_
  refine z_Ev_call0 (m' := m_X5_in) (as := [aI x, aI (0 : Int32), aI (1 : Int32)]) (r := [aR 0 32]) ((by have q := e_in (xs := xs) (L := L) x (0 : Int32) (1 : Int32) C (dm s a v t ld ob) E; rw [f_b_f (hbad)] at q; exact q)) rfl rfl ?_
  refine z_Ev_blk 1 (c' := ((if (0 : Int32) = 0 then 14 else 10), [some (aR 0 32), some (aI x)], [aR 0 32], (C, dm s a v t ld ob, E))) rfl trivial ?_
  refine z_Ev_if (by decide) ?_
  refine z_Ev_blk 1 (c' := (15, [some (aR 0 32), some (aI x)], [aI (1 : Int32), aR 0 32], (C, dm s a v t ld ob, E))) rfl trivial ?_
  refine z_Ev_call0 (m' := m_X5_holds) (as := [aR 0 32, aI (1 : Int32)]) (r := []) ((by have q := m_holds (xs := xs) (L := L) (1 : Int32) C s a v t ld ob E; rw [f_b_f (by decide)] at q; exact q)) rfl rfl ?_
  refine z_Ev_blk 1 (c' := ((if (0 : Int32) = 0 then 33 else 21), [some (aR 0 32), some (aI x)], [], (C, dm s a v t ld (upd ob 0 (1 : Int32)), E))) rfl trivial ?_
  refine z_Ev_if (by decide) ?_
  refine z_Ev_blk 1 (c' := (34, [some (aR 0 32), some (aI x)], [aI (0 : Int32)], (C, dm s a v t ld (upd ob 0 (1 : Int32)), E))) rfl trivial ?_
  exact z_Ev_iretE rfl rfl (by rfl) (by rfl)
theorem u_append {xs : Nat → Int32} {L : Nat} (c : Nat) (x : Int32) (C : Nat → Nat → Nat → Int32) (s a v t ld ob : Nat → Int32) (E : Nat → Int64) (h6 : ob 6 = nI c) (hc : c < 60) (hx : 33 ≤ x ∧ x ≤ 126) : z_Mt xs L m_X5_append [aR 0 32, aI x] (C, dm s a v t ld ob, E) (.inl (some (aI (nI (c + 1))))) (C, dm s a v (upd t c x) ld (upd (upd ob 0 0) 6 (nI (c + 1))), E) 0 := by
  refine z_Ev_blk 4 (c' := (6, [some (aR 0 32), some (aI x)], [aI (126 : Int32), aI (33 : Int32), aI x, aR 0 32], (C, dm s a v t ld ob, E))) rfl trivial ?_
  refine z_Ev_call0 (m' := m_X5_in) (as := [aI x, aI (33 : Int32), aI (126 : Int32)]) (r := [aR 0 32]) ((by have q := e_in (xs := xs) (L := L) x (33 : Int32) (126 : Int32) C (dm s a v t ld ob) E; rw [f_b_t (hx)] at q; exact q)) rfl rfl ?_
  refine z_Ev_blk 1 (c' := ((if (1 : Int32) = 0 then 12 else 16), [some (aR 0 32), some (aI x)], [aR 0 32], (C, dm s a v t ld ob, E))) rfl trivial ?_
  refine z_Ev_else (by decide) ?_
  refine z_Ev_blk 2 (c' := (20, [some (aR 0 32), some (aI x)], [aI (ob 6), aR 0 32], (C, dm s a v t ld ob, E))) rfl trivial ?_
  rw [h6]
  refine z_Ev_blk 2 (c' := ((if (nI c) = (60 : Int32) then 25 else 29), [some (aR 0 32), some (aI x)], [aR 0 32], (C, dm s a v t ld ob, E))) rfl trivial ?_
  refine z_Ev_else (fun z => absurd ((nI_eq (by omega) (by decide)).mp (z.trans (show (60 : Int32) = nI 60 from rfl))) (by omega)) ?_
  refine z_Ev_blk 1 (c' := (30, [some (aR 0 32), some (aI x)], [aI (0 : Int32), aR 0 32], (C, dm s a v t ld ob, E))) rfl trivial ?_
  refine z_Ev_call0 (m' := m_X5_holds) (as := [aR 0 32, aI (0 : Int32)]) (r := []) ((by have q := m_holds (xs := xs) (L := L) (0 : Int32) C s a v t ld ob E; rw [f_b_t rfl] at q; exact q)) rfl rfl ?_
  refine z_Ev_blk 1 (c' := ((if (1 : Int32) = 0 then 36 else 38), [some (aR 0 32), some (aI x)], [], (C, dm s a v t ld (upd ob 0 (0 : Int32)), E))) rfl trivial ?_
  refine z_Ev_else (by decide) ?_
  refine z_Ev_blk 4 (c' := (46, [some (aR 0 32), some (aI x)], [aI (ob 6), aR 0 36], (C, dm s a v t ld (upd ob 0 (0 : Int32)), E))) rfl trivial ?_
  rw [h6]
  refine z_Ev_blk 2 (c' := (48, [some (aR 0 32), some (aI x)], [], (C, up2 (dm s a v t ld (upd ob 0 (0 : Int32))) 36 ((nI c).toNatClampNeg) x, E))) rfl ⟨(inb_nI (show c < 60 from hc) (by decide)), trivial⟩ ?_
  rw [dm_36]
  refine z_Ev_blk 3 (c' := (53, [some (aR 0 32), some (aI x)], [aI (ob 6), aR 0 32], (C, dm s a v (upd t ((nI c).toNatClampNeg) x) ld (upd ob 0 (0 : Int32)), E))) rfl trivial ?_
  rw [h6]
  refine z_Ev_blk 3 (c' := (58, [some (aR 0 32), some (aI x)], [], (C, up2 (dm s a v (upd t ((nI c).toNatClampNeg) x) ld (upd ob 0 (0 : Int32))) 32 6 ((nI c) + (1 : Int32)), E))) rfl trivial ?_
  rw [dm_32]
  refine z_Ev_blk 2 (c' := (62, [some (aR 0 32), some (aI x)], [aI ((nI c) + (1 : Int32))], (C, dm s a v (upd t ((nI c).toNatClampNeg) x) ld (upd (upd ob 0 (0 : Int32)) 6 ((nI c) + (1 : Int32))), E))) rfl trivial ?_
  exact z_Ev_iretE rfl rfl (by first | rfl | exact nI_1 _) (by first | rfl | (rw [nI_clamp (show c < 2 ^ 31 by omega), nI_1]; done) | (rw [nI_clamp (show c < 2 ^ 31 by omega)]; done) | (rw [nI_1]; done))
theorem u_appendS {xs : Nat → Int32} {L : Nat} (x : Int32) (C : Nat → Nat → Nat → Int32) (s a v t ld ob : Nat → Int32) (E : Nat → Int64) (h6 : ob 6 = 60) (hx : 33 ≤ x ∧ x ≤ 126) : z_Mt xs L m_X5_append [aR 0 32, aI x] (C, dm s a v t ld ob, E) (.inl (some (aI 0))) (C, dm s a v t ld (upd ob 0 2), E) 0 := by
  refine z_Ev_blk 4 (c' := (6, [some (aR 0 32), some (aI x)], [aI (126 : Int32), aI (33 : Int32), aI x, aR 0 32], (C, dm s a v t ld ob, E))) rfl trivial ?_
  refine z_Ev_call0 (m' := m_X5_in) (as := [aI x, aI (33 : Int32), aI (126 : Int32)]) (r := [aR 0 32]) ((by have q := e_in (xs := xs) (L := L) x (33 : Int32) (126 : Int32) C (dm s a v t ld ob) E; rw [f_b_t (hx)] at q; exact q)) rfl rfl ?_
  refine z_Ev_blk 1 (c' := ((if (1 : Int32) = 0 then 12 else 16), [some (aR 0 32), some (aI x)], [aR 0 32], (C, dm s a v t ld ob, E))) rfl trivial ?_
  refine z_Ev_else (by decide) ?_
  refine z_Ev_blk 4 (c' := ((if (ob 6) = (60 : Int32) then 25 else 29), [some (aR 0 32), some (aI x)], [aR 0 32], (C, dm s a v t ld ob, E))) rfl trivial ?_
  refine z_Ev_if (h6) ?_
  refine z_Ev_blk 2 (c' := (30, [some (aR 0 32), some (aI x)], [aI (2 : Int32), aR 0 32], (C, dm s a v t ld ob, E))) rfl trivial ?_
  refine z_Ev_call0 (m' := m_X5_holds) (as := [aR 0 32, aI (2 : Int32)]) (r := []) ((by have q := m_holds (xs := xs) (L := L) (2 : Int32) C s a v t ld ob E; rw [f_b_f (by decide)] at q; exact q)) rfl rfl ?_
  refine z_Ev_blk 1 (c' := ((if (0 : Int32) = 0 then 36 else 38), [some (aR 0 32), some (aI x)], [], (C, dm s a v t ld (upd ob 0 (2 : Int32)), E))) rfl trivial ?_
  refine z_Ev_if (by decide) ?_
  refine z_Ev_blk 1 (c' := (37, [some (aR 0 32), some (aI x)], [aI (0 : Int32)], (C, dm s a v t ld (upd ob 0 (2 : Int32)), E))) rfl trivial ?_
  exact z_Ev_iretE rfl rfl (by rfl) (by rfl)
theorem u_appendA {xs : Nat → Int32} {L : Nat} (x : Int32) (C : Nat → Nat → Nat → Int32) (s a v t ld ob : Nat → Int32) (E : Nat → Int64) (hx : ¬ (33 ≤ x ∧ x ≤ 126)) : z_Mt xs L m_X5_append [aR 0 32, aI x] (C, dm s a v t ld ob, E) (.inl (some (aI 0))) (C, dm s a v t ld (upd ob 0 1), E) 0 := by
  refine z_Ev_blk 4 (c' := (6, [some (aR 0 32), some (aI x)], [aI (126 : Int32), aI (33 : Int32), aI x, aR 0 32], (C, dm s a v t ld ob, E))) rfl trivial ?_
  refine z_Ev_call0 (m' := m_X5_in) (as := [aI x, aI (33 : Int32), aI (126 : Int32)]) (r := [aR 0 32]) ((by have q := e_in (xs := xs) (L := L) x (33 : Int32) (126 : Int32) C (dm s a v t ld ob) E; rw [f_b_f (hx)] at q; exact q)) rfl rfl ?_
  refine z_Ev_blk 1 (c' := ((if (0 : Int32) = 0 then 12 else 16), [some (aR 0 32), some (aI x)], [aR 0 32], (C, dm s a v t ld ob, E))) rfl trivial ?_
  refine z_Ev_if (by decide) ?_
  refine z_Ev_blk 2 (c' := (30, [some (aR 0 32), some (aI x)], [aI (1 : Int32), aR 0 32], (C, dm s a v t ld ob, E))) rfl trivial ?_
  refine z_Ev_call0 (m' := m_X5_holds) (as := [aR 0 32, aI (1 : Int32)]) (r := []) ((by have q := m_holds (xs := xs) (L := L) (1 : Int32) C s a v t ld ob E; rw [f_b_f (by decide)] at q; exact q)) rfl rfl ?_
  refine z_Ev_blk 1 (c' := ((if (0 : Int32) = 0 then 36 else 38), [some (aR 0 32), some (aI x)], [], (C, dm s a v t ld (upd ob 0 (1 : Int32)), E))) rfl trivial ?_
  refine z_Ev_if (by decide) ?_
  refine z_Ev_blk 1 (c' := (37, [some (aR 0 32), some (aI x)], [aI (0 : Int32)], (C, dm s a v t ld (upd ob 0 (1 : Int32)), E))) rfl trivial ?_
  exact z_Ev_iretE rfl rfl (by rfl) (by rfl)
theorem u_clear {xs : Nat → Int32} {L : Nat}  (C : Nat → Nat → Nat → Int32) (s a v t ld ob : Nat → Int32) (E : Nat → Int64)  : z_Mt xs L m_X5_clearBuffer [aR 0 32] (C, dm s a v t ld ob, E) (.inl (some (aI (ob 6)))) (C, dm s a v t ld (upd (upd ob 0 0) 6 0), E) 0 := by
  refine z_Ev_blk 3 (c' := (5, [some (aR 0 32), none], [], (C, up2 (dm s a v t ld ob) 32 0 (0 : Int32), E))) rfl trivial ?_
  rw [dm_32]
  refine z_Ev_blk 6 (c' := (15, [some (aR 0 32), some (aI (ob 6))], [], (C, up2 (dm s a v t ld (upd ob 0 (0 : Int32))) 32 6 (0 : Int32), E))) rfl trivial ?_
  rw [dm_32]
  refine z_Ev_blk 1 (c' := (16, [some (aR 0 32), some (aI (ob 6))], [aI (ob 6)], (C, dm s a v t ld (upd (upd ob 0 (0 : Int32)) 6 (0 : Int32)), E))) rfl trivial ?_
  exact z_Ev_iretE rfl rfl (by rfl) (by rfl)
theorem u_err_w {xs : Nat → Int32} {L : Nat} (OB : Nat → Int32) (C : Nat → Nat → Nat → Int32) (s a v t ld ob : Nat → Int32) (E : Nat → Int64) (hG : z_Mt xs L m_X5_go [aR 0 32, aI 0] (C, dm s a v t ld (upd ob 0 0), E) (.inl (some (aI (0 : Int32)))) (C, dm s a v t ld OB, E) 0) (h14 : OB 14 = 1) : z_Mt xs L m_X5_firstError [aR 0 32] (C, dm s a v t ld ob, E) (.inl (some (aI (OB 13)))) (C, dm s a v t ld OB, E) 0 := by
  refine z_Ev_blk 3 (c' := (5, [some (aR 0 32), none], [], (C, up2 (dm s a v t ld ob) 32 0 (0 : Int32), E))) rfl trivial ?_
  rw [dm_32]
  refine z_Ev_blk 2 (c' := (7, [some (aR 0 32), none], [aI (0 : Int32), aR 0 32], (C, dm s a v t ld (upd ob 0 (0 : Int32)), E))) rfl trivial ?_
  refine z_Ev_call0 (m' := m_X5_go) (as := [aR 0 32, aI (0 : Int32)]) (r := []) (hG) rfl rfl ?_
  refine z_Ev_blk 3 (c' := (15, [some (aR 0 32), some (aI (0 : Int32))], [aI (OB 14)], (C, dm s a v t ld OB, E))) rfl trivial ?_
  rw [h14]
  refine z_Ev_blk 1 (c' := ((if (1 : Int32) = 0 then 25 else 18), [some (aR 0 32), some (aI (0 : Int32))], [], (C, dm s a v t ld OB, E))) rfl trivial ?_
  refine z_Ev_else (by decide) ?_
  refine z_Ev_blk 3 (c' := (29, [some (aR 0 32), some (aI (0 : Int32))], [aI (OB 13)], (C, dm s a v t ld OB, E))) rfl trivial ?_
  exact z_Ev_iretE rfl rfl (by rfl) (by rfl)
theorem u_err_n {xs : Nat → Int32} {L : Nat} (OB : Nat → Int32) (C : Nat → Nat → Nat → Int32) (s a v t ld ob : Nat → Int32) (E : Nat → Int64) (hG : z_Mt xs L m_X5_go [aR 0 32, aI 0] (C, dm s a v t ld (upd ob 0 0), E) (.inl (some (aI (0 : Int32)))) (C, dm s a v t ld OB, E) 0) (h14 : OB 14 = 0) : z_Mt xs L m_X5_firstError [aR 0 32] (C, dm s a v t ld ob, E) (.inl (some (aI (OB 6)))) (C, dm s a v t ld OB, E) 0 := by
  refine z_Ev_blk 3 (c' := (5, [some (aR 0 32), none], [], (C, up2 (dm s a v t ld ob) 32 0 (0 : Int32), E))) rfl trivial ?_
  rw [dm_32]
  refine z_Ev_blk 2 (c' := (7, [some (aR 0 32), none], [aI (0 : Int32), aR 0 32], (C, dm s a v t ld (upd ob 0 (0 : Int32)), E))) rfl trivial ?_
  refine z_Ev_call0 (m' := m_X5_go) (as := [aR 0 32, aI (0 : Int32)]) (r := []) (hG) rfl rfl ?_
  refine z_Ev_blk 3 (c' := (15, [some (aR 0 32), some (aI (0 : Int32))], [aI (OB 14)], (C, dm s a v t ld OB, E))) rfl trivial ?_
  rw [h14]
  refine z_Ev_blk 1 (c' := ((if (0 : Int32) = 0 then 25 else 18), [some (aR 0 32), some (aI (0 : Int32))], [], (C, dm s a v t ld OB, E))) rfl trivial ?_
  refine z_Ev_if (by decide) ?_
  refine z_Ev_blk 2 (c' := (29, [some (aR 0 32), some (aI (0 : Int32))], [aI (OB 6)], (C, dm s a v t ld OB, E))) rfl trivial ?_
  exact z_Ev_iretE rfl rfl (by rfl) (by rfl)
theorem u_runA {xs : Nat → Int32} {L : Nat} (OB : Nat → Int32) (C : Nat → Nat → Nat → Int32) (s a v t ld ob : Nat → Int32) (E : Nat → Int64) (hG : z_Mt xs L m_X5_go [aR 0 32, aI 0] (C, dm s a v t ld ob, E) (.inl (some (aI (0 : Int32)))) (C, dm s a v t ld OB, E) 0) (h14 : OB 14 = 1) : z_Mt xs L m_X5_run [aR 0 32] (C, dm s a v t ld ob, E) (.inl (some (aI 0))) (C, dm s a v t ld (upd OB 0 1), E) 0 := by
  refine z_Ev_blk 2 (c' := (2, [some (aR 0 32), none, none], [aI (0 : Int32), aR 0 32], (C, dm s a v t ld ob, E))) rfl trivial ?_
  refine z_Ev_call0 (m' := m_X5_go) (as := [aR 0 32, aI (0 : Int32)]) (r := []) (hG) rfl rfl ?_
  refine z_Ev_blk 4 (c' := (11, [some (aR 0 32), some (aI (0 : Int32)), none], [aI (OB 14), aR 0 32], (C, dm s a v t ld OB, E))) rfl trivial ?_
  rw [h14]
  refine z_Ev_blk 1 (c' := ((if (1 : Int32) = 0 then 18 else 14), [some (aR 0 32), some (aI (0 : Int32)), none], [aR 0 32], (C, dm s a v t ld OB, E))) rfl trivial ?_
  refine z_Ev_else (by decide) ?_
  refine z_Ev_blk 2 (c' := (19, [some (aR 0 32), some (aI (0 : Int32)), none], [aI (1 : Int32), aR 0 32], (C, dm s a v t ld OB, E))) rfl trivial ?_
  refine z_Ev_call0 (m' := m_X5_holds) (as := [aR 0 32, aI (1 : Int32)]) (r := []) ((by have q := m_holds (xs := xs) (L := L) (1 : Int32) C s a v t ld OB E; rw [f_b_f (by decide)] at q; exact q)) rfl rfl ?_
  refine z_Ev_blk 1 (c' := ((if (0 : Int32) = 0 then 25 else 27), [some (aR 0 32), some (aI (0 : Int32)), none], [], (C, dm s a v t ld (upd OB 0 (1 : Int32)), E))) rfl trivial ?_
  refine z_Ev_if (by decide) ?_
  refine z_Ev_blk 1 (c' := (26, [some (aR 0 32), some (aI (0 : Int32)), none], [aI (0 : Int32)], (C, dm s a v t ld (upd OB 0 (1 : Int32)), E))) rfl trivial ?_
  exact z_Ev_iretE rfl rfl (by rfl) (by rfl)
theorem u_run {xs : Nat → Int32} {L : Nat} (m : Nat) (y : Int32) (OB Z LD OB2 : Nat → Int32) (C : Nat → Nat → Nat → Int32) (s a v t ld ob : Nat → Int32) (E : Nat → Int64) (hG : z_Mt xs L m_X5_go [aR 0 32, aI 0] (C, dm s a v t ld ob, E) (.inl (some (aI (0 : Int32)))) (C, dm s a v t ld OB, E) 0) (h14 : OB 14 = 0) (h4 : OB 4 = nI m) (hm : m ≤ 6) (hG2 : z_Mt xs L m_X5_go [aR 0 32, aI 1] (C, dm s a (mvV v s m) t ld (upd (upd OB 0 0) 4 (nI (svm m + 1))), E) (.inl (some (aI y))) (C, dm Z a (mvV v s m) t LD OB2, E) 0)  : z_Mt xs L m_X5_run [aR 0 32] (C, dm s a v t ld ob, E) (.inl (some (aI y))) (C, dm Z a (mvV v s m) t LD (upd OB2 6 0), E) 0 := by
  refine z_Ev_blk 2 (c' := (2, [some (aR 0 32), none, none], [aI (0 : Int32), aR 0 32], (C, dm s a v t ld ob, E))) rfl trivial ?_
  refine z_Ev_call0 (m' := m_X5_go) (as := [aR 0 32, aI (0 : Int32)]) (r := []) (hG) rfl rfl ?_
  refine z_Ev_blk 4 (c' := (11, [some (aR 0 32), some (aI (0 : Int32)), none], [aI (OB 14), aR 0 32], (C, dm s a v t ld OB, E))) rfl trivial ?_
  rw [h14]
  refine z_Ev_blk 1 (c' := ((if (0 : Int32) = 0 then 18 else 14), [some (aR 0 32), some (aI (0 : Int32)), none], [aR 0 32], (C, dm s a v t ld OB, E))) rfl trivial ?_
  refine z_Ev_if (by decide) ?_
  refine z_Ev_blk 1 (c' := (19, [some (aR 0 32), some (aI (0 : Int32)), none], [aI (0 : Int32), aR 0 32], (C, dm s a v t ld OB, E))) rfl trivial ?_
  refine z_Ev_call0 (m' := m_X5_holds) (as := [aR 0 32, aI (0 : Int32)]) (r := []) ((by have q := m_holds (xs := xs) (L := L) (0 : Int32) C s a v t ld OB E; rw [f_b_t rfl] at q; exact q)) rfl rfl ?_
  refine z_Ev_blk 1 (c' := ((if (1 : Int32) = 0 then 25 else 27), [some (aR 0 32), some (aI (0 : Int32)), none], [], (C, dm s a v t ld (upd OB 0 (0 : Int32)), E))) rfl trivial ?_
  refine z_Ev_else (by decide) ?_
  refine z_Ev_blk 1 (c' := (28, [some (aR 0 32), some (aI (0 : Int32)), none], [aR 0 32], (C, dm s a v t ld (upd OB 0 (0 : Int32)), E))) rfl trivial ?_
  refine z_Ev_call0 (m' := m_X5_save) (as := [aR 0 32]) (r := []) (n_save m C s a v t ld (upd OB 0 (0 : Int32)) E h4 hm) rfl rfl ?_
  refine z_Ev_blk 2 (c' := (33, [some (aR 0 32), some (aI (0 : Int32)), none], [aI (1 : Int32), aR 0 32], (C, dm s a (mvV v s m) t ld (upd (upd OB 0 (0 : Int32)) 4 (nI (svm m + 1))), E))) rfl trivial ?_
  refine z_Ev_call0 (m' := m_X5_go) (as := [aR 0 32, aI (1 : Int32)]) (r := []) (hG2) rfl rfl ?_
  refine z_Ev_blk 4 (c' := (42, [some (aR 0 32), some (aI (0 : Int32)), some (aI y)], [], (C, up2 (dm Z a (mvV v s m) t LD OB2) 32 6 (0 : Int32), E))) rfl trivial ?_
  rw [dm_32]
  refine z_Ev_blk 1 (c' := (43, [some (aR 0 32), some (aI (0 : Int32)), some (aI y)], [aI y], (C, dm Z a (mvV v s m) t LD (upd OB2 6 (0 : Int32)), E))) rfl trivial ?_
  exact z_Ev_iretE rfl rfl (by rfl) (by rfl)
def gu (s v : Nat → Int32) (b i : Nat) : Nat → Int32 := fun j => if j < i then v (b + j) else s j
theorem gu_s {s v : Nat → Int32} {b i : Nat} : upd (gu s v b i) i (v (b + i)) = gu s v b (i + 1) := by
  funext j
  simp only [upd, gu]
  by_cases h : j = i
  · subst h; rw [if_pos rfl, if_pos (by omega)]
  · rw [if_neg h]
    by_cases h2 : j < i
    · rw [if_pos h2, if_pos (by omega)]
    · rw [if_neg h2, if_neg (by omega)]
theorem gu_0 {s v : Nat → Int32} {b : Nat} : gu s v b 0 = s := by
  funext j
  unfold gu
  rw [if_neg (by omega)]
theorem un_1 {xs : Nat → Int32} {L : Nat} {o : z_Rs} {M' : Mem} {kk : Nat} (m i : Nat) (C : Nat → Nat → Nat → Int32) (s a v t ld ob : Nat → Int32) (E : Nat → Int64) (h4 : ob 4 = nI m) (hm : m < 6) (hi : i < 376) (K : z_Ev xs L m_X5_undo (33, [some (aR 0 32), some (aI (nI (i + 1)))], [], (C, dm (gu s v (376 * m) (i + 1)) a v t ld ob, E)) o M' kk) : z_Ev xs L m_X5_undo (33, [some (aR 0 32), some (aI (nI i))], [], (C, dm (gu s v (376 * m) i) a v t ld ob, E)) o M' kk := by
  refine z_Ev_blk 3 (c' := ((if (376 : Int32) ≤ (nI i) then 67 else 40), [some (aR 0 32), some (aI (nI i))], [], (C, dm (gu s v (376 * m) i) a v t ld ob, E))) rfl trivial ?_
  refine z_Ev_else (nI_ge (b := 376) hi (by decide)) ?_
  refine z_Ev_blk 8 (c' := (56, [some (aR 0 32), some (aI (nI i))], [aI (ob 4), aI (376 : Int32), aR 0 35, aI (nI i), aR 0 33], (C, dm (gu s v (376 * m) i) a v t ld ob, E))) rfl trivial ?_
  rw [h4]
  refine z_Ev_blk 5 (c' := (61, [some (aR 0 32), some (aI (nI i))], [], (C, up2 (dm (gu s v (376 * m) i) a v t ld ob) 33 ((nI i).toNatClampNeg) (v ((((376 : Int32) * (nI m)) + (nI i)).toNatClampNeg)), E))) rfl ⟨((ix2 hm hi).1), (inb_nI (show i < 376 by omega) (by decide)), trivial⟩ ?_
  rw [dm_33]
  refine z_Ev_blk 2 (c' := (33, [some (aR 0 32), some (aI ((nI i) + (1 : Int32)))], [], (C, dm (upd (gu s v (376 * m) i) ((nI i).toNatClampNeg) (v ((((376 : Int32) * (nI m)) + (nI i)).toNatClampNeg))) a v t ld ob, E))) rfl trivial ?_
  refine z_Ev_fgt [true, true] ?_
  exact z_Ev_eq (c := (33, [some (aR 0 32), some (aI ((nI i) + (1 : Int32)))], [], (C, dm (upd (gu s v (376 * m) i) ((nI i).toNatClampNeg) (v ((((376 : Int32) * (nI m)) + (nI i)).toNatClampNeg))) a v t ld ob, E))) (c' := (33, [some (aR 0 32), some (aI (nI (i + 1)))], [], (C, dm (gu s v (376 * m) (i + 1)) a v t ld ob, E))) (by rw [nI_1, nI_clamp (show i < 2 ^ 31 by omega), (ix2 hm hi).2, gu_s]) K
theorem un_all {xs : Nat → Int32} {L : Nat} (m : Nat) (C : Nat → Nat → Nat → Int32) (s a v t ld ob : Nat → Int32) (E : Nat → Int64) (h4 : ob 4 = nI m) (hm : m < 6) : ∀ (d i : Nat), i + d = 376 → z_Ev xs L m_X5_undo (33, [some (aR 0 32), some (aI (nI i))], [], (C, dm (gu s v (376 * m) i) a v t ld ob, E)) (.inl (some (aI (nI m)))) (C, dm (gu s v (376 * m) 376) a v t ld ob, E) 0 := by
  intro d
  induction d with
  | zero =>
    intro i h
    have e : i = 376 := by omega
    subst e
    refine z_Ev_blk 3 (c' := ((if (376 : Int32) ≤ nI 376 then 67 else 40), [some (aR 0 32), some (aI (nI 376))], [], (C, dm (gu s v (376 * m) 376) a v t ld ob, E))) rfl trivial ?_
    refine z_Ev_if (by decide) ?_
    refine z_Ev_blk 2 (c' := (71, [some (aR 0 32), some (aI (nI 376))], [aI (ob 4)], (C, dm (gu s v (376 * m) 376) a v t ld ob, E))) rfl trivial ?_
    exact z_Ev_iretE rfl rfl h4 rfl
  | succ d ih =>
    intro i h
    exact un_1 m i C s a v t ld ob E h4 hm (by omega) (ih (i + 1) (by omega))
theorem u_undo {xs : Nat → Int32} {L : Nat} (m : Nat) (C : Nat → Nat → Nat → Int32) (s a v t ld ob : Nat → Int32) (E : Nat → Int64) (h4 : ob 4 = nI (m + 1)) (hm : m < 6) : z_Mt xs L m_X5_undo [aR 0 32] (C, dm s a v t ld ob, E) (.inl (some (aI (nI m)))) (C, dm (gu s v (376 * m) 376) a v t ld (upd (upd ob 0 0) 4 (nI m)), E) 0 := by
  refine z_Ev_blk 4 (c' := ((if (ob 4) ≤ 0 then 12 else 8), [some (aR 0 32), none], [aR 0 32], (C, dm s a v t ld ob, E))) rfl trivial ?_
  refine z_Ev_else (by rw [h4]; exact nI_nle (by omega) (by omega)) ?_
  refine z_Ev_blk 2 (c' := (13, [some (aR 0 32), none], [aI (0 : Int32), aR 0 32], (C, dm s a v t ld ob, E))) rfl trivial ?_
  refine z_Ev_call0 (m' := m_X5_holds) (as := [aR 0 32, aI (0 : Int32)]) (r := []) ((by have q := m_holds (xs := xs) (L := L) (0 : Int32) C s a v t ld ob E; rw [f_b_t rfl] at q; exact q)) rfl rfl ?_
  refine z_Ev_blk 1 (c' := ((if (1 : Int32) = 0 then 19 else 21), [some (aR 0 32), none], [], (C, dm s a v t ld (upd ob 0 (0 : Int32)), E))) rfl trivial ?_
  refine z_Ev_else (by decide) ?_
  refine z_Ev_blk 6 (c' := (31, [some (aR 0 32), none], [], (C, up2 (dm s a v t ld (upd ob 0 (0 : Int32))) 32 4 ((ob 4) - (1 : Int32)), E))) rfl trivial ?_
  rw [dm_32]
  refine z_Ev_blk 2 (c' := (33, [some (aR 0 32), some (aI (0 : Int32))], [], (C, dm s a v t ld (upd (upd ob 0 (0 : Int32)) 4 ((ob 4) - (1 : Int32))), E))) rfl trivial ?_
  rw [show ob 4 - 1 = nI m from by rw [h4]; exact nI_pred m]
  have Q := un_all (xs := xs) (L := L) m C s a v t ld (upd (upd ob 0 0) 4 (nI m)) E rfl hm 376 0 rfl
  rw [gu_0] at Q
  exact Q
theorem u_undoA {xs : Nat → Int32} {L : Nat}  (C : Nat → Nat → Nat → Int32) (s a v t ld ob : Nat → Int32) (E : Nat → Int64) (h4 : ob 4 = 0) : z_Mt xs L m_X5_undo [aR 0 32] (C, dm s a v t ld ob, E) (.inl (some (aI 0))) (C, dm s a v t ld (upd ob 0 1), E) 0 := by
  refine z_Ev_blk 4 (c' := ((if (ob 4) ≤ 0 then 12 else 8), [some (aR 0 32), none], [aR 0 32], (C, dm s a v t ld ob, E))) rfl trivial ?_
  refine z_Ev_if (by rw [h4]; exact Int32.le_refl _) ?_
  refine z_Ev_blk 1 (c' := (13, [some (aR 0 32), none], [aI (1 : Int32), aR 0 32], (C, dm s a v t ld ob, E))) rfl trivial ?_
  refine z_Ev_call0 (m' := m_X5_holds) (as := [aR 0 32, aI (1 : Int32)]) (r := []) ((by have q := m_holds (xs := xs) (L := L) (1 : Int32) C s a v t ld ob E; rw [f_b_f (by decide)] at q; exact q)) rfl rfl ?_
  refine z_Ev_blk 1 (c' := ((if (0 : Int32) = 0 then 19 else 21), [some (aR 0 32), none], [], (C, dm s a v t ld (upd ob 0 (1 : Int32)), E))) rfl trivial ?_
  refine z_Ev_if (by decide) ?_
  refine z_Ev_blk 1 (c' := (20, [some (aR 0 32), none], [aI (0 : Int32)], (C, dm s a v t ld (upd ob 0 (1 : Int32)), E))) rfl trivial ?_
  exact z_Ev_iretE rfl rfl (by rfl) (by rfl)
theorem u_setOf {xs : Nat → Int32} {L : Nat} (x : Int32) (y : Int32) (V : Int32) (A1 LD OB : Nat → Int32) (C : Nat → Nat → Nat → Int32) (s a v t ld ob : Nat → Int32) (E : Nat → Int64) (hx : 0 ≤ x ∧ x ≤ 3) (hy : 0 ≤ y ∧ y ≤ 8) (hC : z_Mt xs L m_X5_toldOf [aR 0 32, aI x, aI y] (C, dm s a v t ld (upd ob 0 0), E) (.inl (some (aI V))) (C, dm s A1 v t LD OB, E) 0) : z_Mt xs L m_X5_setOf [aR 0 32, aI x, aI y] (C, dm s a v t ld ob, E) (.inl (some (aI V))) (C, dm s A1 v t LD OB, E) 0 := by
  refine z_Ev_blk 2 (c' := (2, [some (aR 0 32), some (aI x), some (aI y)], [aI x, aR 0 32], (C, dm s a v t ld ob, E))) rfl trivial ?_
  refine z_Ev_call0 (m' := m_X5_isSet) (as := [aI x]) (r := [aR 0 32]) ((by have q := e_mSet (xs := xs) (L := L) x C (dm s a v t ld ob) E; rw [f_b_t (hx)] at q; exact q)) rfl rfl ?_
  refine z_Ev_blk 1 (c' := ((if (1 : Int32) = 0 then 22 else 8), [some (aR 0 32), some (aI x), some (aI y)], [aR 0 32], (C, dm s a v t ld ob, E))) rfl trivial ?_
  refine z_Ev_else (by decide) ?_
  refine z_Ev_blk 3 (c' := (12, [some (aR 0 32), some (aI x), some (aI y)], [aI (8 : Int32), aI (0 : Int32), aI y, aR 0 32], (C, dm s a v t ld ob, E))) rfl trivial ?_
  refine z_Ev_call0 (m' := m_X5_in) (as := [aI y, aI (0 : Int32), aI (8 : Int32)]) (r := [aR 0 32]) ((by have q := e_in (xs := xs) (L := L) y (0 : Int32) (8 : Int32) C (dm s a v t ld ob) E; rw [f_b_t (hy)] at q; exact q)) rfl rfl ?_
  refine z_Ev_blk 1 (c' := ((if (1 : Int32) = 0 then 22 else 18), [some (aR 0 32), some (aI x), some (aI y)], [aR 0 32], (C, dm s a v t ld ob, E))) rfl trivial ?_
  refine z_Ev_else (by decide) ?_
  refine z_Ev_blk 2 (c' := (23, [some (aR 0 32), some (aI x), some (aI y)], [aI (0 : Int32), aR 0 32], (C, dm s a v t ld ob, E))) rfl trivial ?_
  refine z_Ev_call0 (m' := m_X5_holds) (as := [aR 0 32, aI (0 : Int32)]) (r := []) ((by have q := m_holds (xs := xs) (L := L) (0 : Int32) C s a v t ld ob E; rw [f_b_t rfl] at q; exact q)) rfl rfl ?_
  refine z_Ev_blk 1 (c' := ((if (1 : Int32) = 0 then 38 else 29), [some (aR 0 32), some (aI x), some (aI y)], [], (C, dm s a v t ld (upd ob 0 (0 : Int32)), E))) rfl trivial ?_
  refine z_Ev_else (by decide) ?_
  refine z_Ev_blk 3 (c' := (32, [some (aR 0 32), some (aI x), some (aI y)], [aI y, aI x, aR 0 32], (C, dm s a v t ld (upd ob 0 (0 : Int32)), E))) rfl trivial ?_
  refine z_Ev_call0 (m' := m_X5_toldOf) (as := [aR 0 32, aI x, aI y]) (r := []) (hC) rfl rfl ?_
  refine z_Ev_blk 1 (c' := (39, [some (aR 0 32), some (aI x), some (aI y)], [aI V], (C, dm s A1 v t LD OB, E))) rfl trivial ?_
  exact z_Ev_iretE rfl rfl (by rfl) (by rfl)
theorem u_hour {xs : Nat → Int32} {L : Nat} (x : Int32) (y : Int32) (V : Int32) (A1 LD OB : Nat → Int32) (C : Nat → Nat → Nat → Int32) (s a v t ld ob : Nat → Int32) (E : Nat → Int64) (hx : 0 ≤ x ∧ x ≤ 47) (hy : 0 ≤ y ∧ y ≤ 6) (hC : z_Mt xs L m_X5_toldOfHour [aR 0 32, aI x, aI y] (C, dm s a v t ld (upd ob 0 0), E) (.inl (some (aI V))) (C, dm s A1 v t LD OB, E) 0) : z_Mt xs L m_X5_hour [aR 0 32, aI x, aI y] (C, dm s a v t ld ob, E) (.inl (some (aI V))) (C, dm s A1 v t LD OB, E) 0 := by
  refine z_Ev_blk 4 (c' := (5, [some (aR 0 32), some (aI x), some (aI y)], [aI (47 : Int32), aI (0 : Int32), aI x, aR 0 32], (C, dm s a v t ld ob, E))) rfl trivial ?_
  refine z_Ev_call0 (m' := m_X5_in) (as := [aI x, aI (0 : Int32), aI (47 : Int32)]) (r := [aR 0 32]) ((by have q := e_in (xs := xs) (L := L) x (0 : Int32) (47 : Int32) C (dm s a v t ld ob) E; rw [f_b_t (hx)] at q; exact q)) rfl rfl ?_
  refine z_Ev_blk 1 (c' := ((if (1 : Int32) = 0 then 25 else 11), [some (aR 0 32), some (aI x), some (aI y)], [aR 0 32], (C, dm s a v t ld ob, E))) rfl trivial ?_
  refine z_Ev_else (by decide) ?_
  refine z_Ev_blk 3 (c' := (15, [some (aR 0 32), some (aI x), some (aI y)], [aI (6 : Int32), aI (0 : Int32), aI y, aR 0 32], (C, dm s a v t ld ob, E))) rfl trivial ?_
  refine z_Ev_call0 (m' := m_X5_in) (as := [aI y, aI (0 : Int32), aI (6 : Int32)]) (r := [aR 0 32]) ((by have q := e_in (xs := xs) (L := L) y (0 : Int32) (6 : Int32) C (dm s a v t ld ob) E; rw [f_b_t (hy)] at q; exact q)) rfl rfl ?_
  refine z_Ev_blk 1 (c' := ((if (1 : Int32) = 0 then 25 else 21), [some (aR 0 32), some (aI x), some (aI y)], [aR 0 32], (C, dm s a v t ld ob, E))) rfl trivial ?_
  refine z_Ev_else (by decide) ?_
  refine z_Ev_blk 2 (c' := (26, [some (aR 0 32), some (aI x), some (aI y)], [aI (0 : Int32), aR 0 32], (C, dm s a v t ld ob, E))) rfl trivial ?_
  refine z_Ev_call0 (m' := m_X5_holds) (as := [aR 0 32, aI (0 : Int32)]) (r := []) ((by have q := m_holds (xs := xs) (L := L) (0 : Int32) C s a v t ld ob E; rw [f_b_t rfl] at q; exact q)) rfl rfl ?_
  refine z_Ev_blk 1 (c' := ((if (1 : Int32) = 0 then 41 else 32), [some (aR 0 32), some (aI x), some (aI y)], [], (C, dm s a v t ld (upd ob 0 (0 : Int32)), E))) rfl trivial ?_
  refine z_Ev_else (by decide) ?_
  refine z_Ev_blk 3 (c' := (35, [some (aR 0 32), some (aI x), some (aI y)], [aI y, aI x, aR 0 32], (C, dm s a v t ld (upd ob 0 (0 : Int32)), E))) rfl trivial ?_
  refine z_Ev_call0 (m' := m_X5_toldOfHour) (as := [aR 0 32, aI x, aI y]) (r := []) (hC) rfl rfl ?_
  refine z_Ev_blk 1 (c' := (42, [some (aR 0 32), some (aI x), some (aI y)], [aI V], (C, dm s A1 v t LD OB, E))) rfl trivial ?_
  exact z_Ev_iretE rfl rfl (by rfl) (by rfl)
theorem u_count {xs : Nat → Int32} {L : Nat} (x : Int32) (V : Int32) (A1 LD OB : Nat → Int32) (C : Nat → Nat → Nat → Int32) (s a v t ld ob : Nat → Int32) (E : Nat → Int64) (hx : 0 ≤ x ∧ x ≤ 14) (hC : z_Mt xs L m_X5_counted [aR 0 32, aI x] (C, dm s a v t ld (upd ob 0 0), E) (.inl (some (aI V))) (C, dm s A1 v t LD OB, E) 0) : z_Mt xs L m_X5_count [aR 0 32, aI x] (C, dm s a v t ld ob, E) (.inl (some (aI V))) (C, dm s A1 v t LD OB, E) 0 := by
  refine z_Ev_blk 4 (c' := (5, [some (aR 0 32), some (aI x)], [aI (14 : Int32), aI (0 : Int32), aI x, aR 0 32], (C, dm s a v t ld ob, E))) rfl trivial ?_
  refine z_Ev_call0 (m' := m_X5_in) (as := [aI x, aI (0 : Int32), aI (14 : Int32)]) (r := [aR 0 32]) ((by have q := e_in (xs := xs) (L := L) x (0 : Int32) (14 : Int32) C (dm s a v t ld ob) E; rw [f_b_t (hx)] at q; exact q)) rfl rfl ?_
  refine z_Ev_blk 1 (c' := ((if (1 : Int32) = 0 then 15 else 11), [some (aR 0 32), some (aI x)], [aR 0 32], (C, dm s a v t ld ob, E))) rfl trivial ?_
  refine z_Ev_else (by decide) ?_
  refine z_Ev_blk 2 (c' := (16, [some (aR 0 32), some (aI x)], [aI (0 : Int32), aR 0 32], (C, dm s a v t ld ob, E))) rfl trivial ?_
  refine z_Ev_call0 (m' := m_X5_holds) (as := [aR 0 32, aI (0 : Int32)]) (r := []) ((by have q := m_holds (xs := xs) (L := L) (0 : Int32) C s a v t ld ob E; rw [f_b_t rfl] at q; exact q)) rfl rfl ?_
  refine z_Ev_blk 1 (c' := ((if (1 : Int32) = 0 then 30 else 22), [some (aR 0 32), some (aI x)], [], (C, dm s a v t ld (upd ob 0 (0 : Int32)), E))) rfl trivial ?_
  refine z_Ev_else (by decide) ?_
  refine z_Ev_blk 2 (c' := (24, [some (aR 0 32), some (aI x)], [aI x, aR 0 32], (C, dm s a v t ld (upd ob 0 (0 : Int32)), E))) rfl trivial ?_
  refine z_Ev_call0 (m' := m_X5_counted) (as := [aR 0 32, aI x]) (r := []) (hC) rfl rfl ?_
  refine z_Ev_blk 1 (c' := (31, [some (aR 0 32), some (aI x)], [aI V], (C, dm s A1 v t LD OB, E))) rfl trivial ?_
  exact z_Ev_iretE rfl rfl (by rfl) (by rfl)
theorem u_ifLost {xs : Nat → Int32} {L : Nat} (x : Int32) (V : Int32) (A1 LD OB : Nat → Int32) (C : Nat → Nat → Nat → Int32) (s a v t ld ob : Nat → Int32) (E : Nat → Int64) (hx : 0 ≤ x ∧ x ≤ 3) (hC : z_Mt xs L m_X5_darkWithout [aR 0 32, aI x] (C, dm s a v t ld (upd ob 0 0), E) (.inl (some (aI V))) (C, dm s A1 v t LD OB, E) 0) : z_Mt xs L m_X5_ifLost [aR 0 32, aI x] (C, dm s a v t ld ob, E) (.inl (some (aI V))) (C, dm s A1 v t LD OB, E) 0 := by
  refine z_Ev_blk 2 (c' := (2, [some (aR 0 32), some (aI x)], [aI x, aR 0 32], (C, dm s a v t ld ob, E))) rfl trivial ?_
  refine z_Ev_call0 (m' := m_X5_isSet) (as := [aI x]) (r := [aR 0 32]) ((by have q := e_mSet (xs := xs) (L := L) x C (dm s a v t ld ob) E; rw [f_b_t (hx)] at q; exact q)) rfl rfl ?_
  refine z_Ev_blk 1 (c' := ((if (1 : Int32) = 0 then 12 else 8), [some (aR 0 32), some (aI x)], [aR 0 32], (C, dm s a v t ld ob, E))) rfl trivial ?_
  refine z_Ev_else (by decide) ?_
  refine z_Ev_blk 2 (c' := (13, [some (aR 0 32), some (aI x)], [aI (0 : Int32), aR 0 32], (C, dm s a v t ld ob, E))) rfl trivial ?_
  refine z_Ev_call0 (m' := m_X5_holds) (as := [aR 0 32, aI (0 : Int32)]) (r := []) ((by have q := m_holds (xs := xs) (L := L) (0 : Int32) C s a v t ld ob E; rw [f_b_t rfl] at q; exact q)) rfl rfl ?_
  refine z_Ev_blk 1 (c' := ((if (1 : Int32) = 0 then 27 else 19), [some (aR 0 32), some (aI x)], [], (C, dm s a v t ld (upd ob 0 (0 : Int32)), E))) rfl trivial ?_
  refine z_Ev_else (by decide) ?_
  refine z_Ev_blk 2 (c' := (21, [some (aR 0 32), some (aI x)], [aI x, aR 0 32], (C, dm s a v t ld (upd ob 0 (0 : Int32)), E))) rfl trivial ?_
  refine z_Ev_call0 (m' := m_X5_darkWithout) (as := [aR 0 32, aI x]) (r := []) (hC) rfl rfl ?_
  refine z_Ev_blk 1 (c' := (28, [some (aR 0 32), some (aI x)], [aI V], (C, dm s A1 v t LD OB, E))) rfl trivial ?_
  exact z_Ev_iretE rfl rfl (by rfl) (by rfl)
theorem u_cheapest {xs : Nat → Int32} {L : Nat} (x : Int32) (y : Int32) (V : Int32) (A1 LD OB : Nat → Int32) (C : Nat → Nat → Nat → Int32) (s a v t ld ob : Nat → Int32) (E : Nat → Int64) (hx : 0 ≤ x ∧ x ≤ 47) (hy : 0 ≤ y ∧ y ≤ 1) (hC : z_Mt xs L m_X5_best [aR 0 32, aI x, aI y] (C, dm s a v t ld (upd ob 0 0), E) (.inl (some (aI V))) (C, dm s A1 v t LD OB, E) 0) : z_Mt xs L m_X5_cheapest [aR 0 32, aI x, aI y] (C, dm s a v t ld ob, E) (.inl (some (aI V))) (C, dm s A1 v t LD OB, E) 0 := by
  refine z_Ev_blk 4 (c' := (5, [some (aR 0 32), some (aI x), some (aI y)], [aI (47 : Int32), aI (0 : Int32), aI x, aR 0 32], (C, dm s a v t ld ob, E))) rfl trivial ?_
  refine z_Ev_call0 (m' := m_X5_in) (as := [aI x, aI (0 : Int32), aI (47 : Int32)]) (r := [aR 0 32]) ((by have q := e_in (xs := xs) (L := L) x (0 : Int32) (47 : Int32) C (dm s a v t ld ob) E; rw [f_b_t (hx)] at q; exact q)) rfl rfl ?_
  refine z_Ev_blk 1 (c' := ((if (1 : Int32) = 0 then 24 else 11), [some (aR 0 32), some (aI x), some (aI y)], [aR 0 32], (C, dm s a v t ld ob, E))) rfl trivial ?_
  refine z_Ev_else (by decide) ?_
  refine z_Ev_blk 3 (c' := (14, [some (aR 0 32), some (aI x), some (aI y)], [aI (1 : Int32), aI (0 : Int32), aI y, aR 0 32], (C, dm s a v t ld ob, E))) rfl trivial ?_
  refine z_Ev_call0 (m' := m_X5_in) (as := [aI y, aI (0 : Int32), aI (1 : Int32)]) (r := [aR 0 32]) ((by have q := e_in (xs := xs) (L := L) y (0 : Int32) (1 : Int32) C (dm s a v t ld ob) E; rw [f_b_t (hy)] at q; exact q)) rfl rfl ?_
  refine z_Ev_blk 1 (c' := ((if (1 : Int32) = 0 then 24 else 20), [some (aR 0 32), some (aI x), some (aI y)], [aR 0 32], (C, dm s a v t ld ob, E))) rfl trivial ?_
  refine z_Ev_else (by decide) ?_
  refine z_Ev_blk 2 (c' := (25, [some (aR 0 32), some (aI x), some (aI y)], [aI (0 : Int32), aR 0 32], (C, dm s a v t ld ob, E))) rfl trivial ?_
  refine z_Ev_call0 (m' := m_X5_holds) (as := [aR 0 32, aI (0 : Int32)]) (r := []) ((by have q := m_holds (xs := xs) (L := L) (0 : Int32) C s a v t ld ob E; rw [f_b_t rfl] at q; exact q)) rfl rfl ?_
  refine z_Ev_blk 1 (c' := ((if (1 : Int32) = 0 then 40 else 31), [some (aR 0 32), some (aI x), some (aI y)], [], (C, dm s a v t ld (upd ob 0 (0 : Int32)), E))) rfl trivial ?_
  refine z_Ev_else (by decide) ?_
  refine z_Ev_blk 3 (c' := (34, [some (aR 0 32), some (aI x), some (aI y)], [aI y, aI x, aR 0 32], (C, dm s a v t ld (upd ob 0 (0 : Int32)), E))) rfl trivial ?_
  refine z_Ev_call0 (m' := m_X5_best) (as := [aR 0 32, aI x, aI y]) (r := []) (hC) rfl rfl ?_
  refine z_Ev_blk 1 (c' := (41, [some (aR 0 32), some (aI x), some (aI y)], [aI V], (C, dm s A1 v t LD OB, E))) rfl trivial ?_
  exact z_Ev_iretE rfl rfl (by rfl) (by rfl)
theorem u_firstDark {xs : Nat → Int32} {L : Nat}  (V : Int32) (A1 LD OB : Nat → Int32) (C : Nat → Nat → Nat → Int32) (s a v t ld ob : Nat → Int32) (E : Nat → Int64) (hC : z_Mt xs L m_X5_darkFirst [aR 0 32] (C, dm s a v t ld (upd ob 0 0), E) (.inl (some (aI V))) (C, dm s A1 v t LD OB, E) 0) : z_Mt xs L m_X5_firstDark [aR 0 32] (C, dm s a v t ld ob, E) (.inl (some (aI V))) (C, dm s A1 v t LD OB, E) 0 := by
  refine z_Ev_blk 3 (c' := (5, [some (aR 0 32)], [], (C, up2 (dm s a v t ld ob) 32 0 (0 : Int32), E))) rfl trivial ?_
  rw [dm_32]
  refine z_Ev_blk 1 (c' := (6, [some (aR 0 32)], [aR 0 32], (C, dm s a v t ld (upd ob 0 (0 : Int32)), E))) rfl trivial ?_
  refine z_Ev_call0 (m' := m_X5_darkFirst) (as := [aR 0 32]) (r := []) (hC) rfl rfl ?_
  exact z_Ev_iretE rfl rfl (by rfl) (by rfl)
theorem u_ifShed {xs : Nat → Int32} {L : Nat}  (V : Int32) (A1 LD OB : Nat → Int32) (C : Nat → Nat → Nat → Int32) (s a v t ld ob : Nat → Int32) (E : Nat → Int64) (hC : z_Mt xs L m_X5_fewerIfShed [aR 0 32] (C, dm s a v t ld (upd ob 0 0), E) (.inl (some (aI V))) (C, dm s A1 v t LD OB, E) 0) : z_Mt xs L m_X5_ifShed [aR 0 32] (C, dm s a v t ld ob, E) (.inl (some (aI V))) (C, dm s A1 v t LD OB, E) 0 := by
  refine z_Ev_blk 3 (c' := (5, [some (aR 0 32)], [], (C, up2 (dm s a v t ld ob) 32 0 (0 : Int32), E))) rfl trivial ?_
  rw [dm_32]
  refine z_Ev_blk 1 (c' := (6, [some (aR 0 32)], [aR 0 32], (C, dm s a v t ld (upd ob 0 (0 : Int32)), E))) rfl trivial ?_
  refine z_Ev_call0 (m' := m_X5_fewerIfShed) (as := [aR 0 32]) (r := []) (hC) rfl rfl ?_
  exact z_Ev_iretE rfl rfl (by rfl) (by rfl)
theorem u_bestStart {xs : Nat → Int32} {L : Nat}  (V : Int32) (A1 LD OB : Nat → Int32) (C : Nat → Nat → Nat → Int32) (s a v t ld ob : Nat → Int32) (E : Nat → Int64) (hC : z_Mt xs L m_X5_startBest [aR 0 32] (C, dm s a v t ld (upd ob 0 0), E) (.inl (some (aI V))) (C, dm s A1 v t LD OB, E) 0) : z_Mt xs L m_X5_bestStart [aR 0 32] (C, dm s a v t ld ob, E) (.inl (some (aI V))) (C, dm s A1 v t LD OB, E) 0 := by
  refine z_Ev_blk 3 (c' := (5, [some (aR 0 32)], [], (C, up2 (dm s a v t ld ob) 32 0 (0 : Int32), E))) rfl trivial ?_
  rw [dm_32]
  refine z_Ev_blk 1 (c' := (6, [some (aR 0 32)], [aR 0 32], (C, dm s a v t ld (upd ob 0 (0 : Int32)), E))) rfl trivial ?_
  refine z_Ev_call0 (m' := m_X5_startBest) (as := [aR 0 32]) (r := []) (hC) rfl rfl ?_
  exact z_Ev_iretE rfl rfl (by rfl) (by rfl)
theorem u_setOfA {xs : Nat → Int32} {L : Nat} (x : Int32) (y : Int32) (C : Nat → Nat → Nat → Int32) (s a v t ld ob : Nat → Int32) (E : Nat → Int64) (hbad : ¬ ((0 ≤ x ∧ x ≤ 3) ∧ (0 ≤ y ∧ y ≤ 8))) : z_Mt xs L m_X5_setOf [aR 0 32, aI x, aI y] (C, dm s a v t ld ob, E) (.inl (some (aI 0))) (C, dm s a v t ld (upd ob 0 1), E) 0 := by
  refine z_Ev_blk 2 (c' := (2, [some (aR 0 32), some (aI x), some (aI y)], [aI x, aR 0 32], (C, dm s a v t ld ob, E))) rfl trivial ?_
  refine z_Ev_call0 (m' := m_X5_isSet) (as := [aI x]) (r := [aR 0 32]) (e_mSet x C (dm s a v t ld ob) E) rfl rfl ?_
  refine z_Ev_blk 1 (c' := ((if (f_b (0 ≤ x ∧ x ≤ 3)) = 0 then 22 else 8), [some (aR 0 32), some (aI x), some (aI y)], [aR 0 32], (C, dm s a v t ld ob, E))) rfl trivial ?_
  refine z_Ev_ite (fun h1 => ?_) (fun h1 => ?_)
  · replace h1 := f_bZ h1
    refine z_Ev_blk 1 (c' := (23, [some (aR 0 32), some (aI x), some (aI y)], [aI (1 : Int32), aR 0 32], (C, dm s a v t ld ob, E))) rfl trivial ?_
    refine z_Ev_call0 (m' := m_X5_holds) (as := [aR 0 32, aI (1 : Int32)]) (r := []) ((by have q := m_holds (xs := xs) (L := L) (1 : Int32) C s a v t ld ob E; rw [f_b_f (by decide)] at q; exact q)) rfl rfl ?_
    refine z_Ev_blk 1 (c' := ((if (0 : Int32) = 0 then 38 else 29), [some (aR 0 32), some (aI x), some (aI y)], [], (C, dm s a v t ld (upd ob 0 (1 : Int32)), E))) rfl trivial ?_
    refine z_Ev_if (by decide) ?_
    refine z_Ev_blk 1 (c' := (39, [some (aR 0 32), some (aI x), some (aI y)], [aI (0 : Int32)], (C, dm s a v t ld (upd ob 0 (1 : Int32)), E))) rfl trivial ?_
    exact z_Ev_iretE rfl rfl (by rfl) (by rfl)
  · replace h1 := f_bQ h1
    refine z_Ev_blk 3 (c' := (12, [some (aR 0 32), some (aI x), some (aI y)], [aI (8 : Int32), aI (0 : Int32), aI y, aR 0 32], (C, dm s a v t ld ob, E))) rfl trivial ?_
    refine z_Ev_call0 (m' := m_X5_in) (as := [aI y, aI (0 : Int32), aI (8 : Int32)]) (r := [aR 0 32]) (e_in y (0 : Int32) (8 : Int32) C (dm s a v t ld ob) E) rfl rfl ?_
    refine z_Ev_blk 1 (c' := ((if (f_b ((0 : Int32) ≤ y ∧ y ≤ (8 : Int32))) = 0 then 22 else 18), [some (aR 0 32), some (aI x), some (aI y)], [aR 0 32], (C, dm s a v t ld ob, E))) rfl trivial ?_
    refine z_Ev_ite (fun h2 => ?_) (fun h2 => ?_)
    · replace h2 := f_bZ h2
      refine z_Ev_blk 1 (c' := (23, [some (aR 0 32), some (aI x), some (aI y)], [aI (1 : Int32), aR 0 32], (C, dm s a v t ld ob, E))) rfl trivial ?_
      refine z_Ev_call0 (m' := m_X5_holds) (as := [aR 0 32, aI (1 : Int32)]) (r := []) ((by have q := m_holds (xs := xs) (L := L) (1 : Int32) C s a v t ld ob E; rw [f_b_f (by decide)] at q; exact q)) rfl rfl ?_
      refine z_Ev_blk 1 (c' := ((if (0 : Int32) = 0 then 38 else 29), [some (aR 0 32), some (aI x), some (aI y)], [], (C, dm s a v t ld (upd ob 0 (1 : Int32)), E))) rfl trivial ?_
      refine z_Ev_if (by decide) ?_
      refine z_Ev_blk 1 (c' := (39, [some (aR 0 32), some (aI x), some (aI y)], [aI (0 : Int32)], (C, dm s a v t ld (upd ob 0 (1 : Int32)), E))) rfl trivial ?_
      exact z_Ev_iretE rfl rfl (by rfl) (by rfl)
    · replace h2 := f_bQ h2
      refine z_Ev_blk 2 (c' := (23, [some (aR 0 32), some (aI x), some (aI y)], [aI (0 : Int32), aR 0 32], (C, dm s a v t ld ob, E))) rfl trivial ?_
      exact absurd ⟨h1, h2⟩ hbad
theorem u_hourA {xs : Nat → Int32} {L : Nat} (x : Int32) (y : Int32) (C : Nat → Nat → Nat → Int32) (s a v t ld ob : Nat → Int32) (E : Nat → Int64) (hbad : ¬ ((0 ≤ x ∧ x ≤ 47) ∧ (0 ≤ y ∧ y ≤ 6))) : z_Mt xs L m_X5_hour [aR 0 32, aI x, aI y] (C, dm s a v t ld ob, E) (.inl (some (aI 0))) (C, dm s a v t ld (upd ob 0 1), E) 0 := by
  refine z_Ev_blk 4 (c' := (5, [some (aR 0 32), some (aI x), some (aI y)], [aI (47 : Int32), aI (0 : Int32), aI x, aR 0 32], (C, dm s a v t ld ob, E))) rfl trivial ?_
  refine z_Ev_call0 (m' := m_X5_in) (as := [aI x, aI (0 : Int32), aI (47 : Int32)]) (r := [aR 0 32]) (e_in x (0 : Int32) (47 : Int32) C (dm s a v t ld ob) E) rfl rfl ?_
  refine z_Ev_blk 1 (c' := ((if (f_b ((0 : Int32) ≤ x ∧ x ≤ (47 : Int32))) = 0 then 25 else 11), [some (aR 0 32), some (aI x), some (aI y)], [aR 0 32], (C, dm s a v t ld ob, E))) rfl trivial ?_
  refine z_Ev_ite (fun h1 => ?_) (fun h1 => ?_)
  · replace h1 := f_bZ h1
    refine z_Ev_blk 1 (c' := (26, [some (aR 0 32), some (aI x), some (aI y)], [aI (1 : Int32), aR 0 32], (C, dm s a v t ld ob, E))) rfl trivial ?_
    refine z_Ev_call0 (m' := m_X5_holds) (as := [aR 0 32, aI (1 : Int32)]) (r := []) ((by have q := m_holds (xs := xs) (L := L) (1 : Int32) C s a v t ld ob E; rw [f_b_f (by decide)] at q; exact q)) rfl rfl ?_
    refine z_Ev_blk 1 (c' := ((if (0 : Int32) = 0 then 41 else 32), [some (aR 0 32), some (aI x), some (aI y)], [], (C, dm s a v t ld (upd ob 0 (1 : Int32)), E))) rfl trivial ?_
    refine z_Ev_if (by decide) ?_
    refine z_Ev_blk 1 (c' := (42, [some (aR 0 32), some (aI x), some (aI y)], [aI (0 : Int32)], (C, dm s a v t ld (upd ob 0 (1 : Int32)), E))) rfl trivial ?_
    exact z_Ev_iretE rfl rfl (by rfl) (by rfl)
  · replace h1 := f_bQ h1
    refine z_Ev_blk 3 (c' := (15, [some (aR 0 32), some (aI x), some (aI y)], [aI (6 : Int32), aI (0 : Int32), aI y, aR 0 32], (C, dm s a v t ld ob, E))) rfl trivial ?_
    refine z_Ev_call0 (m' := m_X5_in) (as := [aI y, aI (0 : Int32), aI (6 : Int32)]) (r := [aR 0 32]) (e_in y (0 : Int32) (6 : Int32) C (dm s a v t ld ob) E) rfl rfl ?_
    refine z_Ev_blk 1 (c' := ((if (f_b ((0 : Int32) ≤ y ∧ y ≤ (6 : Int32))) = 0 then 25 else 21), [some (aR 0 32), some (aI x), some (aI y)], [aR 0 32], (C, dm s a v t ld ob, E))) rfl trivial ?_
    refine z_Ev_ite (fun h2 => ?_) (fun h2 => ?_)
    · replace h2 := f_bZ h2
      refine z_Ev_blk 1 (c' := (26, [some (aR 0 32), some (aI x), some (aI y)], [aI (1 : Int32), aR 0 32], (C, dm s a v t ld ob, E))) rfl trivial ?_
      refine z_Ev_call0 (m' := m_X5_holds) (as := [aR 0 32, aI (1 : Int32)]) (r := []) ((by have q := m_holds (xs := xs) (L := L) (1 : Int32) C s a v t ld ob E; rw [f_b_f (by decide)] at q; exact q)) rfl rfl ?_
      refine z_Ev_blk 1 (c' := ((if (0 : Int32) = 0 then 41 else 32), [some (aR 0 32), some (aI x), some (aI y)], [], (C, dm s a v t ld (upd ob 0 (1 : Int32)), E))) rfl trivial ?_
      refine z_Ev_if (by decide) ?_
      refine z_Ev_blk 1 (c' := (42, [some (aR 0 32), some (aI x), some (aI y)], [aI (0 : Int32)], (C, dm s a v t ld (upd ob 0 (1 : Int32)), E))) rfl trivial ?_
      exact z_Ev_iretE rfl rfl (by rfl) (by rfl)
    · replace h2 := f_bQ h2
      refine z_Ev_blk 2 (c' := (26, [some (aR 0 32), some (aI x), some (aI y)], [aI (0 : Int32), aR 0 32], (C, dm s a v t ld ob, E))) rfl trivial ?_
      exact absurd ⟨h1, h2⟩ hbad
theorem u_countA {xs : Nat → Int32} {L : Nat} (x : Int32) (C : Nat → Nat → Nat → Int32) (s a v t ld ob : Nat → Int32) (E : Nat → Int64) (hbad : ¬ ((0 ≤ x ∧ x ≤ 14))) : z_Mt xs L m_X5_count [aR 0 32, aI x] (C, dm s a v t ld ob, E) (.inl (some (aI 0))) (C, dm s a v t ld (upd ob 0 1), E) 0 := by
  refine z_Ev_blk 4 (c' := (5, [some (aR 0 32), some (aI x)], [aI (14 : Int32), aI (0 : Int32), aI x, aR 0 32], (C, dm s a v t ld ob, E))) rfl trivial ?_
  refine z_Ev_call0 (m' := m_X5_in) (as := [aI x, aI (0 : Int32), aI (14 : Int32)]) (r := [aR 0 32]) (e_in x (0 : Int32) (14 : Int32) C (dm s a v t ld ob) E) rfl rfl ?_
  refine z_Ev_blk 1 (c' := ((if (f_b ((0 : Int32) ≤ x ∧ x ≤ (14 : Int32))) = 0 then 15 else 11), [some (aR 0 32), some (aI x)], [aR 0 32], (C, dm s a v t ld ob, E))) rfl trivial ?_
  refine z_Ev_ite (fun h1 => ?_) (fun h1 => ?_)
  · replace h1 := f_bZ h1
    refine z_Ev_blk 1 (c' := (16, [some (aR 0 32), some (aI x)], [aI (1 : Int32), aR 0 32], (C, dm s a v t ld ob, E))) rfl trivial ?_
    refine z_Ev_call0 (m' := m_X5_holds) (as := [aR 0 32, aI (1 : Int32)]) (r := []) ((by have q := m_holds (xs := xs) (L := L) (1 : Int32) C s a v t ld ob E; rw [f_b_f (by decide)] at q; exact q)) rfl rfl ?_
    refine z_Ev_blk 1 (c' := ((if (0 : Int32) = 0 then 30 else 22), [some (aR 0 32), some (aI x)], [], (C, dm s a v t ld (upd ob 0 (1 : Int32)), E))) rfl trivial ?_
    refine z_Ev_if (by decide) ?_
    refine z_Ev_blk 1 (c' := (31, [some (aR 0 32), some (aI x)], [aI (0 : Int32)], (C, dm s a v t ld (upd ob 0 (1 : Int32)), E))) rfl trivial ?_
    exact z_Ev_iretE rfl rfl (by rfl) (by rfl)
  · replace h1 := f_bQ h1
    refine z_Ev_blk 2 (c' := (16, [some (aR 0 32), some (aI x)], [aI (0 : Int32), aR 0 32], (C, dm s a v t ld ob, E))) rfl trivial ?_
    exact absurd h1 hbad
theorem u_ifLostA {xs : Nat → Int32} {L : Nat} (x : Int32) (C : Nat → Nat → Nat → Int32) (s a v t ld ob : Nat → Int32) (E : Nat → Int64) (hbad : ¬ ((0 ≤ x ∧ x ≤ 3))) : z_Mt xs L m_X5_ifLost [aR 0 32, aI x] (C, dm s a v t ld ob, E) (.inl (some (aI 0))) (C, dm s a v t ld (upd ob 0 1), E) 0 := by
  refine z_Ev_blk 2 (c' := (2, [some (aR 0 32), some (aI x)], [aI x, aR 0 32], (C, dm s a v t ld ob, E))) rfl trivial ?_
  refine z_Ev_call0 (m' := m_X5_isSet) (as := [aI x]) (r := [aR 0 32]) (e_mSet x C (dm s a v t ld ob) E) rfl rfl ?_
  refine z_Ev_blk 1 (c' := ((if (f_b (0 ≤ x ∧ x ≤ 3)) = 0 then 12 else 8), [some (aR 0 32), some (aI x)], [aR 0 32], (C, dm s a v t ld ob, E))) rfl trivial ?_
  refine z_Ev_ite (fun h1 => ?_) (fun h1 => ?_)
  · replace h1 := f_bZ h1
    refine z_Ev_blk 1 (c' := (13, [some (aR 0 32), some (aI x)], [aI (1 : Int32), aR 0 32], (C, dm s a v t ld ob, E))) rfl trivial ?_
    refine z_Ev_call0 (m' := m_X5_holds) (as := [aR 0 32, aI (1 : Int32)]) (r := []) ((by have q := m_holds (xs := xs) (L := L) (1 : Int32) C s a v t ld ob E; rw [f_b_f (by decide)] at q; exact q)) rfl rfl ?_
    refine z_Ev_blk 1 (c' := ((if (0 : Int32) = 0 then 27 else 19), [some (aR 0 32), some (aI x)], [], (C, dm s a v t ld (upd ob 0 (1 : Int32)), E))) rfl trivial ?_
    refine z_Ev_if (by decide) ?_
    refine z_Ev_blk 1 (c' := (28, [some (aR 0 32), some (aI x)], [aI (0 : Int32)], (C, dm s a v t ld (upd ob 0 (1 : Int32)), E))) rfl trivial ?_
    exact z_Ev_iretE rfl rfl (by rfl) (by rfl)
  · replace h1 := f_bQ h1
    refine z_Ev_blk 2 (c' := (13, [some (aR 0 32), some (aI x)], [aI (0 : Int32), aR 0 32], (C, dm s a v t ld ob, E))) rfl trivial ?_
    exact absurd h1 hbad
theorem u_cheapestA {xs : Nat → Int32} {L : Nat} (x : Int32) (y : Int32) (C : Nat → Nat → Nat → Int32) (s a v t ld ob : Nat → Int32) (E : Nat → Int64) (hbad : ¬ ((0 ≤ x ∧ x ≤ 47) ∧ (0 ≤ y ∧ y ≤ 1))) : z_Mt xs L m_X5_cheapest [aR 0 32, aI x, aI y] (C, dm s a v t ld ob, E) (.inl (some (aI 0))) (C, dm s a v t ld (upd ob 0 1), E) 0 := by
  refine z_Ev_blk 4 (c' := (5, [some (aR 0 32), some (aI x), some (aI y)], [aI (47 : Int32), aI (0 : Int32), aI x, aR 0 32], (C, dm s a v t ld ob, E))) rfl trivial ?_
  refine z_Ev_call0 (m' := m_X5_in) (as := [aI x, aI (0 : Int32), aI (47 : Int32)]) (r := [aR 0 32]) (e_in x (0 : Int32) (47 : Int32) C (dm s a v t ld ob) E) rfl rfl ?_
  refine z_Ev_blk 1 (c' := ((if (f_b ((0 : Int32) ≤ x ∧ x ≤ (47 : Int32))) = 0 then 24 else 11), [some (aR 0 32), some (aI x), some (aI y)], [aR 0 32], (C, dm s a v t ld ob, E))) rfl trivial ?_
  refine z_Ev_ite (fun h1 => ?_) (fun h1 => ?_)
  · replace h1 := f_bZ h1
    refine z_Ev_blk 1 (c' := (25, [some (aR 0 32), some (aI x), some (aI y)], [aI (1 : Int32), aR 0 32], (C, dm s a v t ld ob, E))) rfl trivial ?_
    refine z_Ev_call0 (m' := m_X5_holds) (as := [aR 0 32, aI (1 : Int32)]) (r := []) ((by have q := m_holds (xs := xs) (L := L) (1 : Int32) C s a v t ld ob E; rw [f_b_f (by decide)] at q; exact q)) rfl rfl ?_
    refine z_Ev_blk 1 (c' := ((if (0 : Int32) = 0 then 40 else 31), [some (aR 0 32), some (aI x), some (aI y)], [], (C, dm s a v t ld (upd ob 0 (1 : Int32)), E))) rfl trivial ?_
    refine z_Ev_if (by decide) ?_
    refine z_Ev_blk 1 (c' := (41, [some (aR 0 32), some (aI x), some (aI y)], [aI (0 : Int32)], (C, dm s a v t ld (upd ob 0 (1 : Int32)), E))) rfl trivial ?_
    exact z_Ev_iretE rfl rfl (by rfl) (by rfl)
  · replace h1 := f_bQ h1
    refine z_Ev_blk 3 (c' := (14, [some (aR 0 32), some (aI x), some (aI y)], [aI (1 : Int32), aI (0 : Int32), aI y, aR 0 32], (C, dm s a v t ld ob, E))) rfl trivial ?_
    refine z_Ev_call0 (m' := m_X5_in) (as := [aI y, aI (0 : Int32), aI (1 : Int32)]) (r := [aR 0 32]) (e_in y (0 : Int32) (1 : Int32) C (dm s a v t ld ob) E) rfl rfl ?_
    refine z_Ev_blk 1 (c' := ((if (f_b ((0 : Int32) ≤ y ∧ y ≤ (1 : Int32))) = 0 then 24 else 20), [some (aR 0 32), some (aI x), some (aI y)], [aR 0 32], (C, dm s a v t ld ob, E))) rfl trivial ?_
    refine z_Ev_ite (fun h2 => ?_) (fun h2 => ?_)
    · replace h2 := f_bZ h2
      refine z_Ev_blk 1 (c' := (25, [some (aR 0 32), some (aI x), some (aI y)], [aI (1 : Int32), aR 0 32], (C, dm s a v t ld ob, E))) rfl trivial ?_
      refine z_Ev_call0 (m' := m_X5_holds) (as := [aR 0 32, aI (1 : Int32)]) (r := []) ((by have q := m_holds (xs := xs) (L := L) (1 : Int32) C s a v t ld ob E; rw [f_b_f (by decide)] at q; exact q)) rfl rfl ?_
      refine z_Ev_blk 1 (c' := ((if (0 : Int32) = 0 then 40 else 31), [some (aR 0 32), some (aI x), some (aI y)], [], (C, dm s a v t ld (upd ob 0 (1 : Int32)), E))) rfl trivial ?_
      refine z_Ev_if (by decide) ?_
      refine z_Ev_blk 1 (c' := (41, [some (aR 0 32), some (aI x), some (aI y)], [aI (0 : Int32)], (C, dm s a v t ld (upd ob 0 (1 : Int32)), E))) rfl trivial ?_
      exact z_Ev_iretE rfl rfl (by rfl) (by rfl)
    · replace h2 := f_bQ h2
      refine z_Ev_blk 2 (c' := (25, [some (aR 0 32), some (aI x), some (aI y)], [aI (0 : Int32), aR 0 32], (C, dm s a v t ld ob, E))) rfl trivial ?_
      exact absurd ⟨h1, h2⟩ hbad
theorem u_safe {xs : Nat → Int32} {L : Nat} (u : UInt64) (C : Nat → Nat → Nat → Int32) (s a v t ld ob : Nat → Int32) (E : Nat → Int64) (hS : z_Mt xs L m_X5_safe [aR 0 32] (C, dm s a v t ld (upd ob 0 0), E) (.inl (some (aD u))) (C, dm s a v t ld (upd ob 0 0), E) 0) : z_Mt xs L m_X5_safeShare [aR 0 32] (C, dm s a v t ld ob, E) (.inl (some (aD u))) (C, dm s a v t ld (upd ob 0 0), E) 0 := by
  refine z_Ev_blk 3 (c' := (5, [some (aR 0 32)], [], (C, up2 (dm s a v t ld ob) 32 0 (0 : Int32), E))) rfl trivial ?_
  rw [dm_32]
  refine z_Ev_blk 1 (c' := (6, [some (aR 0 32)], [aR 0 32], (C, dm s a v t ld (upd ob 0 (0 : Int32)), E))) rfl trivial ?_
  refine z_Ev_call0 (m' := m_X5_safe) (as := [aR 0 32]) (r := []) (hS) rfl rfl ?_
  exact z_Ev_dretE rfl rfl (by rfl) (by rfl)
