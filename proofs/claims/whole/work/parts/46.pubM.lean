/-! THE MODEL: its public methods, first -/
def shf (v : Nat → Int32) (i : Nat) : Nat → Int32 := fun j => if j < i then v (376 + j) else v j
def put (v s : Nat → Int32) (b i : Nat) : Nat → Int32 := fun j => if b ≤ j ∧ j < b + i then s (j - b) else v j
theorem shf_s {v : Nat → Int32} {i : Nat} : upd (shf v i) i (shf v i (376 + i)) = shf v (i + 1) := by
  funext j
  simp only [upd, shf]
  by_cases h : j = i
  · subst h; rw [if_pos rfl, if_neg (by omega), if_pos (by omega)]
  · rw [if_neg h]
    by_cases h2 : j < i
    · rw [if_pos h2, if_pos (by omega)]
    · rw [if_neg h2, if_neg (by omega)]
theorem shf_0 {v : Nat → Int32} : shf v 0 = v := by
  funext j
  unfold shf
  rw [if_neg (by omega)]
theorem put_s {v s : Nat → Int32} {b i : Nat} : upd (put v s b i) (b + i) (s i) = put v s b (i + 1) := by
  funext j
  simp only [upd, put]
  by_cases h : j = b + i
  · subst h; rw [if_pos rfl, if_pos (by omega), show b + i - b = i by omega]
  · rw [if_neg h]
    by_cases h2 : b ≤ j ∧ j < b + i
    · rw [if_pos h2, if_pos (by omega)]
    · rw [if_neg h2, if_neg (by omega)]
theorem put_0 {v s : Nat → Int32} {b : Nat} : put v s b 0 = v := by
  funext j
  unfold put
  rw [if_neg (by omega)]
theorem ix1 {i : Nat} (h : i < 1880) : z_inb (376 + nI i) 2256 = true ∧ (376 + nI i : Int32).toNatClampNeg = 376 + i := by
  rw [show (376 : Int32) = nI 376 from rfl, nI_add, nI_clamp (by omega)]
  exact ⟨inb_nI (by omega) (by decide), rfl⟩
theorem ix2 {m i : Nat} (hm : m < 6) (h : i < 376) : z_inb (376 * nI m + nI i) 2256 = true ∧ (376 * nI m + nI i : Int32).toNatClampNeg = 376 * m + i := by
  rw [show (376 : Int32) = nI 376 from rfl, nI_mul, nI_add, nI_clamp (by omega)]
  exact ⟨inb_nI (by omega) (by decide), rfl⟩

theorem sv_1 {xs : Nat → Int32} {L : Nat} {o : z_Rs} {M' : Mem} {kk : Nat} (i : Nat) (C : Nat → Nat → Nat → Int32) (s a v t ld ob : Nat → Int32) (E : Nat → Int64) (hi : i < 1880) (K : z_Ev xs L m_X5_save (11, [some (aR 0 32), some (aI (nI (i + 1)))], [], (C, dm s a (shf v (i + 1)) t ld ob, E)) o M' kk) : z_Ev xs L m_X5_save (11, [some (aR 0 32), some (aI (nI i))], [], (C, dm s a (shf v i) t ld ob, E)) o M' kk := by
  refine z_Ev_blk 3 (c' := ((if (1880 : Int32) ≤ (nI i) then 40 else 18), [some (aR 0 32), some (aI (nI i))], [], (C, dm s a (shf v i) t ld ob, E))) rfl trivial ?_
  refine z_Ev_else (nI_ge (b := 1880) hi (by decide)) ?_
  refine z_Ev_blk 10 (c' := (34, [some (aR 0 32), some (aI (nI i))], [], (C, up2 (dm s a (shf v i) t ld ob) 35 ((nI i).toNatClampNeg) ((shf v i) (((376 : Int32) + (nI i)).toNatClampNeg)), E))) rfl ⟨((ix1 hi).1), (inb_nI (show i < 2256 by omega) (by decide)), trivial⟩ ?_
  rw [dm_35]
  refine z_Ev_blk 2 (c' := (11, [some (aR 0 32), some (aI ((nI i) + (1 : Int32)))], [], (C, dm s a (upd (shf v i) ((nI i).toNatClampNeg) ((shf v i) (((376 : Int32) + (nI i)).toNatClampNeg))) t ld ob, E))) rfl trivial ?_
  refine z_Ev_fgt [true, true] ?_
  exact z_Ev_eq (c := (11, [some (aR 0 32), some (aI ((nI i) + (1 : Int32)))], [], (C, dm s a (upd (shf v i) ((nI i).toNatClampNeg) ((shf v i) (((376 : Int32) + (nI i)).toNatClampNeg))) t ld ob, E))) (c' := (11, [some (aR 0 32), some (aI (nI (i + 1)))], [], (C, dm s a (shf v (i + 1)) t ld ob, E))) (by rw [nI_1, nI_clamp (show i < 2 ^ 31 by omega), (ix1 hi).2, shf_s]) K
theorem sv_2 {xs : Nat → Int32} {L : Nat} {o : z_Rs} {M' : Mem} {kk : Nat} (m i : Nat) (C : Nat → Nat → Nat → Int32) (s a v t ld ob : Nat → Int32) (E : Nat → Int64) (h4 : ob 4 = nI m) (hm : m < 6) (hi : i < 376) (K : z_Ev xs L m_X5_save (52, [some (aR 0 32), some (aI (nI (i + 1)))], [], (C, dm s a (put v s (376 * m) (i + 1)) t ld ob, E)) o M' kk) : z_Ev xs L m_X5_save (52, [some (aR 0 32), some (aI (nI i))], [], (C, dm s a (put v s (376 * m) i) t ld ob, E)) o M' kk := by
  refine z_Ev_blk 3 (c' := ((if (376 : Int32) ≤ (nI i) then 86 else 59), [some (aR 0 32), some (aI (nI i))], [], (C, dm s a (put v s (376 * m) i) t ld ob, E))) rfl trivial ?_
  refine z_Ev_else (nI_ge (b := 376) hi (by decide)) ?_
  refine z_Ev_blk 5 (c' := (70, [some (aR 0 32), some (aI (nI i))], [aI (ob 4), aI (376 : Int32), aR 0 35], (C, dm s a (put v s (376 * m) i) t ld ob, E))) rfl trivial ?_
  rw [h4]
  refine z_Ev_blk 8 (c' := (80, [some (aR 0 32), some (aI (nI i))], [], (C, up2 (dm s a (put v s (376 * m) i) t ld ob) 35 ((((376 : Int32) * (nI m)) + (nI i)).toNatClampNeg) (s ((nI i).toNatClampNeg)), E))) rfl ⟨(inb_nI (show i < 376 by omega) (by decide)), ((ix2 hm hi).1), trivial⟩ ?_
  rw [dm_35]
  refine z_Ev_blk 2 (c' := (52, [some (aR 0 32), some (aI ((nI i) + (1 : Int32)))], [], (C, dm s a (upd (put v s (376 * m) i) ((((376 : Int32) * (nI m)) + (nI i)).toNatClampNeg) (s ((nI i).toNatClampNeg))) t ld ob, E))) rfl trivial ?_
  refine z_Ev_fgt [true, true] ?_
  exact z_Ev_eq (c := (52, [some (aR 0 32), some (aI ((nI i) + (1 : Int32)))], [], (C, dm s a (upd (put v s (376 * m) i) ((((376 : Int32) * (nI m)) + (nI i)).toNatClampNeg) (s ((nI i).toNatClampNeg))) t ld ob, E))) (c' := (52, [some (aR 0 32), some (aI (nI (i + 1)))], [], (C, dm s a (put v s (376 * m) (i + 1)) t ld ob, E))) (by rw [nI_1, nI_clamp (show i < 2 ^ 31 by omega), (ix2 hm hi).2, put_s]) K
theorem sv_all1 {xs : Nat → Int32} {L : Nat} (C : Nat → Nat → Nat → Int32) (s a v t ld ob : Nat → Int32) (E : Nat → Int64) {o : z_Rs} {M' : Mem} {kk : Nat} (K : z_Ev xs L m_X5_save (11, [some (aR 0 32), some (aI (nI 1880))], [], (C, dm s a (shf v 1880) t ld ob, E)) o M' kk) : ∀ (d i : Nat), i + d = 1880 → z_Ev xs L m_X5_save (11, [some (aR 0 32), some (aI (nI i))], [], (C, dm s a (shf v i) t ld ob, E)) o M' kk := by
  intro d
  induction d with
  | zero =>
    intro i h
    have e : i = 1880 := by omega
    subst e
    exact K
  | succ d ih =>
    intro i h
    exact sv_1 i C s a v t ld ob E (by omega) (ih (i + 1) (by omega))
theorem sv_all2 {xs : Nat → Int32} {L : Nat} (m : Nat) (C : Nat → Nat → Nat → Int32) (s a v t ld ob : Nat → Int32) (E : Nat → Int64) (h4 : ob 4 = nI m) (hm : m < 6) {o : z_Rs} {M' : Mem} {kk : Nat} (K : z_Ev xs L m_X5_save (52, [some (aR 0 32), some (aI (nI 376))], [], (C, dm s a (put v s (376 * m) 376) t ld ob, E)) o M' kk) : ∀ (d i : Nat), i + d = 376 → z_Ev xs L m_X5_save (52, [some (aR 0 32), some (aI (nI i))], [], (C, dm s a (put v s (376 * m) i) t ld ob, E)) o M' kk := by
  intro d
  induction d with
  | zero =>
    intro i h
    have e : i = 376 := by omega
    subst e
    exact K
  | succ d ih =>
    intro i h
    exact sv_2 m i C s a v t ld ob E h4 hm (by omega) (ih (i + 1) (by omega))
def mvV (v s : Nat → Int32) (m : Nat) : Nat → Int32 := put (if m = 6 then shf v 1880 else v) s (376 * svm m) 376
theorem sv_end {xs : Nat → Int32} {L : Nat} (m : Nat) (C : Nat → Nat → Nat → Int32) (s a v t ld ob : Nat → Int32) (E : Nat → Int64) (h4 : ob 4 = nI m) (hm : m < 6) : z_Ev xs L m_X5_save (50, [some (aR 0 32), none], [], (C, dm s a v t ld ob, E)) (.inl none) (C, dm s a (put v s (376 * m) 376) t ld (upd ob 4 (nI (m + 1))), E) 0 := by
  refine z_Ev_blk 2 (c' := (52, [some (aR 0 32), some (aI (0 : Int32))], [], (C, dm s a v t ld ob, E))) rfl trivial ?_
  have Q := sv_all2 (xs := xs) (L := L) m C s a v t ld ob E h4 hm (o := .inl none) (M' := (C, dm s a (put v s (376 * m) 376) t ld (upd ob 4 (nI (m + 1))), E)) (kk := 0) ?_ 376 0 rfl
  · rw [put_0] at Q
    exact Q
  · refine z_Ev_blk 3 (c' := ((if (376 : Int32) ≤ nI 376 then 86 else 59), [some (aR 0 32), some (aI (nI 376))], [], (C, dm s a (put v s (376 * m) 376) t ld ob, E))) rfl trivial ?_
    refine z_Ev_if (by decide) ?_
    refine z_Ev_blk 6 (c' := (96, [some (aR 0 32), some (aI (nI 376))], [], (C, up2 (dm s a (put v s (376 * m) 376) t ld ob) 32 4 (ob 4 + 1), E))) rfl trivial ?_
    rw [dm_32, h4, nI_1]
    exact z_Ev_vret rfl rfl
theorem n_save {xs : Nat → Int32} {L : Nat} (m : Nat) (C : Nat → Nat → Nat → Int32) (s a v t ld ob : Nat → Int32) (E : Nat → Int64) (h4 : ob 4 = nI m) (hm : m ≤ 6) : z_Mt xs L m_X5_save [aR 0 32] (C, dm s a v t ld ob, E) (.inl none) (C, dm s a (mvV v s m) t ld (upd ob 4 (nI (svm m + 1))), E) 0 := by
  unfold mvV svm
  refine z_Ev_blk 4 (c' := ((if ob 4 = 6 then 9 else 50), [some (aR 0 32), none], [], (C, dm s a v t ld ob, E))) rfl trivial ?_
  by_cases e : m = 6
  · subst e
    refine z_Ev_if h4 ?_
    rw [if_pos rfl, if_pos rfl]
    refine z_Ev_blk 2 (c' := (11, [some (aR 0 32), some (aI (0 : Int32))], [], (C, dm s a v t ld ob, E))) rfl trivial ?_
    have Q := sv_all1 (xs := xs) (L := L) C s a v t ld ob E (o := .inl none) (M' := (C, dm s a (put (shf v 1880) s (376 * 5) 376) t ld (upd ob 4 (nI (5 + 1))), E)) (kk := 0) ?_ 1880 0 rfl
    · rw [shf_0] at Q
      exact Q
    · refine z_Ev_blk 3 (c' := ((if (1880 : Int32) ≤ nI 1880 then 40 else 18), [some (aR 0 32), some (aI (nI 1880))], [], (C, dm s a (shf v 1880) t ld ob, E))) rfl trivial ?_
      refine z_Ev_if (by decide) ?_
      refine z_Ev_blk 6 (c' := (50, [some (aR 0 32), some (aI (nI 1880))], [], (C, up2 (dm s a (shf v 1880) t ld ob) 32 4 (ob 4 - 1), E))) rfl trivial ?_
      rw [dm_32, h4, show nI 6 - 1 = nI 5 from rfl]
      refine z_Ev_fgt [true, false] ?_
      have R := sv_end (xs := xs) (L := L) 5 C s a (shf v 1880) t ld (upd ob 4 (nI 5)) E rfl (by decide)
      rw [upd_same] at R
      exact R
  · refine z_Ev_else (fun z => e ((nI_eq (by omega) (by decide)).mp ((h4.symm.trans z).trans (show (6 : Int32) = nI 6 from rfl)))) ?_
    rw [if_neg e, if_neg e]
    exact sv_end m C s a v t ld ob E h4 (by omega)
theorem u_rate_0 {xs : Nat → Int32} {L : Nat} (g l e w : Int32) (C : Nat → Nat → Nat → Int32) (s a v t ld ob : Nat → Int32) (E : Nat → Int64) (hg : 50 ≤ g ∧ g ≤ 500) (hl : 0 ≤ l ∧ l ≤ g) (hme : 1 ≤ e ∧ e ≤ 99) (hh : 0 ≤ w ∧ w ≤ 4) (hp : s 16 = 0) (m : Nat) (h4 : ob 4 = nI m) (hm : m ≤ 6)  : z_Mt xs L m_X5_rate [aR 0 32, aI (0 : Int32), aI g, aI l, aI e, aI w] (C, dm s a v t ld ob, E) (.inl (some (aI (s 0)))) (C, dm (upd (upd (upd (upd s 4 l) 8 e) 12 w) 0 g) a (mvV v s m) t ld (upd (upd ob 0 0) 4 (nI (svm m + 1))), E) 0 := by
  refine z_Ev_blk 1 (c' := (1, [some (aR 0 32), some (aI (0 : Int32)), some (aI g), some (aI l), some (aI e), some (aI w), none], [aI (0 : Int32)], (C, dm s a v t ld ob, E))) rfl trivial ?_
  refine z_Ev_call0 (m' := m_X5_isSet) (as := [aI (0 : Int32)]) (r := []) ((by have q := e_mSet (xs := xs) (L := L) (0 : Int32) C (dm s a v t ld ob) E; rw [f_b_t (by decide)] at q; exact q)) rfl rfl ?_
  refine z_Ev_blk 1 (c' := ((if (1 : Int32) = 0 then 53 else 7), [some (aR 0 32), some (aI (0 : Int32)), some (aI g), some (aI l), some (aI e), some (aI w), none], [], (C, dm s a v t ld ob, E))) rfl trivial ?_
  refine z_Ev_else (by decide) ?_
  refine z_Ev_blk 3 (c' := (13, [some (aR 0 32), some (aI (0 : Int32)), some (aI g), some (aI l), some (aI e), some (aI w), none], [aI (500 : Int32), aI (50 : Int32), aI g], (C, dm s a v t ld ob, E))) rfl trivial ?_
  refine z_Ev_call0 (m' := m_X5_in) (as := [aI g, aI (50 : Int32), aI (500 : Int32)]) (r := []) ((by have q := e_in (xs := xs) (L := L) g (50 : Int32) (500 : Int32) C (dm s a v t ld ob) E; rw [f_b_t (hg)] at q; exact q)) rfl rfl ?_
  refine z_Ev_blk 1 (c' := ((if (1 : Int32) = 0 then 53 else 19), [some (aR 0 32), some (aI (0 : Int32)), some (aI g), some (aI l), some (aI e), some (aI w), none], [], (C, dm s a v t ld ob, E))) rfl trivial ?_
  refine z_Ev_else (by decide) ?_
  refine z_Ev_blk 3 (c' := (22, [some (aR 0 32), some (aI (0 : Int32)), some (aI g), some (aI l), some (aI e), some (aI w), none], [aI g, aI (0 : Int32), aI l], (C, dm s a v t ld ob, E))) rfl trivial ?_
  refine z_Ev_call0 (m' := m_X5_in) (as := [aI l, aI (0 : Int32), aI g]) (r := []) ((by have q := e_in (xs := xs) (L := L) l (0 : Int32) g C (dm s a v t ld ob) E; rw [f_b_t (hl)] at q; exact q)) rfl rfl ?_
  refine z_Ev_blk 1 (c' := ((if (1 : Int32) = 0 then 53 else 28), [some (aR 0 32), some (aI (0 : Int32)), some (aI g), some (aI l), some (aI e), some (aI w), none], [], (C, dm s a v t ld ob, E))) rfl trivial ?_
  refine z_Ev_else (by decide) ?_
  refine z_Ev_blk 3 (c' := (33, [some (aR 0 32), some (aI (0 : Int32)), some (aI g), some (aI l), some (aI e), some (aI w), none], [aI (99 : Int32), aI (1 : Int32), aI e], (C, dm s a v t ld ob, E))) rfl trivial ?_
  refine z_Ev_call0 (m' := m_X5_in) (as := [aI e, aI (1 : Int32), aI (99 : Int32)]) (r := []) ((by have q := e_in (xs := xs) (L := L) e (1 : Int32) (99 : Int32) C (dm s a v t ld ob) E; rw [f_b_t (hme)] at q; exact q)) rfl rfl ?_
  refine z_Ev_blk 1 (c' := ((if (1 : Int32) = 0 then 53 else 39), [some (aR 0 32), some (aI (0 : Int32)), some (aI g), some (aI l), some (aI e), some (aI w), none], [], (C, dm s a v t ld ob, E))) rfl trivial ?_
  refine z_Ev_else (by decide) ?_
  refine z_Ev_blk 3 (c' := (43, [some (aR 0 32), some (aI (0 : Int32)), some (aI g), some (aI l), some (aI e), some (aI w), none], [aI (4 : Int32), aI (0 : Int32), aI w], (C, dm s a v t ld ob, E))) rfl trivial ?_
  refine z_Ev_call0 (m' := m_X5_in) (as := [aI w, aI (0 : Int32), aI (4 : Int32)]) (r := []) ((by have q := e_in (xs := xs) (L := L) w (0 : Int32) (4 : Int32) C (dm s a v t ld ob) E; rw [f_b_t (hh)] at q; exact q)) rfl rfl ?_
  refine z_Ev_blk 1 (c' := ((if (1 : Int32) = 0 then 53 else 49), [some (aR 0 32), some (aI (0 : Int32)), some (aI g), some (aI l), some (aI e), some (aI w), none], [], (C, dm s a v t ld ob, E))) rfl trivial ?_
  refine z_Ev_else (by decide) ?_
  refine z_Ev_blk 6 (c' := ((if (1 : Int32) = 0 then 62 else 66), [some (aR 0 32), some (aI (0 : Int32)), some (aI g), some (aI l), some (aI e), some (aI w), some (aI (1 : Int32))], [aR 0 32], (C, dm s a v t ld ob, E))) rfl trivial ?_
  refine z_Ev_else (by decide) ?_
  refine z_Ev_blk 7 (c' := ((if (s 16) = 0 then 82 else 78), [some (aR 0 32), some (aI (0 : Int32)), some (aI g), some (aI l), some (aI e), some (aI w), some (aI (1 : Int32))], [aR 0 32], (C, dm s a v t ld ob, E))) rfl ⟨rfl, trivial⟩ ?_
  refine z_Ev_if (hp) ?_
  refine z_Ev_blk 1 (c' := (83, [some (aR 0 32), some (aI (0 : Int32)), some (aI g), some (aI l), some (aI e), some (aI w), some (aI (1 : Int32))], [aI (0 : Int32), aR 0 32], (C, dm s a v t ld ob, E))) rfl trivial ?_
  refine z_Ev_call0 (m' := m_X5_holds) (as := [aR 0 32, aI (0 : Int32)]) (r := []) ((by have q := m_holds (xs := xs) (L := L) (0 : Int32) C s a v t ld ob E; rw [f_b_t rfl] at q; exact q)) rfl rfl ?_
  refine z_Ev_blk 1 (c' := ((if (1 : Int32) = 0 then 89 else 91), [some (aR 0 32), some (aI (0 : Int32)), some (aI g), some (aI l), some (aI e), some (aI w), some (aI (1 : Int32))], [], (C, dm s a v t ld (upd ob 0 (0 : Int32)), E))) rfl trivial ?_
  refine z_Ev_else (by decide) ?_
  refine z_Ev_blk 1 (c' := (92, [some (aR 0 32), some (aI (0 : Int32)), some (aI g), some (aI l), some (aI e), some (aI w), some (aI (1 : Int32))], [aR 0 32], (C, dm s a v t ld (upd ob 0 (0 : Int32)), E))) rfl trivial ?_
  refine z_Ev_call0 (m' := m_X5_save) (as := [aR 0 32]) (r := []) (n_save m C s a v t ld (upd ob 0 (0 : Int32)) E h4 hm) rfl rfl ?_
  refine z_Ev_blk 7 (c' := (104, [some (aR 0 32), some (aI (0 : Int32)), some (aI g), some (aI l), some (aI e), some (aI w), some (aI (1 : Int32))], [], (C, up2 (dm s a (mvV v s m) t ld (upd (upd ob 0 (0 : Int32)) 4 (nI (svm m + 1)))) 33 4 l, E))) rfl ⟨rfl, trivial⟩ ?_
  rw [dm_33]
  refine z_Ev_blk 7 (c' := (115, [some (aR 0 32), some (aI (0 : Int32)), some (aI g), some (aI l), some (aI e), some (aI w), some (aI (1 : Int32))], [], (C, up2 (dm (upd s 4 l) a (mvV v s m) t ld (upd (upd ob 0 (0 : Int32)) 4 (nI (svm m + 1)))) 33 8 e, E))) rfl ⟨rfl, trivial⟩ ?_
  rw [dm_33]
  refine z_Ev_blk 7 (c' := (126, [some (aR 0 32), some (aI (0 : Int32)), some (aI g), some (aI l), some (aI e), some (aI w), some (aI (1 : Int32))], [], (C, up2 (dm (upd (upd s 4 l) 8 e) a (mvV v s m) t ld (upd (upd ob 0 (0 : Int32)) 4 (nI (svm m + 1)))) 33 12 w, E))) rfl ⟨rfl, trivial⟩ ?_
  rw [dm_33]
  refine z_Ev_blk 5 (c' := (131, [some (aR 0 32), some (aI (0 : Int32)), some (aI g), some (aI l), some (aI e), some (aI w), some (aI (1 : Int32))], [aI g, aI (0 : Int32), aR 0 32], (C, dm (upd (upd (upd s 4 l) 8 e) 12 w) a (mvV v s m) t ld (upd (upd ob 0 (0 : Int32)) 4 (nI (svm m + 1))), E))) rfl trivial ?_
  refine z_Ev_call0 (m' := m_X5_puts) (as := [aR 0 32, aI (0 : Int32), aI g]) (r := []) (m_puts (0 : Int32) g C (upd (upd (upd s 4 l) 8 e) 12 w) a (mvV v s m) t ld (upd (upd ob 0 (0 : Int32)) 4 (nI (svm m + 1))) E rfl) rfl rfl ?_
  exact z_Ev_iretE rfl rfl (by rfl) (by rfl)
theorem u_rateS_0 {xs : Nat → Int32} {L : Nat} (g l e w : Int32) (C : Nat → Nat → Nat → Int32) (s a v t ld ob : Nat → Int32) (E : Nat → Int64) (hg : 50 ≤ g ∧ g ≤ 500) (hl : 0 ≤ l ∧ l ≤ g) (hme : 1 ≤ e ∧ e ≤ 99) (hh : 0 ≤ w ∧ w ≤ 4) (hp : ¬ s 16 = 0) : z_Mt xs L m_X5_rate [aR 0 32, aI (0 : Int32), aI g, aI l, aI e, aI w] (C, dm s a v t ld ob, E) (.inl (some (aI 0))) (C, dm s a v t ld (upd ob 0 2), E) 0 := by
  refine z_Ev_blk 1 (c' := (1, [some (aR 0 32), some (aI (0 : Int32)), some (aI g), some (aI l), some (aI e), some (aI w), none], [aI (0 : Int32)], (C, dm s a v t ld ob, E))) rfl trivial ?_
  refine z_Ev_call0 (m' := m_X5_isSet) (as := [aI (0 : Int32)]) (r := []) ((by have q := e_mSet (xs := xs) (L := L) (0 : Int32) C (dm s a v t ld ob) E; rw [f_b_t (by decide)] at q; exact q)) rfl rfl ?_
  refine z_Ev_blk 1 (c' := ((if (1 : Int32) = 0 then 53 else 7), [some (aR 0 32), some (aI (0 : Int32)), some (aI g), some (aI l), some (aI e), some (aI w), none], [], (C, dm s a v t ld ob, E))) rfl trivial ?_
  refine z_Ev_else (by decide) ?_
  refine z_Ev_blk 3 (c' := (13, [some (aR 0 32), some (aI (0 : Int32)), some (aI g), some (aI l), some (aI e), some (aI w), none], [aI (500 : Int32), aI (50 : Int32), aI g], (C, dm s a v t ld ob, E))) rfl trivial ?_
  refine z_Ev_call0 (m' := m_X5_in) (as := [aI g, aI (50 : Int32), aI (500 : Int32)]) (r := []) ((by have q := e_in (xs := xs) (L := L) g (50 : Int32) (500 : Int32) C (dm s a v t ld ob) E; rw [f_b_t (hg)] at q; exact q)) rfl rfl ?_
  refine z_Ev_blk 1 (c' := ((if (1 : Int32) = 0 then 53 else 19), [some (aR 0 32), some (aI (0 : Int32)), some (aI g), some (aI l), some (aI e), some (aI w), none], [], (C, dm s a v t ld ob, E))) rfl trivial ?_
  refine z_Ev_else (by decide) ?_
  refine z_Ev_blk 3 (c' := (22, [some (aR 0 32), some (aI (0 : Int32)), some (aI g), some (aI l), some (aI e), some (aI w), none], [aI g, aI (0 : Int32), aI l], (C, dm s a v t ld ob, E))) rfl trivial ?_
  refine z_Ev_call0 (m' := m_X5_in) (as := [aI l, aI (0 : Int32), aI g]) (r := []) ((by have q := e_in (xs := xs) (L := L) l (0 : Int32) g C (dm s a v t ld ob) E; rw [f_b_t (hl)] at q; exact q)) rfl rfl ?_
  refine z_Ev_blk 1 (c' := ((if (1 : Int32) = 0 then 53 else 28), [some (aR 0 32), some (aI (0 : Int32)), some (aI g), some (aI l), some (aI e), some (aI w), none], [], (C, dm s a v t ld ob, E))) rfl trivial ?_
  refine z_Ev_else (by decide) ?_
  refine z_Ev_blk 3 (c' := (33, [some (aR 0 32), some (aI (0 : Int32)), some (aI g), some (aI l), some (aI e), some (aI w), none], [aI (99 : Int32), aI (1 : Int32), aI e], (C, dm s a v t ld ob, E))) rfl trivial ?_
  refine z_Ev_call0 (m' := m_X5_in) (as := [aI e, aI (1 : Int32), aI (99 : Int32)]) (r := []) ((by have q := e_in (xs := xs) (L := L) e (1 : Int32) (99 : Int32) C (dm s a v t ld ob) E; rw [f_b_t (hme)] at q; exact q)) rfl rfl ?_
  refine z_Ev_blk 1 (c' := ((if (1 : Int32) = 0 then 53 else 39), [some (aR 0 32), some (aI (0 : Int32)), some (aI g), some (aI l), some (aI e), some (aI w), none], [], (C, dm s a v t ld ob, E))) rfl trivial ?_
  refine z_Ev_else (by decide) ?_
  refine z_Ev_blk 3 (c' := (43, [some (aR 0 32), some (aI (0 : Int32)), some (aI g), some (aI l), some (aI e), some (aI w), none], [aI (4 : Int32), aI (0 : Int32), aI w], (C, dm s a v t ld ob, E))) rfl trivial ?_
  refine z_Ev_call0 (m' := m_X5_in) (as := [aI w, aI (0 : Int32), aI (4 : Int32)]) (r := []) ((by have q := e_in (xs := xs) (L := L) w (0 : Int32) (4 : Int32) C (dm s a v t ld ob) E; rw [f_b_t (hh)] at q; exact q)) rfl rfl ?_
  refine z_Ev_blk 1 (c' := ((if (1 : Int32) = 0 then 53 else 49), [some (aR 0 32), some (aI (0 : Int32)), some (aI g), some (aI l), some (aI e), some (aI w), none], [], (C, dm s a v t ld ob, E))) rfl trivial ?_
  refine z_Ev_else (by decide) ?_
  refine z_Ev_blk 6 (c' := ((if (1 : Int32) = 0 then 62 else 66), [some (aR 0 32), some (aI (0 : Int32)), some (aI g), some (aI l), some (aI e), some (aI w), some (aI (1 : Int32))], [aR 0 32], (C, dm s a v t ld ob, E))) rfl trivial ?_
  refine z_Ev_else (by decide) ?_
  refine z_Ev_blk 7 (c' := ((if (s 16) = 0 then 82 else 78), [some (aR 0 32), some (aI (0 : Int32)), some (aI g), some (aI l), some (aI e), some (aI w), some (aI (1 : Int32))], [aR 0 32], (C, dm s a v t ld ob, E))) rfl ⟨rfl, trivial⟩ ?_
  refine z_Ev_else (hp) ?_
  refine z_Ev_blk 2 (c' := (83, [some (aR 0 32), some (aI (0 : Int32)), some (aI g), some (aI l), some (aI e), some (aI w), some (aI (1 : Int32))], [aI (2 : Int32), aR 0 32], (C, dm s a v t ld ob, E))) rfl trivial ?_
  refine z_Ev_call0 (m' := m_X5_holds) (as := [aR 0 32, aI (2 : Int32)]) (r := []) ((by have q := m_holds (xs := xs) (L := L) (2 : Int32) C s a v t ld ob E; rw [f_b_f (by decide)] at q; exact q)) rfl rfl ?_
  refine z_Ev_blk 1 (c' := ((if (0 : Int32) = 0 then 89 else 91), [some (aR 0 32), some (aI (0 : Int32)), some (aI g), some (aI l), some (aI e), some (aI w), some (aI (1 : Int32))], [], (C, dm s a v t ld (upd ob 0 (2 : Int32)), E))) rfl trivial ?_
  refine z_Ev_if (by decide) ?_
  refine z_Ev_blk 1 (c' := (90, [some (aR 0 32), some (aI (0 : Int32)), some (aI g), some (aI l), some (aI e), some (aI w), some (aI (1 : Int32))], [aI (0 : Int32)], (C, dm s a v t ld (upd ob 0 (2 : Int32)), E))) rfl trivial ?_
  exact z_Ev_iretE rfl rfl (by rfl) (by rfl)
theorem u_start_0 {xs : Nat → Int32} {L : Nat}  (C : Nat → Nat → Nat → Int32) (s a v t ld ob : Nat → Int32) (E : Nat → Int64) (hp : s 16 = 0) (m : Nat) (h4 : ob 4 = nI m) (hm : m ≤ 6)  : z_Mt xs L m_X5_start [aR 0 32, aI (0 : Int32)] (C, dm s a v t ld ob, E) (.inl (some (aI (s 12)))) (C, dm (bgF s 0) a (mvV v s m) t ld (upd (upd ob 0 0) 4 (nI (svm m + 1))), E) 0 := by
  refine z_Ev_blk 3 (c' := (3, [some (aR 0 32), some (aI (0 : Int32))], [aI (0 : Int32), aR 0 32, aR 0 32], (C, dm s a v t ld ob, E))) rfl trivial ?_
  refine z_Ev_call0 (m' := m_X5_startFault) (as := [aR 0 32, aI (0 : Int32)]) (r := [aR 0 32]) ((by have q := m_startFault_0 (xs := xs) (L := L) C s a v t ld ob E; rw [if_pos hp] at q; exact q)) rfl rfl ?_
  refine z_Ev_call0 (m' := m_X5_holds) (as := [aR 0 32, aI (0 : Int32)]) (r := []) ((by have q := m_holds (xs := xs) (L := L) (0 : Int32) C s a v t ld ob E; rw [f_b_t rfl] at q; exact q)) rfl rfl ?_
  refine z_Ev_blk 1 (c' := ((if (1 : Int32) = 0 then 12 else 14), [some (aR 0 32), some (aI (0 : Int32))], [], (C, dm s a v t ld (upd ob 0 (0 : Int32)), E))) rfl trivial ?_
  refine z_Ev_else (by decide) ?_
  refine z_Ev_blk 1 (c' := (15, [some (aR 0 32), some (aI (0 : Int32))], [aR 0 32], (C, dm s a v t ld (upd ob 0 (0 : Int32)), E))) rfl trivial ?_
  refine z_Ev_call0 (m' := m_X5_save) (as := [aR 0 32]) (r := []) (n_save m C s a v t ld (upd ob 0 (0 : Int32)) E h4 hm) rfl rfl ?_
  refine z_Ev_blk 2 (c' := (20, [some (aR 0 32), some (aI (0 : Int32))], [aI (0 : Int32), aR 0 32], (C, dm s a (mvV v s m) t ld (upd (upd ob 0 (0 : Int32)) 4 (nI (svm m + 1))), E))) rfl trivial ?_
  refine z_Ev_call0 (m' := m_X5_starts) (as := [aR 0 32, aI (0 : Int32)]) (r := []) (m_starts_0 C s a (mvV v s m) t ld (upd (upd ob 0 (0 : Int32)) 4 (nI (svm m + 1))) E) rfl rfl ?_
  exact z_Ev_iretE rfl rfl (by rfl) (by rfl)
theorem u_startS_0 {xs : Nat → Int32} {L : Nat}  (C : Nat → Nat → Nat → Int32) (s a v t ld ob : Nat → Int32) (E : Nat → Int64) (hp : ¬ s 16 = 0)  : z_Mt xs L m_X5_start [aR 0 32, aI (0 : Int32)] (C, dm s a v t ld ob, E) (.inl (some (aI 0))) (C, dm s a v t ld (upd ob 0 2), E) 0 := by
  refine z_Ev_blk 3 (c' := (3, [some (aR 0 32), some (aI (0 : Int32))], [aI (0 : Int32), aR 0 32, aR 0 32], (C, dm s a v t ld ob, E))) rfl trivial ?_
  refine z_Ev_call0 (m' := m_X5_startFault) (as := [aR 0 32, aI (0 : Int32)]) (r := [aR 0 32]) ((by have q := m_startFault_0 (xs := xs) (L := L) C s a v t ld ob E; rw [if_neg hp] at q; exact q)) rfl rfl ?_
  refine z_Ev_call0 (m' := m_X5_holds) (as := [aR 0 32, aI (2 : Int32)]) (r := []) ((by have q := m_holds (xs := xs) (L := L) (2 : Int32) C s a v t ld ob E; rw [f_b_f (by decide)] at q; exact q)) rfl rfl ?_
  refine z_Ev_blk 1 (c' := ((if (0 : Int32) = 0 then 12 else 14), [some (aR 0 32), some (aI (0 : Int32))], [], (C, dm s a v t ld (upd ob 0 (2 : Int32)), E))) rfl trivial ?_
  refine z_Ev_if (by decide) ?_
  refine z_Ev_blk 1 (c' := (13, [some (aR 0 32), some (aI (0 : Int32))], [aI (0 : Int32)], (C, dm s a v t ld (upd ob 0 (2 : Int32)), E))) rfl trivial ?_
  exact z_Ev_iretE rfl rfl (by rfl) (by rfl)
theorem u_stop_0 {xs : Nat → Int32} {L : Nat}  (C : Nat → Nat → Nat → Int32) (s a v t ld ob : Nat → Int32) (E : Nat → Int64) (hp : (s 16 = 1 ∨ s 16 = 2)) (m : Nat) (h4 : ob 4 = nI m) (hm : m ≤ 6)  : z_Mt xs L m_X5_stop [aR 0 32, aI (0 : Int32)] (C, dm s a v t ld ob, E) (.inl (some (aI (manF (mkF (fun j => (stF s 0) (16 + j)) 2))))) (C, dm (stF s 0) a (mvV v s m) t ld (upd (upd ob 0 0) 4 (nI (svm m + 1))), E) 0 := by
  refine z_Ev_blk 3 (c' := (3, [some (aR 0 32), some (aI (0 : Int32))], [aI (0 : Int32), aR 0 32, aR 0 32], (C, dm s a v t ld ob, E))) rfl trivial ?_
  refine z_Ev_call0 (m' := m_X5_stopFault) (as := [aR 0 32, aI (0 : Int32)]) (r := [aR 0 32]) ((by have q := m_stopFault_0 (xs := xs) (L := L) C s a v t ld ob E; rw [if_pos (st12.mpr hp)] at q; exact q)) rfl rfl ?_
  refine z_Ev_call0 (m' := m_X5_holds) (as := [aR 0 32, aI (0 : Int32)]) (r := []) ((by have q := m_holds (xs := xs) (L := L) (0 : Int32) C s a v t ld ob E; rw [f_b_t rfl] at q; exact q)) rfl rfl ?_
  refine z_Ev_blk 1 (c' := ((if (1 : Int32) = 0 then 12 else 14), [some (aR 0 32), some (aI (0 : Int32))], [], (C, dm s a v t ld (upd ob 0 (0 : Int32)), E))) rfl trivial ?_
  refine z_Ev_else (by decide) ?_
  refine z_Ev_blk 1 (c' := (15, [some (aR 0 32), some (aI (0 : Int32))], [aR 0 32], (C, dm s a v t ld (upd ob 0 (0 : Int32)), E))) rfl trivial ?_
  refine z_Ev_call0 (m' := m_X5_save) (as := [aR 0 32]) (r := []) (n_save m C s a v t ld (upd ob 0 (0 : Int32)) E h4 hm) rfl rfl ?_
  refine z_Ev_blk 2 (c' := (20, [some (aR 0 32), some (aI (0 : Int32))], [aI (0 : Int32), aR 0 32], (C, dm s a (mvV v s m) t ld (upd (upd ob 0 (0 : Int32)) 4 (nI (svm m + 1))), E))) rfl trivial ?_
  refine z_Ev_call0 (m' := m_X5_stops) (as := [aR 0 32, aI (0 : Int32)]) (r := []) (m_stops_0 C s a (mvV v s m) t ld (upd (upd ob 0 (0 : Int32)) 4 (nI (svm m + 1))) E) rfl rfl ?_
  exact z_Ev_iretE rfl rfl (by rfl) (by rfl)
theorem u_stopS_0 {xs : Nat → Int32} {L : Nat}  (C : Nat → Nat → Nat → Int32) (s a v t ld ob : Nat → Int32) (E : Nat → Int64) (hp : ¬ (s 16 = 1 ∨ s 16 = 2))  : z_Mt xs L m_X5_stop [aR 0 32, aI (0 : Int32)] (C, dm s a v t ld ob, E) (.inl (some (aI 0))) (C, dm s a v t ld (upd ob 0 2), E) 0 := by
  refine z_Ev_blk 3 (c' := (3, [some (aR 0 32), some (aI (0 : Int32))], [aI (0 : Int32), aR 0 32, aR 0 32], (C, dm s a v t ld ob, E))) rfl trivial ?_
  refine z_Ev_call0 (m' := m_X5_stopFault) (as := [aR 0 32, aI (0 : Int32)]) (r := [aR 0 32]) ((by have q := m_stopFault_0 (xs := xs) (L := L) C s a v t ld ob E; rw [if_neg (fun z => hp (st12.mp z))] at q; exact q)) rfl rfl ?_
  refine z_Ev_call0 (m' := m_X5_holds) (as := [aR 0 32, aI (2 : Int32)]) (r := []) ((by have q := m_holds (xs := xs) (L := L) (2 : Int32) C s a v t ld ob E; rw [f_b_f (by decide)] at q; exact q)) rfl rfl ?_
  refine z_Ev_blk 1 (c' := ((if (0 : Int32) = 0 then 12 else 14), [some (aR 0 32), some (aI (0 : Int32))], [], (C, dm s a v t ld (upd ob 0 (2 : Int32)), E))) rfl trivial ?_
  refine z_Ev_if (by decide) ?_
  refine z_Ev_blk 1 (c' := (13, [some (aR 0 32), some (aI (0 : Int32))], [aI (0 : Int32)], (C, dm s a v t ld (upd ob 0 (2 : Int32)), E))) rfl trivial ?_
  exact z_Ev_iretE rfl rfl (by rfl) (by rfl)
theorem u_lose_0 {xs : Nat → Int32} {L : Nat}  (C : Nat → Nat → Nat → Int32) (s a v t ld ob : Nat → Int32) (E : Nat → Int64) (m : Nat) (h4 : ob 4 = nI m) (hm : m ≤ 6)  : z_Mt xs L m_X5_lose [aR 0 32, aI (0 : Int32)] (C, dm s a v t ld ob, E) (.inl (some (aI (if s 16 = 3 then 0 else 1)))) (C, dm (upd (upd s 20 0) 16 (if s 16 = 3 then 0 else 3)) a (mvV v s m) t ld (upd (upd ob 0 0) 4 (nI (svm m + 1))), E) 0 := by
  refine z_Ev_blk 2 (c' := (2, [some (aR 0 32), some (aI (0 : Int32))], [aI (0 : Int32), aR 0 32], (C, dm s a v t ld ob, E))) rfl trivial ?_
  refine z_Ev_call0 (m' := m_X5_isSet) (as := [aI (0 : Int32)]) (r := [aR 0 32]) ((by have q := e_mSet (xs := xs) (L := L) (0 : Int32) C (dm s a v t ld ob) E; rw [f_b_t (by decide)] at q; exact q)) rfl rfl ?_
  refine z_Ev_blk 1 (c' := ((if (1 : Int32) = 0 then 12 else 8), [some (aR 0 32), some (aI (0 : Int32))], [aR 0 32], (C, dm s a v t ld ob, E))) rfl trivial ?_
  refine z_Ev_else (by decide) ?_
  refine z_Ev_blk 2 (c' := (13, [some (aR 0 32), some (aI (0 : Int32))], [aI (0 : Int32), aR 0 32], (C, dm s a v t ld ob, E))) rfl trivial ?_
  refine z_Ev_call0 (m' := m_X5_holds) (as := [aR 0 32, aI (0 : Int32)]) (r := []) ((by have q := m_holds (xs := xs) (L := L) (0 : Int32) C s a v t ld ob E; rw [f_b_t rfl] at q; exact q)) rfl rfl ?_
  refine z_Ev_blk 1 (c' := ((if (1 : Int32) = 0 then 19 else 21), [some (aR 0 32), some (aI (0 : Int32))], [], (C, dm s a v t ld (upd ob 0 (0 : Int32)), E))) rfl trivial ?_
  refine z_Ev_else (by decide) ?_
  refine z_Ev_blk 1 (c' := (22, [some (aR 0 32), some (aI (0 : Int32))], [aR 0 32], (C, dm s a v t ld (upd ob 0 (0 : Int32)), E))) rfl trivial ?_
  refine z_Ev_call0 (m' := m_X5_save) (as := [aR 0 32]) (r := []) (n_save m C s a v t ld (upd ob 0 (0 : Int32)) E h4 hm) rfl rfl ?_
  refine z_Ev_blk 7 (c' := (35, [some (aR 0 32), some (aI (0 : Int32))], [], (C, up2 (dm s a (mvV v s m) t ld (upd (upd ob 0 (0 : Int32)) 4 (nI (svm m + 1)))) 33 20 (0 : Int32), E))) rfl ⟨rfl, trivial⟩ ?_
  rw [dm_33]
  refine z_Ev_blk 13 (c' := ((if (s 16) = (3 : Int32) then 56 else 60), [some (aR 0 32), some (aI (0 : Int32))], [aI (16 : Int32), aR 0 33], (C, dm (upd s 20 (0 : Int32)) a (mvV v s m) t ld (upd (upd ob 0 (0 : Int32)) 4 (nI (svm m + 1))), E))) rfl ⟨rfl, trivial⟩ ?_
  refine z_Ev_ite (fun h1 => ?_) (fun h1 => ?_)
  · skip
    refine z_Ev_blk 3 (c' := (62, [some (aR 0 32), some (aI (0 : Int32))], [], (C, up2 (dm (upd s 20 (0 : Int32)) a (mvV v s m) t ld (upd (upd ob 0 (0 : Int32)) 4 (nI (svm m + 1)))) 33 16 (0 : Int32), E))) rfl ⟨rfl, trivial⟩ ?_
    rw [dm_33]
    refine z_Ev_blk 8 (c' := ((if (0 : Int32) = (3 : Int32) then 75 else 79), [some (aR 0 32), some (aI (0 : Int32))], [], (C, dm (upd (upd s 20 (0 : Int32)) 16 (0 : Int32)) a (mvV v s m) t ld (upd (upd ob 0 (0 : Int32)) 4 (nI (svm m + 1))), E))) rfl ⟨rfl, trivial⟩ ?_
    refine z_Ev_else (by decide) ?_
    refine z_Ev_blk 1 (c' := (80, [some (aR 0 32), some (aI (0 : Int32))], [aI (0 : Int32)], (C, dm (upd (upd s 20 (0 : Int32)) 16 (0 : Int32)) a (mvV v s m) t ld (upd (upd ob 0 (0 : Int32)) 4 (nI (svm m + 1))), E))) rfl trivial ?_
    exact z_Ev_iretE rfl rfl (by first | rfl | simp [*]) (by first | rfl | simp [*])
  · skip
    refine z_Ev_blk 2 (c' := (62, [some (aR 0 32), some (aI (0 : Int32))], [], (C, up2 (dm (upd s 20 (0 : Int32)) a (mvV v s m) t ld (upd (upd ob 0 (0 : Int32)) 4 (nI (svm m + 1)))) 33 16 (3 : Int32), E))) rfl ⟨rfl, trivial⟩ ?_
    rw [dm_33]
    refine z_Ev_blk 8 (c' := ((if (3 : Int32) = (3 : Int32) then 75 else 79), [some (aR 0 32), some (aI (0 : Int32))], [], (C, dm (upd (upd s 20 (0 : Int32)) 16 (3 : Int32)) a (mvV v s m) t ld (upd (upd ob 0 (0 : Int32)) 4 (nI (svm m + 1))), E))) rfl ⟨rfl, trivial⟩ ?_
    refine z_Ev_if (by decide) ?_
    refine z_Ev_blk 2 (c' := (80, [some (aR 0 32), some (aI (0 : Int32))], [aI (1 : Int32)], (C, dm (upd (upd s 20 (0 : Int32)) 16 (3 : Int32)) a (mvV v s m) t ld (upd (upd ob 0 (0 : Int32)) 4 (nI (svm m + 1))), E))) rfl trivial ?_
    exact z_Ev_iretE rfl rfl (by first | rfl | simp [*]) (by first | rfl | simp [*])
theorem u_rate_1 {xs : Nat → Int32} {L : Nat} (g l e w : Int32) (C : Nat → Nat → Nat → Int32) (s a v t ld ob : Nat → Int32) (E : Nat → Int64) (hg : 50 ≤ g ∧ g ≤ 500) (hl : 0 ≤ l ∧ l ≤ g) (hme : 1 ≤ e ∧ e ≤ 99) (hh : 0 ≤ w ∧ w ≤ 4) (hp : s 17 = 0) (m : Nat) (h4 : ob 4 = nI m) (hm : m ≤ 6)  : z_Mt xs L m_X5_rate [aR 0 32, aI (1 : Int32), aI g, aI l, aI e, aI w] (C, dm s a v t ld ob, E) (.inl (some (aI (s 1)))) (C, dm (upd (upd (upd (upd s 5 l) 9 e) 13 w) 1 g) a (mvV v s m) t ld (upd (upd ob 0 0) 4 (nI (svm m + 1))), E) 0 := by
  refine z_Ev_blk 1 (c' := (1, [some (aR 0 32), some (aI (1 : Int32)), some (aI g), some (aI l), some (aI e), some (aI w), none], [aI (1 : Int32)], (C, dm s a v t ld ob, E))) rfl trivial ?_
  refine z_Ev_call0 (m' := m_X5_isSet) (as := [aI (1 : Int32)]) (r := []) ((by have q := e_mSet (xs := xs) (L := L) (1 : Int32) C (dm s a v t ld ob) E; rw [f_b_t (by decide)] at q; exact q)) rfl rfl ?_
  refine z_Ev_blk 1 (c' := ((if (1 : Int32) = 0 then 53 else 7), [some (aR 0 32), some (aI (1 : Int32)), some (aI g), some (aI l), some (aI e), some (aI w), none], [], (C, dm s a v t ld ob, E))) rfl trivial ?_
  refine z_Ev_else (by decide) ?_
  refine z_Ev_blk 3 (c' := (13, [some (aR 0 32), some (aI (1 : Int32)), some (aI g), some (aI l), some (aI e), some (aI w), none], [aI (500 : Int32), aI (50 : Int32), aI g], (C, dm s a v t ld ob, E))) rfl trivial ?_
  refine z_Ev_call0 (m' := m_X5_in) (as := [aI g, aI (50 : Int32), aI (500 : Int32)]) (r := []) ((by have q := e_in (xs := xs) (L := L) g (50 : Int32) (500 : Int32) C (dm s a v t ld ob) E; rw [f_b_t (hg)] at q; exact q)) rfl rfl ?_
  refine z_Ev_blk 1 (c' := ((if (1 : Int32) = 0 then 53 else 19), [some (aR 0 32), some (aI (1 : Int32)), some (aI g), some (aI l), some (aI e), some (aI w), none], [], (C, dm s a v t ld ob, E))) rfl trivial ?_
  refine z_Ev_else (by decide) ?_
  refine z_Ev_blk 3 (c' := (22, [some (aR 0 32), some (aI (1 : Int32)), some (aI g), some (aI l), some (aI e), some (aI w), none], [aI g, aI (0 : Int32), aI l], (C, dm s a v t ld ob, E))) rfl trivial ?_
  refine z_Ev_call0 (m' := m_X5_in) (as := [aI l, aI (0 : Int32), aI g]) (r := []) ((by have q := e_in (xs := xs) (L := L) l (0 : Int32) g C (dm s a v t ld ob) E; rw [f_b_t (hl)] at q; exact q)) rfl rfl ?_
  refine z_Ev_blk 1 (c' := ((if (1 : Int32) = 0 then 53 else 28), [some (aR 0 32), some (aI (1 : Int32)), some (aI g), some (aI l), some (aI e), some (aI w), none], [], (C, dm s a v t ld ob, E))) rfl trivial ?_
  refine z_Ev_else (by decide) ?_
  refine z_Ev_blk 3 (c' := (33, [some (aR 0 32), some (aI (1 : Int32)), some (aI g), some (aI l), some (aI e), some (aI w), none], [aI (99 : Int32), aI (1 : Int32), aI e], (C, dm s a v t ld ob, E))) rfl trivial ?_
  refine z_Ev_call0 (m' := m_X5_in) (as := [aI e, aI (1 : Int32), aI (99 : Int32)]) (r := []) ((by have q := e_in (xs := xs) (L := L) e (1 : Int32) (99 : Int32) C (dm s a v t ld ob) E; rw [f_b_t (hme)] at q; exact q)) rfl rfl ?_
  refine z_Ev_blk 1 (c' := ((if (1 : Int32) = 0 then 53 else 39), [some (aR 0 32), some (aI (1 : Int32)), some (aI g), some (aI l), some (aI e), some (aI w), none], [], (C, dm s a v t ld ob, E))) rfl trivial ?_
  refine z_Ev_else (by decide) ?_
  refine z_Ev_blk 3 (c' := (43, [some (aR 0 32), some (aI (1 : Int32)), some (aI g), some (aI l), some (aI e), some (aI w), none], [aI (4 : Int32), aI (0 : Int32), aI w], (C, dm s a v t ld ob, E))) rfl trivial ?_
  refine z_Ev_call0 (m' := m_X5_in) (as := [aI w, aI (0 : Int32), aI (4 : Int32)]) (r := []) ((by have q := e_in (xs := xs) (L := L) w (0 : Int32) (4 : Int32) C (dm s a v t ld ob) E; rw [f_b_t (hh)] at q; exact q)) rfl rfl ?_
  refine z_Ev_blk 1 (c' := ((if (1 : Int32) = 0 then 53 else 49), [some (aR 0 32), some (aI (1 : Int32)), some (aI g), some (aI l), some (aI e), some (aI w), none], [], (C, dm s a v t ld ob, E))) rfl trivial ?_
  refine z_Ev_else (by decide) ?_
  refine z_Ev_blk 6 (c' := ((if (1 : Int32) = 0 then 62 else 66), [some (aR 0 32), some (aI (1 : Int32)), some (aI g), some (aI l), some (aI e), some (aI w), some (aI (1 : Int32))], [aR 0 32], (C, dm s a v t ld ob, E))) rfl trivial ?_
  refine z_Ev_else (by decide) ?_
  refine z_Ev_blk 7 (c' := ((if (s 17) = 0 then 82 else 78), [some (aR 0 32), some (aI (1 : Int32)), some (aI g), some (aI l), some (aI e), some (aI w), some (aI (1 : Int32))], [aR 0 32], (C, dm s a v t ld ob, E))) rfl ⟨rfl, trivial⟩ ?_
  refine z_Ev_if (hp) ?_
  refine z_Ev_blk 1 (c' := (83, [some (aR 0 32), some (aI (1 : Int32)), some (aI g), some (aI l), some (aI e), some (aI w), some (aI (1 : Int32))], [aI (0 : Int32), aR 0 32], (C, dm s a v t ld ob, E))) rfl trivial ?_
  refine z_Ev_call0 (m' := m_X5_holds) (as := [aR 0 32, aI (0 : Int32)]) (r := []) ((by have q := m_holds (xs := xs) (L := L) (0 : Int32) C s a v t ld ob E; rw [f_b_t rfl] at q; exact q)) rfl rfl ?_
  refine z_Ev_blk 1 (c' := ((if (1 : Int32) = 0 then 89 else 91), [some (aR 0 32), some (aI (1 : Int32)), some (aI g), some (aI l), some (aI e), some (aI w), some (aI (1 : Int32))], [], (C, dm s a v t ld (upd ob 0 (0 : Int32)), E))) rfl trivial ?_
  refine z_Ev_else (by decide) ?_
  refine z_Ev_blk 1 (c' := (92, [some (aR 0 32), some (aI (1 : Int32)), some (aI g), some (aI l), some (aI e), some (aI w), some (aI (1 : Int32))], [aR 0 32], (C, dm s a v t ld (upd ob 0 (0 : Int32)), E))) rfl trivial ?_
  refine z_Ev_call0 (m' := m_X5_save) (as := [aR 0 32]) (r := []) (n_save m C s a v t ld (upd ob 0 (0 : Int32)) E h4 hm) rfl rfl ?_
  refine z_Ev_blk 7 (c' := (104, [some (aR 0 32), some (aI (1 : Int32)), some (aI g), some (aI l), some (aI e), some (aI w), some (aI (1 : Int32))], [], (C, up2 (dm s a (mvV v s m) t ld (upd (upd ob 0 (0 : Int32)) 4 (nI (svm m + 1)))) 33 5 l, E))) rfl ⟨rfl, trivial⟩ ?_
  rw [dm_33]
  refine z_Ev_blk 7 (c' := (115, [some (aR 0 32), some (aI (1 : Int32)), some (aI g), some (aI l), some (aI e), some (aI w), some (aI (1 : Int32))], [], (C, up2 (dm (upd s 5 l) a (mvV v s m) t ld (upd (upd ob 0 (0 : Int32)) 4 (nI (svm m + 1)))) 33 9 e, E))) rfl ⟨rfl, trivial⟩ ?_
  rw [dm_33]
  refine z_Ev_blk 7 (c' := (126, [some (aR 0 32), some (aI (1 : Int32)), some (aI g), some (aI l), some (aI e), some (aI w), some (aI (1 : Int32))], [], (C, up2 (dm (upd (upd s 5 l) 9 e) a (mvV v s m) t ld (upd (upd ob 0 (0 : Int32)) 4 (nI (svm m + 1)))) 33 13 w, E))) rfl ⟨rfl, trivial⟩ ?_
  rw [dm_33]
  refine z_Ev_blk 5 (c' := (131, [some (aR 0 32), some (aI (1 : Int32)), some (aI g), some (aI l), some (aI e), some (aI w), some (aI (1 : Int32))], [aI g, aI (1 : Int32), aR 0 32], (C, dm (upd (upd (upd s 5 l) 9 e) 13 w) a (mvV v s m) t ld (upd (upd ob 0 (0 : Int32)) 4 (nI (svm m + 1))), E))) rfl trivial ?_
  refine z_Ev_call0 (m' := m_X5_puts) (as := [aR 0 32, aI (1 : Int32), aI g]) (r := []) (m_puts (1 : Int32) g C (upd (upd (upd s 5 l) 9 e) 13 w) a (mvV v s m) t ld (upd (upd ob 0 (0 : Int32)) 4 (nI (svm m + 1))) E rfl) rfl rfl ?_
  exact z_Ev_iretE rfl rfl (by rfl) (by rfl)
theorem u_rateS_1 {xs : Nat → Int32} {L : Nat} (g l e w : Int32) (C : Nat → Nat → Nat → Int32) (s a v t ld ob : Nat → Int32) (E : Nat → Int64) (hg : 50 ≤ g ∧ g ≤ 500) (hl : 0 ≤ l ∧ l ≤ g) (hme : 1 ≤ e ∧ e ≤ 99) (hh : 0 ≤ w ∧ w ≤ 4) (hp : ¬ s 17 = 0) : z_Mt xs L m_X5_rate [aR 0 32, aI (1 : Int32), aI g, aI l, aI e, aI w] (C, dm s a v t ld ob, E) (.inl (some (aI 0))) (C, dm s a v t ld (upd ob 0 2), E) 0 := by
  refine z_Ev_blk 1 (c' := (1, [some (aR 0 32), some (aI (1 : Int32)), some (aI g), some (aI l), some (aI e), some (aI w), none], [aI (1 : Int32)], (C, dm s a v t ld ob, E))) rfl trivial ?_
  refine z_Ev_call0 (m' := m_X5_isSet) (as := [aI (1 : Int32)]) (r := []) ((by have q := e_mSet (xs := xs) (L := L) (1 : Int32) C (dm s a v t ld ob) E; rw [f_b_t (by decide)] at q; exact q)) rfl rfl ?_
  refine z_Ev_blk 1 (c' := ((if (1 : Int32) = 0 then 53 else 7), [some (aR 0 32), some (aI (1 : Int32)), some (aI g), some (aI l), some (aI e), some (aI w), none], [], (C, dm s a v t ld ob, E))) rfl trivial ?_
  refine z_Ev_else (by decide) ?_
  refine z_Ev_blk 3 (c' := (13, [some (aR 0 32), some (aI (1 : Int32)), some (aI g), some (aI l), some (aI e), some (aI w), none], [aI (500 : Int32), aI (50 : Int32), aI g], (C, dm s a v t ld ob, E))) rfl trivial ?_
  refine z_Ev_call0 (m' := m_X5_in) (as := [aI g, aI (50 : Int32), aI (500 : Int32)]) (r := []) ((by have q := e_in (xs := xs) (L := L) g (50 : Int32) (500 : Int32) C (dm s a v t ld ob) E; rw [f_b_t (hg)] at q; exact q)) rfl rfl ?_
  refine z_Ev_blk 1 (c' := ((if (1 : Int32) = 0 then 53 else 19), [some (aR 0 32), some (aI (1 : Int32)), some (aI g), some (aI l), some (aI e), some (aI w), none], [], (C, dm s a v t ld ob, E))) rfl trivial ?_
  refine z_Ev_else (by decide) ?_
  refine z_Ev_blk 3 (c' := (22, [some (aR 0 32), some (aI (1 : Int32)), some (aI g), some (aI l), some (aI e), some (aI w), none], [aI g, aI (0 : Int32), aI l], (C, dm s a v t ld ob, E))) rfl trivial ?_
  refine z_Ev_call0 (m' := m_X5_in) (as := [aI l, aI (0 : Int32), aI g]) (r := []) ((by have q := e_in (xs := xs) (L := L) l (0 : Int32) g C (dm s a v t ld ob) E; rw [f_b_t (hl)] at q; exact q)) rfl rfl ?_
  refine z_Ev_blk 1 (c' := ((if (1 : Int32) = 0 then 53 else 28), [some (aR 0 32), some (aI (1 : Int32)), some (aI g), some (aI l), some (aI e), some (aI w), none], [], (C, dm s a v t ld ob, E))) rfl trivial ?_
  refine z_Ev_else (by decide) ?_
  refine z_Ev_blk 3 (c' := (33, [some (aR 0 32), some (aI (1 : Int32)), some (aI g), some (aI l), some (aI e), some (aI w), none], [aI (99 : Int32), aI (1 : Int32), aI e], (C, dm s a v t ld ob, E))) rfl trivial ?_
  refine z_Ev_call0 (m' := m_X5_in) (as := [aI e, aI (1 : Int32), aI (99 : Int32)]) (r := []) ((by have q := e_in (xs := xs) (L := L) e (1 : Int32) (99 : Int32) C (dm s a v t ld ob) E; rw [f_b_t (hme)] at q; exact q)) rfl rfl ?_
  refine z_Ev_blk 1 (c' := ((if (1 : Int32) = 0 then 53 else 39), [some (aR 0 32), some (aI (1 : Int32)), some (aI g), some (aI l), some (aI e), some (aI w), none], [], (C, dm s a v t ld ob, E))) rfl trivial ?_
  refine z_Ev_else (by decide) ?_
  refine z_Ev_blk 3 (c' := (43, [some (aR 0 32), some (aI (1 : Int32)), some (aI g), some (aI l), some (aI e), some (aI w), none], [aI (4 : Int32), aI (0 : Int32), aI w], (C, dm s a v t ld ob, E))) rfl trivial ?_
  refine z_Ev_call0 (m' := m_X5_in) (as := [aI w, aI (0 : Int32), aI (4 : Int32)]) (r := []) ((by have q := e_in (xs := xs) (L := L) w (0 : Int32) (4 : Int32) C (dm s a v t ld ob) E; rw [f_b_t (hh)] at q; exact q)) rfl rfl ?_
  refine z_Ev_blk 1 (c' := ((if (1 : Int32) = 0 then 53 else 49), [some (aR 0 32), some (aI (1 : Int32)), some (aI g), some (aI l), some (aI e), some (aI w), none], [], (C, dm s a v t ld ob, E))) rfl trivial ?_
  refine z_Ev_else (by decide) ?_
  refine z_Ev_blk 6 (c' := ((if (1 : Int32) = 0 then 62 else 66), [some (aR 0 32), some (aI (1 : Int32)), some (aI g), some (aI l), some (aI e), some (aI w), some (aI (1 : Int32))], [aR 0 32], (C, dm s a v t ld ob, E))) rfl trivial ?_
  refine z_Ev_else (by decide) ?_
  refine z_Ev_blk 7 (c' := ((if (s 17) = 0 then 82 else 78), [some (aR 0 32), some (aI (1 : Int32)), some (aI g), some (aI l), some (aI e), some (aI w), some (aI (1 : Int32))], [aR 0 32], (C, dm s a v t ld ob, E))) rfl ⟨rfl, trivial⟩ ?_
  refine z_Ev_else (hp) ?_
  refine z_Ev_blk 2 (c' := (83, [some (aR 0 32), some (aI (1 : Int32)), some (aI g), some (aI l), some (aI e), some (aI w), some (aI (1 : Int32))], [aI (2 : Int32), aR 0 32], (C, dm s a v t ld ob, E))) rfl trivial ?_
  refine z_Ev_call0 (m' := m_X5_holds) (as := [aR 0 32, aI (2 : Int32)]) (r := []) ((by have q := m_holds (xs := xs) (L := L) (2 : Int32) C s a v t ld ob E; rw [f_b_f (by decide)] at q; exact q)) rfl rfl ?_
  refine z_Ev_blk 1 (c' := ((if (0 : Int32) = 0 then 89 else 91), [some (aR 0 32), some (aI (1 : Int32)), some (aI g), some (aI l), some (aI e), some (aI w), some (aI (1 : Int32))], [], (C, dm s a v t ld (upd ob 0 (2 : Int32)), E))) rfl trivial ?_
  refine z_Ev_if (by decide) ?_
  refine z_Ev_blk 1 (c' := (90, [some (aR 0 32), some (aI (1 : Int32)), some (aI g), some (aI l), some (aI e), some (aI w), some (aI (1 : Int32))], [aI (0 : Int32)], (C, dm s a v t ld (upd ob 0 (2 : Int32)), E))) rfl trivial ?_
  exact z_Ev_iretE rfl rfl (by rfl) (by rfl)
theorem u_start_1 {xs : Nat → Int32} {L : Nat}  (C : Nat → Nat → Nat → Int32) (s a v t ld ob : Nat → Int32) (E : Nat → Int64) (hp : s 17 = 0) (m : Nat) (h4 : ob 4 = nI m) (hm : m ≤ 6)  : z_Mt xs L m_X5_start [aR 0 32, aI (1 : Int32)] (C, dm s a v t ld ob, E) (.inl (some (aI (s 13)))) (C, dm (bgF s 1) a (mvV v s m) t ld (upd (upd ob 0 0) 4 (nI (svm m + 1))), E) 0 := by
  refine z_Ev_blk 3 (c' := (3, [some (aR 0 32), some (aI (1 : Int32))], [aI (1 : Int32), aR 0 32, aR 0 32], (C, dm s a v t ld ob, E))) rfl trivial ?_
  refine z_Ev_call0 (m' := m_X5_startFault) (as := [aR 0 32, aI (1 : Int32)]) (r := [aR 0 32]) ((by have q := m_startFault_1 (xs := xs) (L := L) C s a v t ld ob E; rw [if_pos hp] at q; exact q)) rfl rfl ?_
  refine z_Ev_call0 (m' := m_X5_holds) (as := [aR 0 32, aI (0 : Int32)]) (r := []) ((by have q := m_holds (xs := xs) (L := L) (0 : Int32) C s a v t ld ob E; rw [f_b_t rfl] at q; exact q)) rfl rfl ?_
  refine z_Ev_blk 1 (c' := ((if (1 : Int32) = 0 then 12 else 14), [some (aR 0 32), some (aI (1 : Int32))], [], (C, dm s a v t ld (upd ob 0 (0 : Int32)), E))) rfl trivial ?_
  refine z_Ev_else (by decide) ?_
  refine z_Ev_blk 1 (c' := (15, [some (aR 0 32), some (aI (1 : Int32))], [aR 0 32], (C, dm s a v t ld (upd ob 0 (0 : Int32)), E))) rfl trivial ?_
  refine z_Ev_call0 (m' := m_X5_save) (as := [aR 0 32]) (r := []) (n_save m C s a v t ld (upd ob 0 (0 : Int32)) E h4 hm) rfl rfl ?_
  refine z_Ev_blk 2 (c' := (20, [some (aR 0 32), some (aI (1 : Int32))], [aI (1 : Int32), aR 0 32], (C, dm s a (mvV v s m) t ld (upd (upd ob 0 (0 : Int32)) 4 (nI (svm m + 1))), E))) rfl trivial ?_
  refine z_Ev_call0 (m' := m_X5_starts) (as := [aR 0 32, aI (1 : Int32)]) (r := []) (m_starts_1 C s a (mvV v s m) t ld (upd (upd ob 0 (0 : Int32)) 4 (nI (svm m + 1))) E) rfl rfl ?_
  exact z_Ev_iretE rfl rfl (by rfl) (by rfl)
theorem u_startS_1 {xs : Nat → Int32} {L : Nat}  (C : Nat → Nat → Nat → Int32) (s a v t ld ob : Nat → Int32) (E : Nat → Int64) (hp : ¬ s 17 = 0)  : z_Mt xs L m_X5_start [aR 0 32, aI (1 : Int32)] (C, dm s a v t ld ob, E) (.inl (some (aI 0))) (C, dm s a v t ld (upd ob 0 2), E) 0 := by
  refine z_Ev_blk 3 (c' := (3, [some (aR 0 32), some (aI (1 : Int32))], [aI (1 : Int32), aR 0 32, aR 0 32], (C, dm s a v t ld ob, E))) rfl trivial ?_
  refine z_Ev_call0 (m' := m_X5_startFault) (as := [aR 0 32, aI (1 : Int32)]) (r := [aR 0 32]) ((by have q := m_startFault_1 (xs := xs) (L := L) C s a v t ld ob E; rw [if_neg hp] at q; exact q)) rfl rfl ?_
  refine z_Ev_call0 (m' := m_X5_holds) (as := [aR 0 32, aI (2 : Int32)]) (r := []) ((by have q := m_holds (xs := xs) (L := L) (2 : Int32) C s a v t ld ob E; rw [f_b_f (by decide)] at q; exact q)) rfl rfl ?_
  refine z_Ev_blk 1 (c' := ((if (0 : Int32) = 0 then 12 else 14), [some (aR 0 32), some (aI (1 : Int32))], [], (C, dm s a v t ld (upd ob 0 (2 : Int32)), E))) rfl trivial ?_
  refine z_Ev_if (by decide) ?_
  refine z_Ev_blk 1 (c' := (13, [some (aR 0 32), some (aI (1 : Int32))], [aI (0 : Int32)], (C, dm s a v t ld (upd ob 0 (2 : Int32)), E))) rfl trivial ?_
  exact z_Ev_iretE rfl rfl (by rfl) (by rfl)
theorem u_stop_1 {xs : Nat → Int32} {L : Nat}  (C : Nat → Nat → Nat → Int32) (s a v t ld ob : Nat → Int32) (E : Nat → Int64) (hp : (s 17 = 1 ∨ s 17 = 2)) (m : Nat) (h4 : ob 4 = nI m) (hm : m ≤ 6)  : z_Mt xs L m_X5_stop [aR 0 32, aI (1 : Int32)] (C, dm s a v t ld ob, E) (.inl (some (aI (manF (mkF (fun j => (stF s 1) (16 + j)) 2))))) (C, dm (stF s 1) a (mvV v s m) t ld (upd (upd ob 0 0) 4 (nI (svm m + 1))), E) 0 := by
  refine z_Ev_blk 3 (c' := (3, [some (aR 0 32), some (aI (1 : Int32))], [aI (1 : Int32), aR 0 32, aR 0 32], (C, dm s a v t ld ob, E))) rfl trivial ?_
  refine z_Ev_call0 (m' := m_X5_stopFault) (as := [aR 0 32, aI (1 : Int32)]) (r := [aR 0 32]) ((by have q := m_stopFault_1 (xs := xs) (L := L) C s a v t ld ob E; rw [if_pos (st12.mpr hp)] at q; exact q)) rfl rfl ?_
  refine z_Ev_call0 (m' := m_X5_holds) (as := [aR 0 32, aI (0 : Int32)]) (r := []) ((by have q := m_holds (xs := xs) (L := L) (0 : Int32) C s a v t ld ob E; rw [f_b_t rfl] at q; exact q)) rfl rfl ?_
  refine z_Ev_blk 1 (c' := ((if (1 : Int32) = 0 then 12 else 14), [some (aR 0 32), some (aI (1 : Int32))], [], (C, dm s a v t ld (upd ob 0 (0 : Int32)), E))) rfl trivial ?_
  refine z_Ev_else (by decide) ?_
  refine z_Ev_blk 1 (c' := (15, [some (aR 0 32), some (aI (1 : Int32))], [aR 0 32], (C, dm s a v t ld (upd ob 0 (0 : Int32)), E))) rfl trivial ?_
  refine z_Ev_call0 (m' := m_X5_save) (as := [aR 0 32]) (r := []) (n_save m C s a v t ld (upd ob 0 (0 : Int32)) E h4 hm) rfl rfl ?_
  refine z_Ev_blk 2 (c' := (20, [some (aR 0 32), some (aI (1 : Int32))], [aI (1 : Int32), aR 0 32], (C, dm s a (mvV v s m) t ld (upd (upd ob 0 (0 : Int32)) 4 (nI (svm m + 1))), E))) rfl trivial ?_
  refine z_Ev_call0 (m' := m_X5_stops) (as := [aR 0 32, aI (1 : Int32)]) (r := []) (m_stops_1 C s a (mvV v s m) t ld (upd (upd ob 0 (0 : Int32)) 4 (nI (svm m + 1))) E) rfl rfl ?_
  exact z_Ev_iretE rfl rfl (by rfl) (by rfl)
theorem u_stopS_1 {xs : Nat → Int32} {L : Nat}  (C : Nat → Nat → Nat → Int32) (s a v t ld ob : Nat → Int32) (E : Nat → Int64) (hp : ¬ (s 17 = 1 ∨ s 17 = 2))  : z_Mt xs L m_X5_stop [aR 0 32, aI (1 : Int32)] (C, dm s a v t ld ob, E) (.inl (some (aI 0))) (C, dm s a v t ld (upd ob 0 2), E) 0 := by
  refine z_Ev_blk 3 (c' := (3, [some (aR 0 32), some (aI (1 : Int32))], [aI (1 : Int32), aR 0 32, aR 0 32], (C, dm s a v t ld ob, E))) rfl trivial ?_
  refine z_Ev_call0 (m' := m_X5_stopFault) (as := [aR 0 32, aI (1 : Int32)]) (r := [aR 0 32]) ((by have q := m_stopFault_1 (xs := xs) (L := L) C s a v t ld ob E; rw [if_neg (fun z => hp (st12.mp z))] at q; exact q)) rfl rfl ?_
  refine z_Ev_call0 (m' := m_X5_holds) (as := [aR 0 32, aI (2 : Int32)]) (r := []) ((by have q := m_holds (xs := xs) (L := L) (2 : Int32) C s a v t ld ob E; rw [f_b_f (by decide)] at q; exact q)) rfl rfl ?_
  refine z_Ev_blk 1 (c' := ((if (0 : Int32) = 0 then 12 else 14), [some (aR 0 32), some (aI (1 : Int32))], [], (C, dm s a v t ld (upd ob 0 (2 : Int32)), E))) rfl trivial ?_
  refine z_Ev_if (by decide) ?_
  refine z_Ev_blk 1 (c' := (13, [some (aR 0 32), some (aI (1 : Int32))], [aI (0 : Int32)], (C, dm s a v t ld (upd ob 0 (2 : Int32)), E))) rfl trivial ?_
  exact z_Ev_iretE rfl rfl (by rfl) (by rfl)
theorem u_lose_1 {xs : Nat → Int32} {L : Nat}  (C : Nat → Nat → Nat → Int32) (s a v t ld ob : Nat → Int32) (E : Nat → Int64) (m : Nat) (h4 : ob 4 = nI m) (hm : m ≤ 6)  : z_Mt xs L m_X5_lose [aR 0 32, aI (1 : Int32)] (C, dm s a v t ld ob, E) (.inl (some (aI (if s 17 = 3 then 0 else 1)))) (C, dm (upd (upd s 21 0) 17 (if s 17 = 3 then 0 else 3)) a (mvV v s m) t ld (upd (upd ob 0 0) 4 (nI (svm m + 1))), E) 0 := by
  refine z_Ev_blk 2 (c' := (2, [some (aR 0 32), some (aI (1 : Int32))], [aI (1 : Int32), aR 0 32], (C, dm s a v t ld ob, E))) rfl trivial ?_
  refine z_Ev_call0 (m' := m_X5_isSet) (as := [aI (1 : Int32)]) (r := [aR 0 32]) ((by have q := e_mSet (xs := xs) (L := L) (1 : Int32) C (dm s a v t ld ob) E; rw [f_b_t (by decide)] at q; exact q)) rfl rfl ?_
  refine z_Ev_blk 1 (c' := ((if (1 : Int32) = 0 then 12 else 8), [some (aR 0 32), some (aI (1 : Int32))], [aR 0 32], (C, dm s a v t ld ob, E))) rfl trivial ?_
  refine z_Ev_else (by decide) ?_
  refine z_Ev_blk 2 (c' := (13, [some (aR 0 32), some (aI (1 : Int32))], [aI (0 : Int32), aR 0 32], (C, dm s a v t ld ob, E))) rfl trivial ?_
  refine z_Ev_call0 (m' := m_X5_holds) (as := [aR 0 32, aI (0 : Int32)]) (r := []) ((by have q := m_holds (xs := xs) (L := L) (0 : Int32) C s a v t ld ob E; rw [f_b_t rfl] at q; exact q)) rfl rfl ?_
  refine z_Ev_blk 1 (c' := ((if (1 : Int32) = 0 then 19 else 21), [some (aR 0 32), some (aI (1 : Int32))], [], (C, dm s a v t ld (upd ob 0 (0 : Int32)), E))) rfl trivial ?_
  refine z_Ev_else (by decide) ?_
  refine z_Ev_blk 1 (c' := (22, [some (aR 0 32), some (aI (1 : Int32))], [aR 0 32], (C, dm s a v t ld (upd ob 0 (0 : Int32)), E))) rfl trivial ?_
  refine z_Ev_call0 (m' := m_X5_save) (as := [aR 0 32]) (r := []) (n_save m C s a v t ld (upd ob 0 (0 : Int32)) E h4 hm) rfl rfl ?_
  refine z_Ev_blk 7 (c' := (35, [some (aR 0 32), some (aI (1 : Int32))], [], (C, up2 (dm s a (mvV v s m) t ld (upd (upd ob 0 (0 : Int32)) 4 (nI (svm m + 1)))) 33 21 (0 : Int32), E))) rfl ⟨rfl, trivial⟩ ?_
  rw [dm_33]
  refine z_Ev_blk 13 (c' := ((if (s 17) = (3 : Int32) then 56 else 60), [some (aR 0 32), some (aI (1 : Int32))], [aI (17 : Int32), aR 0 33], (C, dm (upd s 21 (0 : Int32)) a (mvV v s m) t ld (upd (upd ob 0 (0 : Int32)) 4 (nI (svm m + 1))), E))) rfl ⟨rfl, trivial⟩ ?_
  refine z_Ev_ite (fun h1 => ?_) (fun h1 => ?_)
  · skip
    refine z_Ev_blk 3 (c' := (62, [some (aR 0 32), some (aI (1 : Int32))], [], (C, up2 (dm (upd s 21 (0 : Int32)) a (mvV v s m) t ld (upd (upd ob 0 (0 : Int32)) 4 (nI (svm m + 1)))) 33 17 (0 : Int32), E))) rfl ⟨rfl, trivial⟩ ?_
    rw [dm_33]
    refine z_Ev_blk 8 (c' := ((if (0 : Int32) = (3 : Int32) then 75 else 79), [some (aR 0 32), some (aI (1 : Int32))], [], (C, dm (upd (upd s 21 (0 : Int32)) 17 (0 : Int32)) a (mvV v s m) t ld (upd (upd ob 0 (0 : Int32)) 4 (nI (svm m + 1))), E))) rfl ⟨rfl, trivial⟩ ?_
    refine z_Ev_else (by decide) ?_
    refine z_Ev_blk 1 (c' := (80, [some (aR 0 32), some (aI (1 : Int32))], [aI (0 : Int32)], (C, dm (upd (upd s 21 (0 : Int32)) 17 (0 : Int32)) a (mvV v s m) t ld (upd (upd ob 0 (0 : Int32)) 4 (nI (svm m + 1))), E))) rfl trivial ?_
    exact z_Ev_iretE rfl rfl (by first | rfl | simp [*]) (by first | rfl | simp [*])
  · skip
    refine z_Ev_blk 2 (c' := (62, [some (aR 0 32), some (aI (1 : Int32))], [], (C, up2 (dm (upd s 21 (0 : Int32)) a (mvV v s m) t ld (upd (upd ob 0 (0 : Int32)) 4 (nI (svm m + 1)))) 33 17 (3 : Int32), E))) rfl ⟨rfl, trivial⟩ ?_
    rw [dm_33]
    refine z_Ev_blk 8 (c' := ((if (3 : Int32) = (3 : Int32) then 75 else 79), [some (aR 0 32), some (aI (1 : Int32))], [], (C, dm (upd (upd s 21 (0 : Int32)) 17 (3 : Int32)) a (mvV v s m) t ld (upd (upd ob 0 (0 : Int32)) 4 (nI (svm m + 1))), E))) rfl ⟨rfl, trivial⟩ ?_
    refine z_Ev_if (by decide) ?_
    refine z_Ev_blk 2 (c' := (80, [some (aR 0 32), some (aI (1 : Int32))], [aI (1 : Int32)], (C, dm (upd (upd s 21 (0 : Int32)) 17 (3 : Int32)) a (mvV v s m) t ld (upd (upd ob 0 (0 : Int32)) 4 (nI (svm m + 1))), E))) rfl trivial ?_
    exact z_Ev_iretE rfl rfl (by first | rfl | simp [*]) (by first | rfl | simp [*])
theorem u_rate_2 {xs : Nat → Int32} {L : Nat} (g l e w : Int32) (C : Nat → Nat → Nat → Int32) (s a v t ld ob : Nat → Int32) (E : Nat → Int64) (hg : 50 ≤ g ∧ g ≤ 500) (hl : 0 ≤ l ∧ l ≤ g) (hme : 1 ≤ e ∧ e ≤ 99) (hh : 0 ≤ w ∧ w ≤ 4) (hp : s 18 = 0) (m : Nat) (h4 : ob 4 = nI m) (hm : m ≤ 6)  : z_Mt xs L m_X5_rate [aR 0 32, aI (2 : Int32), aI g, aI l, aI e, aI w] (C, dm s a v t ld ob, E) (.inl (some (aI (s 2)))) (C, dm (upd (upd (upd (upd s 6 l) 10 e) 14 w) 2 g) a (mvV v s m) t ld (upd (upd ob 0 0) 4 (nI (svm m + 1))), E) 0 := by
  refine z_Ev_blk 1 (c' := (1, [some (aR 0 32), some (aI (2 : Int32)), some (aI g), some (aI l), some (aI e), some (aI w), none], [aI (2 : Int32)], (C, dm s a v t ld ob, E))) rfl trivial ?_
  refine z_Ev_call0 (m' := m_X5_isSet) (as := [aI (2 : Int32)]) (r := []) ((by have q := e_mSet (xs := xs) (L := L) (2 : Int32) C (dm s a v t ld ob) E; rw [f_b_t (by decide)] at q; exact q)) rfl rfl ?_
  refine z_Ev_blk 1 (c' := ((if (1 : Int32) = 0 then 53 else 7), [some (aR 0 32), some (aI (2 : Int32)), some (aI g), some (aI l), some (aI e), some (aI w), none], [], (C, dm s a v t ld ob, E))) rfl trivial ?_
  refine z_Ev_else (by decide) ?_
  refine z_Ev_blk 3 (c' := (13, [some (aR 0 32), some (aI (2 : Int32)), some (aI g), some (aI l), some (aI e), some (aI w), none], [aI (500 : Int32), aI (50 : Int32), aI g], (C, dm s a v t ld ob, E))) rfl trivial ?_
  refine z_Ev_call0 (m' := m_X5_in) (as := [aI g, aI (50 : Int32), aI (500 : Int32)]) (r := []) ((by have q := e_in (xs := xs) (L := L) g (50 : Int32) (500 : Int32) C (dm s a v t ld ob) E; rw [f_b_t (hg)] at q; exact q)) rfl rfl ?_
  refine z_Ev_blk 1 (c' := ((if (1 : Int32) = 0 then 53 else 19), [some (aR 0 32), some (aI (2 : Int32)), some (aI g), some (aI l), some (aI e), some (aI w), none], [], (C, dm s a v t ld ob, E))) rfl trivial ?_
  refine z_Ev_else (by decide) ?_
  refine z_Ev_blk 3 (c' := (22, [some (aR 0 32), some (aI (2 : Int32)), some (aI g), some (aI l), some (aI e), some (aI w), none], [aI g, aI (0 : Int32), aI l], (C, dm s a v t ld ob, E))) rfl trivial ?_
  refine z_Ev_call0 (m' := m_X5_in) (as := [aI l, aI (0 : Int32), aI g]) (r := []) ((by have q := e_in (xs := xs) (L := L) l (0 : Int32) g C (dm s a v t ld ob) E; rw [f_b_t (hl)] at q; exact q)) rfl rfl ?_
  refine z_Ev_blk 1 (c' := ((if (1 : Int32) = 0 then 53 else 28), [some (aR 0 32), some (aI (2 : Int32)), some (aI g), some (aI l), some (aI e), some (aI w), none], [], (C, dm s a v t ld ob, E))) rfl trivial ?_
  refine z_Ev_else (by decide) ?_
  refine z_Ev_blk 3 (c' := (33, [some (aR 0 32), some (aI (2 : Int32)), some (aI g), some (aI l), some (aI e), some (aI w), none], [aI (99 : Int32), aI (1 : Int32), aI e], (C, dm s a v t ld ob, E))) rfl trivial ?_
  refine z_Ev_call0 (m' := m_X5_in) (as := [aI e, aI (1 : Int32), aI (99 : Int32)]) (r := []) ((by have q := e_in (xs := xs) (L := L) e (1 : Int32) (99 : Int32) C (dm s a v t ld ob) E; rw [f_b_t (hme)] at q; exact q)) rfl rfl ?_
  refine z_Ev_blk 1 (c' := ((if (1 : Int32) = 0 then 53 else 39), [some (aR 0 32), some (aI (2 : Int32)), some (aI g), some (aI l), some (aI e), some (aI w), none], [], (C, dm s a v t ld ob, E))) rfl trivial ?_
  refine z_Ev_else (by decide) ?_
  refine z_Ev_blk 3 (c' := (43, [some (aR 0 32), some (aI (2 : Int32)), some (aI g), some (aI l), some (aI e), some (aI w), none], [aI (4 : Int32), aI (0 : Int32), aI w], (C, dm s a v t ld ob, E))) rfl trivial ?_
  refine z_Ev_call0 (m' := m_X5_in) (as := [aI w, aI (0 : Int32), aI (4 : Int32)]) (r := []) ((by have q := e_in (xs := xs) (L := L) w (0 : Int32) (4 : Int32) C (dm s a v t ld ob) E; rw [f_b_t (hh)] at q; exact q)) rfl rfl ?_
  refine z_Ev_blk 1 (c' := ((if (1 : Int32) = 0 then 53 else 49), [some (aR 0 32), some (aI (2 : Int32)), some (aI g), some (aI l), some (aI e), some (aI w), none], [], (C, dm s a v t ld ob, E))) rfl trivial ?_
  refine z_Ev_else (by decide) ?_
  refine z_Ev_blk 6 (c' := ((if (1 : Int32) = 0 then 62 else 66), [some (aR 0 32), some (aI (2 : Int32)), some (aI g), some (aI l), some (aI e), some (aI w), some (aI (1 : Int32))], [aR 0 32], (C, dm s a v t ld ob, E))) rfl trivial ?_
  refine z_Ev_else (by decide) ?_
  refine z_Ev_blk 7 (c' := ((if (s 18) = 0 then 82 else 78), [some (aR 0 32), some (aI (2 : Int32)), some (aI g), some (aI l), some (aI e), some (aI w), some (aI (1 : Int32))], [aR 0 32], (C, dm s a v t ld ob, E))) rfl ⟨rfl, trivial⟩ ?_
  refine z_Ev_if (hp) ?_
  refine z_Ev_blk 1 (c' := (83, [some (aR 0 32), some (aI (2 : Int32)), some (aI g), some (aI l), some (aI e), some (aI w), some (aI (1 : Int32))], [aI (0 : Int32), aR 0 32], (C, dm s a v t ld ob, E))) rfl trivial ?_
  refine z_Ev_call0 (m' := m_X5_holds) (as := [aR 0 32, aI (0 : Int32)]) (r := []) ((by have q := m_holds (xs := xs) (L := L) (0 : Int32) C s a v t ld ob E; rw [f_b_t rfl] at q; exact q)) rfl rfl ?_
  refine z_Ev_blk 1 (c' := ((if (1 : Int32) = 0 then 89 else 91), [some (aR 0 32), some (aI (2 : Int32)), some (aI g), some (aI l), some (aI e), some (aI w), some (aI (1 : Int32))], [], (C, dm s a v t ld (upd ob 0 (0 : Int32)), E))) rfl trivial ?_
  refine z_Ev_else (by decide) ?_
  refine z_Ev_blk 1 (c' := (92, [some (aR 0 32), some (aI (2 : Int32)), some (aI g), some (aI l), some (aI e), some (aI w), some (aI (1 : Int32))], [aR 0 32], (C, dm s a v t ld (upd ob 0 (0 : Int32)), E))) rfl trivial ?_
  refine z_Ev_call0 (m' := m_X5_save) (as := [aR 0 32]) (r := []) (n_save m C s a v t ld (upd ob 0 (0 : Int32)) E h4 hm) rfl rfl ?_
  refine z_Ev_blk 7 (c' := (104, [some (aR 0 32), some (aI (2 : Int32)), some (aI g), some (aI l), some (aI e), some (aI w), some (aI (1 : Int32))], [], (C, up2 (dm s a (mvV v s m) t ld (upd (upd ob 0 (0 : Int32)) 4 (nI (svm m + 1)))) 33 6 l, E))) rfl ⟨rfl, trivial⟩ ?_
  rw [dm_33]
  refine z_Ev_blk 7 (c' := (115, [some (aR 0 32), some (aI (2 : Int32)), some (aI g), some (aI l), some (aI e), some (aI w), some (aI (1 : Int32))], [], (C, up2 (dm (upd s 6 l) a (mvV v s m) t ld (upd (upd ob 0 (0 : Int32)) 4 (nI (svm m + 1)))) 33 10 e, E))) rfl ⟨rfl, trivial⟩ ?_
  rw [dm_33]
  refine z_Ev_blk 7 (c' := (126, [some (aR 0 32), some (aI (2 : Int32)), some (aI g), some (aI l), some (aI e), some (aI w), some (aI (1 : Int32))], [], (C, up2 (dm (upd (upd s 6 l) 10 e) a (mvV v s m) t ld (upd (upd ob 0 (0 : Int32)) 4 (nI (svm m + 1)))) 33 14 w, E))) rfl ⟨rfl, trivial⟩ ?_
  rw [dm_33]
  refine z_Ev_blk 5 (c' := (131, [some (aR 0 32), some (aI (2 : Int32)), some (aI g), some (aI l), some (aI e), some (aI w), some (aI (1 : Int32))], [aI g, aI (2 : Int32), aR 0 32], (C, dm (upd (upd (upd s 6 l) 10 e) 14 w) a (mvV v s m) t ld (upd (upd ob 0 (0 : Int32)) 4 (nI (svm m + 1))), E))) rfl trivial ?_
  refine z_Ev_call0 (m' := m_X5_puts) (as := [aR 0 32, aI (2 : Int32), aI g]) (r := []) (m_puts (2 : Int32) g C (upd (upd (upd s 6 l) 10 e) 14 w) a (mvV v s m) t ld (upd (upd ob 0 (0 : Int32)) 4 (nI (svm m + 1))) E rfl) rfl rfl ?_
  exact z_Ev_iretE rfl rfl (by rfl) (by rfl)
theorem u_rateS_2 {xs : Nat → Int32} {L : Nat} (g l e w : Int32) (C : Nat → Nat → Nat → Int32) (s a v t ld ob : Nat → Int32) (E : Nat → Int64) (hg : 50 ≤ g ∧ g ≤ 500) (hl : 0 ≤ l ∧ l ≤ g) (hme : 1 ≤ e ∧ e ≤ 99) (hh : 0 ≤ w ∧ w ≤ 4) (hp : ¬ s 18 = 0) : z_Mt xs L m_X5_rate [aR 0 32, aI (2 : Int32), aI g, aI l, aI e, aI w] (C, dm s a v t ld ob, E) (.inl (some (aI 0))) (C, dm s a v t ld (upd ob 0 2), E) 0 := by
  refine z_Ev_blk 1 (c' := (1, [some (aR 0 32), some (aI (2 : Int32)), some (aI g), some (aI l), some (aI e), some (aI w), none], [aI (2 : Int32)], (C, dm s a v t ld ob, E))) rfl trivial ?_
  refine z_Ev_call0 (m' := m_X5_isSet) (as := [aI (2 : Int32)]) (r := []) ((by have q := e_mSet (xs := xs) (L := L) (2 : Int32) C (dm s a v t ld ob) E; rw [f_b_t (by decide)] at q; exact q)) rfl rfl ?_
  refine z_Ev_blk 1 (c' := ((if (1 : Int32) = 0 then 53 else 7), [some (aR 0 32), some (aI (2 : Int32)), some (aI g), some (aI l), some (aI e), some (aI w), none], [], (C, dm s a v t ld ob, E))) rfl trivial ?_
  refine z_Ev_else (by decide) ?_
  refine z_Ev_blk 3 (c' := (13, [some (aR 0 32), some (aI (2 : Int32)), some (aI g), some (aI l), some (aI e), some (aI w), none], [aI (500 : Int32), aI (50 : Int32), aI g], (C, dm s a v t ld ob, E))) rfl trivial ?_
  refine z_Ev_call0 (m' := m_X5_in) (as := [aI g, aI (50 : Int32), aI (500 : Int32)]) (r := []) ((by have q := e_in (xs := xs) (L := L) g (50 : Int32) (500 : Int32) C (dm s a v t ld ob) E; rw [f_b_t (hg)] at q; exact q)) rfl rfl ?_
  refine z_Ev_blk 1 (c' := ((if (1 : Int32) = 0 then 53 else 19), [some (aR 0 32), some (aI (2 : Int32)), some (aI g), some (aI l), some (aI e), some (aI w), none], [], (C, dm s a v t ld ob, E))) rfl trivial ?_
  refine z_Ev_else (by decide) ?_
  refine z_Ev_blk 3 (c' := (22, [some (aR 0 32), some (aI (2 : Int32)), some (aI g), some (aI l), some (aI e), some (aI w), none], [aI g, aI (0 : Int32), aI l], (C, dm s a v t ld ob, E))) rfl trivial ?_
  refine z_Ev_call0 (m' := m_X5_in) (as := [aI l, aI (0 : Int32), aI g]) (r := []) ((by have q := e_in (xs := xs) (L := L) l (0 : Int32) g C (dm s a v t ld ob) E; rw [f_b_t (hl)] at q; exact q)) rfl rfl ?_
  refine z_Ev_blk 1 (c' := ((if (1 : Int32) = 0 then 53 else 28), [some (aR 0 32), some (aI (2 : Int32)), some (aI g), some (aI l), some (aI e), some (aI w), none], [], (C, dm s a v t ld ob, E))) rfl trivial ?_
  refine z_Ev_else (by decide) ?_
  refine z_Ev_blk 3 (c' := (33, [some (aR 0 32), some (aI (2 : Int32)), some (aI g), some (aI l), some (aI e), some (aI w), none], [aI (99 : Int32), aI (1 : Int32), aI e], (C, dm s a v t ld ob, E))) rfl trivial ?_
  refine z_Ev_call0 (m' := m_X5_in) (as := [aI e, aI (1 : Int32), aI (99 : Int32)]) (r := []) ((by have q := e_in (xs := xs) (L := L) e (1 : Int32) (99 : Int32) C (dm s a v t ld ob) E; rw [f_b_t (hme)] at q; exact q)) rfl rfl ?_
  refine z_Ev_blk 1 (c' := ((if (1 : Int32) = 0 then 53 else 39), [some (aR 0 32), some (aI (2 : Int32)), some (aI g), some (aI l), some (aI e), some (aI w), none], [], (C, dm s a v t ld ob, E))) rfl trivial ?_
  refine z_Ev_else (by decide) ?_
  refine z_Ev_blk 3 (c' := (43, [some (aR 0 32), some (aI (2 : Int32)), some (aI g), some (aI l), some (aI e), some (aI w), none], [aI (4 : Int32), aI (0 : Int32), aI w], (C, dm s a v t ld ob, E))) rfl trivial ?_
  refine z_Ev_call0 (m' := m_X5_in) (as := [aI w, aI (0 : Int32), aI (4 : Int32)]) (r := []) ((by have q := e_in (xs := xs) (L := L) w (0 : Int32) (4 : Int32) C (dm s a v t ld ob) E; rw [f_b_t (hh)] at q; exact q)) rfl rfl ?_
  refine z_Ev_blk 1 (c' := ((if (1 : Int32) = 0 then 53 else 49), [some (aR 0 32), some (aI (2 : Int32)), some (aI g), some (aI l), some (aI e), some (aI w), none], [], (C, dm s a v t ld ob, E))) rfl trivial ?_
  refine z_Ev_else (by decide) ?_
  refine z_Ev_blk 6 (c' := ((if (1 : Int32) = 0 then 62 else 66), [some (aR 0 32), some (aI (2 : Int32)), some (aI g), some (aI l), some (aI e), some (aI w), some (aI (1 : Int32))], [aR 0 32], (C, dm s a v t ld ob, E))) rfl trivial ?_
  refine z_Ev_else (by decide) ?_
  refine z_Ev_blk 7 (c' := ((if (s 18) = 0 then 82 else 78), [some (aR 0 32), some (aI (2 : Int32)), some (aI g), some (aI l), some (aI e), some (aI w), some (aI (1 : Int32))], [aR 0 32], (C, dm s a v t ld ob, E))) rfl ⟨rfl, trivial⟩ ?_
  refine z_Ev_else (hp) ?_
  refine z_Ev_blk 2 (c' := (83, [some (aR 0 32), some (aI (2 : Int32)), some (aI g), some (aI l), some (aI e), some (aI w), some (aI (1 : Int32))], [aI (2 : Int32), aR 0 32], (C, dm s a v t ld ob, E))) rfl trivial ?_
  refine z_Ev_call0 (m' := m_X5_holds) (as := [aR 0 32, aI (2 : Int32)]) (r := []) ((by have q := m_holds (xs := xs) (L := L) (2 : Int32) C s a v t ld ob E; rw [f_b_f (by decide)] at q; exact q)) rfl rfl ?_
  refine z_Ev_blk 1 (c' := ((if (0 : Int32) = 0 then 89 else 91), [some (aR 0 32), some (aI (2 : Int32)), some (aI g), some (aI l), some (aI e), some (aI w), some (aI (1 : Int32))], [], (C, dm s a v t ld (upd ob 0 (2 : Int32)), E))) rfl trivial ?_
  refine z_Ev_if (by decide) ?_
  refine z_Ev_blk 1 (c' := (90, [some (aR 0 32), some (aI (2 : Int32)), some (aI g), some (aI l), some (aI e), some (aI w), some (aI (1 : Int32))], [aI (0 : Int32)], (C, dm s a v t ld (upd ob 0 (2 : Int32)), E))) rfl trivial ?_
  exact z_Ev_iretE rfl rfl (by rfl) (by rfl)
theorem u_start_2 {xs : Nat → Int32} {L : Nat}  (C : Nat → Nat → Nat → Int32) (s a v t ld ob : Nat → Int32) (E : Nat → Int64) (hp : s 18 = 0) (m : Nat) (h4 : ob 4 = nI m) (hm : m ≤ 6)  : z_Mt xs L m_X5_start [aR 0 32, aI (2 : Int32)] (C, dm s a v t ld ob, E) (.inl (some (aI (s 14)))) (C, dm (bgF s 2) a (mvV v s m) t ld (upd (upd ob 0 0) 4 (nI (svm m + 1))), E) 0 := by
  refine z_Ev_blk 3 (c' := (3, [some (aR 0 32), some (aI (2 : Int32))], [aI (2 : Int32), aR 0 32, aR 0 32], (C, dm s a v t ld ob, E))) rfl trivial ?_
  refine z_Ev_call0 (m' := m_X5_startFault) (as := [aR 0 32, aI (2 : Int32)]) (r := [aR 0 32]) ((by have q := m_startFault_2 (xs := xs) (L := L) C s a v t ld ob E; rw [if_pos hp] at q; exact q)) rfl rfl ?_
  refine z_Ev_call0 (m' := m_X5_holds) (as := [aR 0 32, aI (0 : Int32)]) (r := []) ((by have q := m_holds (xs := xs) (L := L) (0 : Int32) C s a v t ld ob E; rw [f_b_t rfl] at q; exact q)) rfl rfl ?_
  refine z_Ev_blk 1 (c' := ((if (1 : Int32) = 0 then 12 else 14), [some (aR 0 32), some (aI (2 : Int32))], [], (C, dm s a v t ld (upd ob 0 (0 : Int32)), E))) rfl trivial ?_
  refine z_Ev_else (by decide) ?_
  refine z_Ev_blk 1 (c' := (15, [some (aR 0 32), some (aI (2 : Int32))], [aR 0 32], (C, dm s a v t ld (upd ob 0 (0 : Int32)), E))) rfl trivial ?_
  refine z_Ev_call0 (m' := m_X5_save) (as := [aR 0 32]) (r := []) (n_save m C s a v t ld (upd ob 0 (0 : Int32)) E h4 hm) rfl rfl ?_
  refine z_Ev_blk 2 (c' := (20, [some (aR 0 32), some (aI (2 : Int32))], [aI (2 : Int32), aR 0 32], (C, dm s a (mvV v s m) t ld (upd (upd ob 0 (0 : Int32)) 4 (nI (svm m + 1))), E))) rfl trivial ?_
  refine z_Ev_call0 (m' := m_X5_starts) (as := [aR 0 32, aI (2 : Int32)]) (r := []) (m_starts_2 C s a (mvV v s m) t ld (upd (upd ob 0 (0 : Int32)) 4 (nI (svm m + 1))) E) rfl rfl ?_
  exact z_Ev_iretE rfl rfl (by rfl) (by rfl)
theorem u_startS_2 {xs : Nat → Int32} {L : Nat}  (C : Nat → Nat → Nat → Int32) (s a v t ld ob : Nat → Int32) (E : Nat → Int64) (hp : ¬ s 18 = 0)  : z_Mt xs L m_X5_start [aR 0 32, aI (2 : Int32)] (C, dm s a v t ld ob, E) (.inl (some (aI 0))) (C, dm s a v t ld (upd ob 0 2), E) 0 := by
  refine z_Ev_blk 3 (c' := (3, [some (aR 0 32), some (aI (2 : Int32))], [aI (2 : Int32), aR 0 32, aR 0 32], (C, dm s a v t ld ob, E))) rfl trivial ?_
  refine z_Ev_call0 (m' := m_X5_startFault) (as := [aR 0 32, aI (2 : Int32)]) (r := [aR 0 32]) ((by have q := m_startFault_2 (xs := xs) (L := L) C s a v t ld ob E; rw [if_neg hp] at q; exact q)) rfl rfl ?_
  refine z_Ev_call0 (m' := m_X5_holds) (as := [aR 0 32, aI (2 : Int32)]) (r := []) ((by have q := m_holds (xs := xs) (L := L) (2 : Int32) C s a v t ld ob E; rw [f_b_f (by decide)] at q; exact q)) rfl rfl ?_
  refine z_Ev_blk 1 (c' := ((if (0 : Int32) = 0 then 12 else 14), [some (aR 0 32), some (aI (2 : Int32))], [], (C, dm s a v t ld (upd ob 0 (2 : Int32)), E))) rfl trivial ?_
  refine z_Ev_if (by decide) ?_
  refine z_Ev_blk 1 (c' := (13, [some (aR 0 32), some (aI (2 : Int32))], [aI (0 : Int32)], (C, dm s a v t ld (upd ob 0 (2 : Int32)), E))) rfl trivial ?_
  exact z_Ev_iretE rfl rfl (by rfl) (by rfl)
theorem u_stop_2 {xs : Nat → Int32} {L : Nat}  (C : Nat → Nat → Nat → Int32) (s a v t ld ob : Nat → Int32) (E : Nat → Int64) (hp : (s 18 = 1 ∨ s 18 = 2)) (m : Nat) (h4 : ob 4 = nI m) (hm : m ≤ 6)  : z_Mt xs L m_X5_stop [aR 0 32, aI (2 : Int32)] (C, dm s a v t ld ob, E) (.inl (some (aI (manF (mkF (fun j => (stF s 2) (16 + j)) 2))))) (C, dm (stF s 2) a (mvV v s m) t ld (upd (upd ob 0 0) 4 (nI (svm m + 1))), E) 0 := by
  refine z_Ev_blk 3 (c' := (3, [some (aR 0 32), some (aI (2 : Int32))], [aI (2 : Int32), aR 0 32, aR 0 32], (C, dm s a v t ld ob, E))) rfl trivial ?_
  refine z_Ev_call0 (m' := m_X5_stopFault) (as := [aR 0 32, aI (2 : Int32)]) (r := [aR 0 32]) ((by have q := m_stopFault_2 (xs := xs) (L := L) C s a v t ld ob E; rw [if_pos (st12.mpr hp)] at q; exact q)) rfl rfl ?_
  refine z_Ev_call0 (m' := m_X5_holds) (as := [aR 0 32, aI (0 : Int32)]) (r := []) ((by have q := m_holds (xs := xs) (L := L) (0 : Int32) C s a v t ld ob E; rw [f_b_t rfl] at q; exact q)) rfl rfl ?_
  refine z_Ev_blk 1 (c' := ((if (1 : Int32) = 0 then 12 else 14), [some (aR 0 32), some (aI (2 : Int32))], [], (C, dm s a v t ld (upd ob 0 (0 : Int32)), E))) rfl trivial ?_
  refine z_Ev_else (by decide) ?_
  refine z_Ev_blk 1 (c' := (15, [some (aR 0 32), some (aI (2 : Int32))], [aR 0 32], (C, dm s a v t ld (upd ob 0 (0 : Int32)), E))) rfl trivial ?_
  refine z_Ev_call0 (m' := m_X5_save) (as := [aR 0 32]) (r := []) (n_save m C s a v t ld (upd ob 0 (0 : Int32)) E h4 hm) rfl rfl ?_
  refine z_Ev_blk 2 (c' := (20, [some (aR 0 32), some (aI (2 : Int32))], [aI (2 : Int32), aR 0 32], (C, dm s a (mvV v s m) t ld (upd (upd ob 0 (0 : Int32)) 4 (nI (svm m + 1))), E))) rfl trivial ?_
  refine z_Ev_call0 (m' := m_X5_stops) (as := [aR 0 32, aI (2 : Int32)]) (r := []) (m_stops_2 C s a (mvV v s m) t ld (upd (upd ob 0 (0 : Int32)) 4 (nI (svm m + 1))) E) rfl rfl ?_
  exact z_Ev_iretE rfl rfl (by rfl) (by rfl)
theorem u_stopS_2 {xs : Nat → Int32} {L : Nat}  (C : Nat → Nat → Nat → Int32) (s a v t ld ob : Nat → Int32) (E : Nat → Int64) (hp : ¬ (s 18 = 1 ∨ s 18 = 2))  : z_Mt xs L m_X5_stop [aR 0 32, aI (2 : Int32)] (C, dm s a v t ld ob, E) (.inl (some (aI 0))) (C, dm s a v t ld (upd ob 0 2), E) 0 := by
  refine z_Ev_blk 3 (c' := (3, [some (aR 0 32), some (aI (2 : Int32))], [aI (2 : Int32), aR 0 32, aR 0 32], (C, dm s a v t ld ob, E))) rfl trivial ?_
  refine z_Ev_call0 (m' := m_X5_stopFault) (as := [aR 0 32, aI (2 : Int32)]) (r := [aR 0 32]) ((by have q := m_stopFault_2 (xs := xs) (L := L) C s a v t ld ob E; rw [if_neg (fun z => hp (st12.mp z))] at q; exact q)) rfl rfl ?_
  refine z_Ev_call0 (m' := m_X5_holds) (as := [aR 0 32, aI (2 : Int32)]) (r := []) ((by have q := m_holds (xs := xs) (L := L) (2 : Int32) C s a v t ld ob E; rw [f_b_f (by decide)] at q; exact q)) rfl rfl ?_
  refine z_Ev_blk 1 (c' := ((if (0 : Int32) = 0 then 12 else 14), [some (aR 0 32), some (aI (2 : Int32))], [], (C, dm s a v t ld (upd ob 0 (2 : Int32)), E))) rfl trivial ?_
  refine z_Ev_if (by decide) ?_
  refine z_Ev_blk 1 (c' := (13, [some (aR 0 32), some (aI (2 : Int32))], [aI (0 : Int32)], (C, dm s a v t ld (upd ob 0 (2 : Int32)), E))) rfl trivial ?_
  exact z_Ev_iretE rfl rfl (by rfl) (by rfl)
theorem u_lose_2 {xs : Nat → Int32} {L : Nat}  (C : Nat → Nat → Nat → Int32) (s a v t ld ob : Nat → Int32) (E : Nat → Int64) (m : Nat) (h4 : ob 4 = nI m) (hm : m ≤ 6)  : z_Mt xs L m_X5_lose [aR 0 32, aI (2 : Int32)] (C, dm s a v t ld ob, E) (.inl (some (aI (if s 18 = 3 then 0 else 1)))) (C, dm (upd (upd s 22 0) 18 (if s 18 = 3 then 0 else 3)) a (mvV v s m) t ld (upd (upd ob 0 0) 4 (nI (svm m + 1))), E) 0 := by
  refine z_Ev_blk 2 (c' := (2, [some (aR 0 32), some (aI (2 : Int32))], [aI (2 : Int32), aR 0 32], (C, dm s a v t ld ob, E))) rfl trivial ?_
  refine z_Ev_call0 (m' := m_X5_isSet) (as := [aI (2 : Int32)]) (r := [aR 0 32]) ((by have q := e_mSet (xs := xs) (L := L) (2 : Int32) C (dm s a v t ld ob) E; rw [f_b_t (by decide)] at q; exact q)) rfl rfl ?_
  refine z_Ev_blk 1 (c' := ((if (1 : Int32) = 0 then 12 else 8), [some (aR 0 32), some (aI (2 : Int32))], [aR 0 32], (C, dm s a v t ld ob, E))) rfl trivial ?_
  refine z_Ev_else (by decide) ?_
  refine z_Ev_blk 2 (c' := (13, [some (aR 0 32), some (aI (2 : Int32))], [aI (0 : Int32), aR 0 32], (C, dm s a v t ld ob, E))) rfl trivial ?_
  refine z_Ev_call0 (m' := m_X5_holds) (as := [aR 0 32, aI (0 : Int32)]) (r := []) ((by have q := m_holds (xs := xs) (L := L) (0 : Int32) C s a v t ld ob E; rw [f_b_t rfl] at q; exact q)) rfl rfl ?_
  refine z_Ev_blk 1 (c' := ((if (1 : Int32) = 0 then 19 else 21), [some (aR 0 32), some (aI (2 : Int32))], [], (C, dm s a v t ld (upd ob 0 (0 : Int32)), E))) rfl trivial ?_
  refine z_Ev_else (by decide) ?_
  refine z_Ev_blk 1 (c' := (22, [some (aR 0 32), some (aI (2 : Int32))], [aR 0 32], (C, dm s a v t ld (upd ob 0 (0 : Int32)), E))) rfl trivial ?_
  refine z_Ev_call0 (m' := m_X5_save) (as := [aR 0 32]) (r := []) (n_save m C s a v t ld (upd ob 0 (0 : Int32)) E h4 hm) rfl rfl ?_
  refine z_Ev_blk 7 (c' := (35, [some (aR 0 32), some (aI (2 : Int32))], [], (C, up2 (dm s a (mvV v s m) t ld (upd (upd ob 0 (0 : Int32)) 4 (nI (svm m + 1)))) 33 22 (0 : Int32), E))) rfl ⟨rfl, trivial⟩ ?_
  rw [dm_33]
  refine z_Ev_blk 13 (c' := ((if (s 18) = (3 : Int32) then 56 else 60), [some (aR 0 32), some (aI (2 : Int32))], [aI (18 : Int32), aR 0 33], (C, dm (upd s 22 (0 : Int32)) a (mvV v s m) t ld (upd (upd ob 0 (0 : Int32)) 4 (nI (svm m + 1))), E))) rfl ⟨rfl, trivial⟩ ?_
  refine z_Ev_ite (fun h1 => ?_) (fun h1 => ?_)
  · skip
    refine z_Ev_blk 3 (c' := (62, [some (aR 0 32), some (aI (2 : Int32))], [], (C, up2 (dm (upd s 22 (0 : Int32)) a (mvV v s m) t ld (upd (upd ob 0 (0 : Int32)) 4 (nI (svm m + 1)))) 33 18 (0 : Int32), E))) rfl ⟨rfl, trivial⟩ ?_
    rw [dm_33]
    refine z_Ev_blk 8 (c' := ((if (0 : Int32) = (3 : Int32) then 75 else 79), [some (aR 0 32), some (aI (2 : Int32))], [], (C, dm (upd (upd s 22 (0 : Int32)) 18 (0 : Int32)) a (mvV v s m) t ld (upd (upd ob 0 (0 : Int32)) 4 (nI (svm m + 1))), E))) rfl ⟨rfl, trivial⟩ ?_
    refine z_Ev_else (by decide) ?_
    refine z_Ev_blk 1 (c' := (80, [some (aR 0 32), some (aI (2 : Int32))], [aI (0 : Int32)], (C, dm (upd (upd s 22 (0 : Int32)) 18 (0 : Int32)) a (mvV v s m) t ld (upd (upd ob 0 (0 : Int32)) 4 (nI (svm m + 1))), E))) rfl trivial ?_
    exact z_Ev_iretE rfl rfl (by first | rfl | simp [*]) (by first | rfl | simp [*])
  · skip
    refine z_Ev_blk 2 (c' := (62, [some (aR 0 32), some (aI (2 : Int32))], [], (C, up2 (dm (upd s 22 (0 : Int32)) a (mvV v s m) t ld (upd (upd ob 0 (0 : Int32)) 4 (nI (svm m + 1)))) 33 18 (3 : Int32), E))) rfl ⟨rfl, trivial⟩ ?_
    rw [dm_33]
    refine z_Ev_blk 8 (c' := ((if (3 : Int32) = (3 : Int32) then 75 else 79), [some (aR 0 32), some (aI (2 : Int32))], [], (C, dm (upd (upd s 22 (0 : Int32)) 18 (3 : Int32)) a (mvV v s m) t ld (upd (upd ob 0 (0 : Int32)) 4 (nI (svm m + 1))), E))) rfl ⟨rfl, trivial⟩ ?_
    refine z_Ev_if (by decide) ?_
    refine z_Ev_blk 2 (c' := (80, [some (aR 0 32), some (aI (2 : Int32))], [aI (1 : Int32)], (C, dm (upd (upd s 22 (0 : Int32)) 18 (3 : Int32)) a (mvV v s m) t ld (upd (upd ob 0 (0 : Int32)) 4 (nI (svm m + 1))), E))) rfl trivial ?_
    exact z_Ev_iretE rfl rfl (by first | rfl | simp [*]) (by first | rfl | simp [*])
theorem u_rate_3 {xs : Nat → Int32} {L : Nat} (g l e w : Int32) (C : Nat → Nat → Nat → Int32) (s a v t ld ob : Nat → Int32) (E : Nat → Int64) (hg : 50 ≤ g ∧ g ≤ 500) (hl : 0 ≤ l ∧ l ≤ g) (hme : 1 ≤ e ∧ e ≤ 99) (hh : 0 ≤ w ∧ w ≤ 4) (hp : s 19 = 0) (m : Nat) (h4 : ob 4 = nI m) (hm : m ≤ 6)  : z_Mt xs L m_X5_rate [aR 0 32, aI (3 : Int32), aI g, aI l, aI e, aI w] (C, dm s a v t ld ob, E) (.inl (some (aI (s 3)))) (C, dm (upd (upd (upd (upd s 7 l) 11 e) 15 w) 3 g) a (mvV v s m) t ld (upd (upd ob 0 0) 4 (nI (svm m + 1))), E) 0 := by
  refine z_Ev_blk 1 (c' := (1, [some (aR 0 32), some (aI (3 : Int32)), some (aI g), some (aI l), some (aI e), some (aI w), none], [aI (3 : Int32)], (C, dm s a v t ld ob, E))) rfl trivial ?_
  refine z_Ev_call0 (m' := m_X5_isSet) (as := [aI (3 : Int32)]) (r := []) ((by have q := e_mSet (xs := xs) (L := L) (3 : Int32) C (dm s a v t ld ob) E; rw [f_b_t (by decide)] at q; exact q)) rfl rfl ?_
  refine z_Ev_blk 1 (c' := ((if (1 : Int32) = 0 then 53 else 7), [some (aR 0 32), some (aI (3 : Int32)), some (aI g), some (aI l), some (aI e), some (aI w), none], [], (C, dm s a v t ld ob, E))) rfl trivial ?_
  refine z_Ev_else (by decide) ?_
  refine z_Ev_blk 3 (c' := (13, [some (aR 0 32), some (aI (3 : Int32)), some (aI g), some (aI l), some (aI e), some (aI w), none], [aI (500 : Int32), aI (50 : Int32), aI g], (C, dm s a v t ld ob, E))) rfl trivial ?_
  refine z_Ev_call0 (m' := m_X5_in) (as := [aI g, aI (50 : Int32), aI (500 : Int32)]) (r := []) ((by have q := e_in (xs := xs) (L := L) g (50 : Int32) (500 : Int32) C (dm s a v t ld ob) E; rw [f_b_t (hg)] at q; exact q)) rfl rfl ?_
  refine z_Ev_blk 1 (c' := ((if (1 : Int32) = 0 then 53 else 19), [some (aR 0 32), some (aI (3 : Int32)), some (aI g), some (aI l), some (aI e), some (aI w), none], [], (C, dm s a v t ld ob, E))) rfl trivial ?_
  refine z_Ev_else (by decide) ?_
  refine z_Ev_blk 3 (c' := (22, [some (aR 0 32), some (aI (3 : Int32)), some (aI g), some (aI l), some (aI e), some (aI w), none], [aI g, aI (0 : Int32), aI l], (C, dm s a v t ld ob, E))) rfl trivial ?_
  refine z_Ev_call0 (m' := m_X5_in) (as := [aI l, aI (0 : Int32), aI g]) (r := []) ((by have q := e_in (xs := xs) (L := L) l (0 : Int32) g C (dm s a v t ld ob) E; rw [f_b_t (hl)] at q; exact q)) rfl rfl ?_
  refine z_Ev_blk 1 (c' := ((if (1 : Int32) = 0 then 53 else 28), [some (aR 0 32), some (aI (3 : Int32)), some (aI g), some (aI l), some (aI e), some (aI w), none], [], (C, dm s a v t ld ob, E))) rfl trivial ?_
  refine z_Ev_else (by decide) ?_
  refine z_Ev_blk 3 (c' := (33, [some (aR 0 32), some (aI (3 : Int32)), some (aI g), some (aI l), some (aI e), some (aI w), none], [aI (99 : Int32), aI (1 : Int32), aI e], (C, dm s a v t ld ob, E))) rfl trivial ?_
  refine z_Ev_call0 (m' := m_X5_in) (as := [aI e, aI (1 : Int32), aI (99 : Int32)]) (r := []) ((by have q := e_in (xs := xs) (L := L) e (1 : Int32) (99 : Int32) C (dm s a v t ld ob) E; rw [f_b_t (hme)] at q; exact q)) rfl rfl ?_
  refine z_Ev_blk 1 (c' := ((if (1 : Int32) = 0 then 53 else 39), [some (aR 0 32), some (aI (3 : Int32)), some (aI g), some (aI l), some (aI e), some (aI w), none], [], (C, dm s a v t ld ob, E))) rfl trivial ?_
  refine z_Ev_else (by decide) ?_
  refine z_Ev_blk 3 (c' := (43, [some (aR 0 32), some (aI (3 : Int32)), some (aI g), some (aI l), some (aI e), some (aI w), none], [aI (4 : Int32), aI (0 : Int32), aI w], (C, dm s a v t ld ob, E))) rfl trivial ?_
  refine z_Ev_call0 (m' := m_X5_in) (as := [aI w, aI (0 : Int32), aI (4 : Int32)]) (r := []) ((by have q := e_in (xs := xs) (L := L) w (0 : Int32) (4 : Int32) C (dm s a v t ld ob) E; rw [f_b_t (hh)] at q; exact q)) rfl rfl ?_
  refine z_Ev_blk 1 (c' := ((if (1 : Int32) = 0 then 53 else 49), [some (aR 0 32), some (aI (3 : Int32)), some (aI g), some (aI l), some (aI e), some (aI w), none], [], (C, dm s a v t ld ob, E))) rfl trivial ?_
  refine z_Ev_else (by decide) ?_
  refine z_Ev_blk 6 (c' := ((if (1 : Int32) = 0 then 62 else 66), [some (aR 0 32), some (aI (3 : Int32)), some (aI g), some (aI l), some (aI e), some (aI w), some (aI (1 : Int32))], [aR 0 32], (C, dm s a v t ld ob, E))) rfl trivial ?_
  refine z_Ev_else (by decide) ?_
  refine z_Ev_blk 7 (c' := ((if (s 19) = 0 then 82 else 78), [some (aR 0 32), some (aI (3 : Int32)), some (aI g), some (aI l), some (aI e), some (aI w), some (aI (1 : Int32))], [aR 0 32], (C, dm s a v t ld ob, E))) rfl ⟨rfl, trivial⟩ ?_
  refine z_Ev_if (hp) ?_
  refine z_Ev_blk 1 (c' := (83, [some (aR 0 32), some (aI (3 : Int32)), some (aI g), some (aI l), some (aI e), some (aI w), some (aI (1 : Int32))], [aI (0 : Int32), aR 0 32], (C, dm s a v t ld ob, E))) rfl trivial ?_
  refine z_Ev_call0 (m' := m_X5_holds) (as := [aR 0 32, aI (0 : Int32)]) (r := []) ((by have q := m_holds (xs := xs) (L := L) (0 : Int32) C s a v t ld ob E; rw [f_b_t rfl] at q; exact q)) rfl rfl ?_
  refine z_Ev_blk 1 (c' := ((if (1 : Int32) = 0 then 89 else 91), [some (aR 0 32), some (aI (3 : Int32)), some (aI g), some (aI l), some (aI e), some (aI w), some (aI (1 : Int32))], [], (C, dm s a v t ld (upd ob 0 (0 : Int32)), E))) rfl trivial ?_
  refine z_Ev_else (by decide) ?_
  refine z_Ev_blk 1 (c' := (92, [some (aR 0 32), some (aI (3 : Int32)), some (aI g), some (aI l), some (aI e), some (aI w), some (aI (1 : Int32))], [aR 0 32], (C, dm s a v t ld (upd ob 0 (0 : Int32)), E))) rfl trivial ?_
  refine z_Ev_call0 (m' := m_X5_save) (as := [aR 0 32]) (r := []) (n_save m C s a v t ld (upd ob 0 (0 : Int32)) E h4 hm) rfl rfl ?_
  refine z_Ev_blk 7 (c' := (104, [some (aR 0 32), some (aI (3 : Int32)), some (aI g), some (aI l), some (aI e), some (aI w), some (aI (1 : Int32))], [], (C, up2 (dm s a (mvV v s m) t ld (upd (upd ob 0 (0 : Int32)) 4 (nI (svm m + 1)))) 33 7 l, E))) rfl ⟨rfl, trivial⟩ ?_
  rw [dm_33]
  refine z_Ev_blk 7 (c' := (115, [some (aR 0 32), some (aI (3 : Int32)), some (aI g), some (aI l), some (aI e), some (aI w), some (aI (1 : Int32))], [], (C, up2 (dm (upd s 7 l) a (mvV v s m) t ld (upd (upd ob 0 (0 : Int32)) 4 (nI (svm m + 1)))) 33 11 e, E))) rfl ⟨rfl, trivial⟩ ?_
  rw [dm_33]
  refine z_Ev_blk 7 (c' := (126, [some (aR 0 32), some (aI (3 : Int32)), some (aI g), some (aI l), some (aI e), some (aI w), some (aI (1 : Int32))], [], (C, up2 (dm (upd (upd s 7 l) 11 e) a (mvV v s m) t ld (upd (upd ob 0 (0 : Int32)) 4 (nI (svm m + 1)))) 33 15 w, E))) rfl ⟨rfl, trivial⟩ ?_
  rw [dm_33]
  refine z_Ev_blk 5 (c' := (131, [some (aR 0 32), some (aI (3 : Int32)), some (aI g), some (aI l), some (aI e), some (aI w), some (aI (1 : Int32))], [aI g, aI (3 : Int32), aR 0 32], (C, dm (upd (upd (upd s 7 l) 11 e) 15 w) a (mvV v s m) t ld (upd (upd ob 0 (0 : Int32)) 4 (nI (svm m + 1))), E))) rfl trivial ?_
  refine z_Ev_call0 (m' := m_X5_puts) (as := [aR 0 32, aI (3 : Int32), aI g]) (r := []) (m_puts (3 : Int32) g C (upd (upd (upd s 7 l) 11 e) 15 w) a (mvV v s m) t ld (upd (upd ob 0 (0 : Int32)) 4 (nI (svm m + 1))) E rfl) rfl rfl ?_
  exact z_Ev_iretE rfl rfl (by rfl) (by rfl)
theorem u_rateS_3 {xs : Nat → Int32} {L : Nat} (g l e w : Int32) (C : Nat → Nat → Nat → Int32) (s a v t ld ob : Nat → Int32) (E : Nat → Int64) (hg : 50 ≤ g ∧ g ≤ 500) (hl : 0 ≤ l ∧ l ≤ g) (hme : 1 ≤ e ∧ e ≤ 99) (hh : 0 ≤ w ∧ w ≤ 4) (hp : ¬ s 19 = 0) : z_Mt xs L m_X5_rate [aR 0 32, aI (3 : Int32), aI g, aI l, aI e, aI w] (C, dm s a v t ld ob, E) (.inl (some (aI 0))) (C, dm s a v t ld (upd ob 0 2), E) 0 := by
  refine z_Ev_blk 1 (c' := (1, [some (aR 0 32), some (aI (3 : Int32)), some (aI g), some (aI l), some (aI e), some (aI w), none], [aI (3 : Int32)], (C, dm s a v t ld ob, E))) rfl trivial ?_
  refine z_Ev_call0 (m' := m_X5_isSet) (as := [aI (3 : Int32)]) (r := []) ((by have q := e_mSet (xs := xs) (L := L) (3 : Int32) C (dm s a v t ld ob) E; rw [f_b_t (by decide)] at q; exact q)) rfl rfl ?_
  refine z_Ev_blk 1 (c' := ((if (1 : Int32) = 0 then 53 else 7), [some (aR 0 32), some (aI (3 : Int32)), some (aI g), some (aI l), some (aI e), some (aI w), none], [], (C, dm s a v t ld ob, E))) rfl trivial ?_
  refine z_Ev_else (by decide) ?_
  refine z_Ev_blk 3 (c' := (13, [some (aR 0 32), some (aI (3 : Int32)), some (aI g), some (aI l), some (aI e), some (aI w), none], [aI (500 : Int32), aI (50 : Int32), aI g], (C, dm s a v t ld ob, E))) rfl trivial ?_
  refine z_Ev_call0 (m' := m_X5_in) (as := [aI g, aI (50 : Int32), aI (500 : Int32)]) (r := []) ((by have q := e_in (xs := xs) (L := L) g (50 : Int32) (500 : Int32) C (dm s a v t ld ob) E; rw [f_b_t (hg)] at q; exact q)) rfl rfl ?_
  refine z_Ev_blk 1 (c' := ((if (1 : Int32) = 0 then 53 else 19), [some (aR 0 32), some (aI (3 : Int32)), some (aI g), some (aI l), some (aI e), some (aI w), none], [], (C, dm s a v t ld ob, E))) rfl trivial ?_
  refine z_Ev_else (by decide) ?_
  refine z_Ev_blk 3 (c' := (22, [some (aR 0 32), some (aI (3 : Int32)), some (aI g), some (aI l), some (aI e), some (aI w), none], [aI g, aI (0 : Int32), aI l], (C, dm s a v t ld ob, E))) rfl trivial ?_
  refine z_Ev_call0 (m' := m_X5_in) (as := [aI l, aI (0 : Int32), aI g]) (r := []) ((by have q := e_in (xs := xs) (L := L) l (0 : Int32) g C (dm s a v t ld ob) E; rw [f_b_t (hl)] at q; exact q)) rfl rfl ?_
  refine z_Ev_blk 1 (c' := ((if (1 : Int32) = 0 then 53 else 28), [some (aR 0 32), some (aI (3 : Int32)), some (aI g), some (aI l), some (aI e), some (aI w), none], [], (C, dm s a v t ld ob, E))) rfl trivial ?_
  refine z_Ev_else (by decide) ?_
  refine z_Ev_blk 3 (c' := (33, [some (aR 0 32), some (aI (3 : Int32)), some (aI g), some (aI l), some (aI e), some (aI w), none], [aI (99 : Int32), aI (1 : Int32), aI e], (C, dm s a v t ld ob, E))) rfl trivial ?_
  refine z_Ev_call0 (m' := m_X5_in) (as := [aI e, aI (1 : Int32), aI (99 : Int32)]) (r := []) ((by have q := e_in (xs := xs) (L := L) e (1 : Int32) (99 : Int32) C (dm s a v t ld ob) E; rw [f_b_t (hme)] at q; exact q)) rfl rfl ?_
  refine z_Ev_blk 1 (c' := ((if (1 : Int32) = 0 then 53 else 39), [some (aR 0 32), some (aI (3 : Int32)), some (aI g), some (aI l), some (aI e), some (aI w), none], [], (C, dm s a v t ld ob, E))) rfl trivial ?_
  refine z_Ev_else (by decide) ?_
  refine z_Ev_blk 3 (c' := (43, [some (aR 0 32), some (aI (3 : Int32)), some (aI g), some (aI l), some (aI e), some (aI w), none], [aI (4 : Int32), aI (0 : Int32), aI w], (C, dm s a v t ld ob, E))) rfl trivial ?_
  refine z_Ev_call0 (m' := m_X5_in) (as := [aI w, aI (0 : Int32), aI (4 : Int32)]) (r := []) ((by have q := e_in (xs := xs) (L := L) w (0 : Int32) (4 : Int32) C (dm s a v t ld ob) E; rw [f_b_t (hh)] at q; exact q)) rfl rfl ?_
  refine z_Ev_blk 1 (c' := ((if (1 : Int32) = 0 then 53 else 49), [some (aR 0 32), some (aI (3 : Int32)), some (aI g), some (aI l), some (aI e), some (aI w), none], [], (C, dm s a v t ld ob, E))) rfl trivial ?_
  refine z_Ev_else (by decide) ?_
  refine z_Ev_blk 6 (c' := ((if (1 : Int32) = 0 then 62 else 66), [some (aR 0 32), some (aI (3 : Int32)), some (aI g), some (aI l), some (aI e), some (aI w), some (aI (1 : Int32))], [aR 0 32], (C, dm s a v t ld ob, E))) rfl trivial ?_
  refine z_Ev_else (by decide) ?_
  refine z_Ev_blk 7 (c' := ((if (s 19) = 0 then 82 else 78), [some (aR 0 32), some (aI (3 : Int32)), some (aI g), some (aI l), some (aI e), some (aI w), some (aI (1 : Int32))], [aR 0 32], (C, dm s a v t ld ob, E))) rfl ⟨rfl, trivial⟩ ?_
  refine z_Ev_else (hp) ?_
  refine z_Ev_blk 2 (c' := (83, [some (aR 0 32), some (aI (3 : Int32)), some (aI g), some (aI l), some (aI e), some (aI w), some (aI (1 : Int32))], [aI (2 : Int32), aR 0 32], (C, dm s a v t ld ob, E))) rfl trivial ?_
  refine z_Ev_call0 (m' := m_X5_holds) (as := [aR 0 32, aI (2 : Int32)]) (r := []) ((by have q := m_holds (xs := xs) (L := L) (2 : Int32) C s a v t ld ob E; rw [f_b_f (by decide)] at q; exact q)) rfl rfl ?_
  refine z_Ev_blk 1 (c' := ((if (0 : Int32) = 0 then 89 else 91), [some (aR 0 32), some (aI (3 : Int32)), some (aI g), some (aI l), some (aI e), some (aI w), some (aI (1 : Int32))], [], (C, dm s a v t ld (upd ob 0 (2 : Int32)), E))) rfl trivial ?_
  refine z_Ev_if (by decide) ?_
  refine z_Ev_blk 1 (c' := (90, [some (aR 0 32), some (aI (3 : Int32)), some (aI g), some (aI l), some (aI e), some (aI w), some (aI (1 : Int32))], [aI (0 : Int32)], (C, dm s a v t ld (upd ob 0 (2 : Int32)), E))) rfl trivial ?_
  exact z_Ev_iretE rfl rfl (by rfl) (by rfl)
theorem u_start_3 {xs : Nat → Int32} {L : Nat}  (C : Nat → Nat → Nat → Int32) (s a v t ld ob : Nat → Int32) (E : Nat → Int64) (hp : s 19 = 0) (m : Nat) (h4 : ob 4 = nI m) (hm : m ≤ 6)  : z_Mt xs L m_X5_start [aR 0 32, aI (3 : Int32)] (C, dm s a v t ld ob, E) (.inl (some (aI (s 15)))) (C, dm (bgF s 3) a (mvV v s m) t ld (upd (upd ob 0 0) 4 (nI (svm m + 1))), E) 0 := by
  refine z_Ev_blk 3 (c' := (3, [some (aR 0 32), some (aI (3 : Int32))], [aI (3 : Int32), aR 0 32, aR 0 32], (C, dm s a v t ld ob, E))) rfl trivial ?_
  refine z_Ev_call0 (m' := m_X5_startFault) (as := [aR 0 32, aI (3 : Int32)]) (r := [aR 0 32]) ((by have q := m_startFault_3 (xs := xs) (L := L) C s a v t ld ob E; rw [if_pos hp] at q; exact q)) rfl rfl ?_
  refine z_Ev_call0 (m' := m_X5_holds) (as := [aR 0 32, aI (0 : Int32)]) (r := []) ((by have q := m_holds (xs := xs) (L := L) (0 : Int32) C s a v t ld ob E; rw [f_b_t rfl] at q; exact q)) rfl rfl ?_
  refine z_Ev_blk 1 (c' := ((if (1 : Int32) = 0 then 12 else 14), [some (aR 0 32), some (aI (3 : Int32))], [], (C, dm s a v t ld (upd ob 0 (0 : Int32)), E))) rfl trivial ?_
  refine z_Ev_else (by decide) ?_
  refine z_Ev_blk 1 (c' := (15, [some (aR 0 32), some (aI (3 : Int32))], [aR 0 32], (C, dm s a v t ld (upd ob 0 (0 : Int32)), E))) rfl trivial ?_
  refine z_Ev_call0 (m' := m_X5_save) (as := [aR 0 32]) (r := []) (n_save m C s a v t ld (upd ob 0 (0 : Int32)) E h4 hm) rfl rfl ?_
  refine z_Ev_blk 2 (c' := (20, [some (aR 0 32), some (aI (3 : Int32))], [aI (3 : Int32), aR 0 32], (C, dm s a (mvV v s m) t ld (upd (upd ob 0 (0 : Int32)) 4 (nI (svm m + 1))), E))) rfl trivial ?_
  refine z_Ev_call0 (m' := m_X5_starts) (as := [aR 0 32, aI (3 : Int32)]) (r := []) (m_starts_3 C s a (mvV v s m) t ld (upd (upd ob 0 (0 : Int32)) 4 (nI (svm m + 1))) E) rfl rfl ?_
  exact z_Ev_iretE rfl rfl (by rfl) (by rfl)
theorem u_startS_3 {xs : Nat → Int32} {L : Nat}  (C : Nat → Nat → Nat → Int32) (s a v t ld ob : Nat → Int32) (E : Nat → Int64) (hp : ¬ s 19 = 0)  : z_Mt xs L m_X5_start [aR 0 32, aI (3 : Int32)] (C, dm s a v t ld ob, E) (.inl (some (aI 0))) (C, dm s a v t ld (upd ob 0 2), E) 0 := by
  refine z_Ev_blk 3 (c' := (3, [some (aR 0 32), some (aI (3 : Int32))], [aI (3 : Int32), aR 0 32, aR 0 32], (C, dm s a v t ld ob, E))) rfl trivial ?_
  refine z_Ev_call0 (m' := m_X5_startFault) (as := [aR 0 32, aI (3 : Int32)]) (r := [aR 0 32]) ((by have q := m_startFault_3 (xs := xs) (L := L) C s a v t ld ob E; rw [if_neg hp] at q; exact q)) rfl rfl ?_
  refine z_Ev_call0 (m' := m_X5_holds) (as := [aR 0 32, aI (2 : Int32)]) (r := []) ((by have q := m_holds (xs := xs) (L := L) (2 : Int32) C s a v t ld ob E; rw [f_b_f (by decide)] at q; exact q)) rfl rfl ?_
  refine z_Ev_blk 1 (c' := ((if (0 : Int32) = 0 then 12 else 14), [some (aR 0 32), some (aI (3 : Int32))], [], (C, dm s a v t ld (upd ob 0 (2 : Int32)), E))) rfl trivial ?_
  refine z_Ev_if (by decide) ?_
  refine z_Ev_blk 1 (c' := (13, [some (aR 0 32), some (aI (3 : Int32))], [aI (0 : Int32)], (C, dm s a v t ld (upd ob 0 (2 : Int32)), E))) rfl trivial ?_
  exact z_Ev_iretE rfl rfl (by rfl) (by rfl)
theorem u_stop_3 {xs : Nat → Int32} {L : Nat}  (C : Nat → Nat → Nat → Int32) (s a v t ld ob : Nat → Int32) (E : Nat → Int64) (hp : (s 19 = 1 ∨ s 19 = 2)) (m : Nat) (h4 : ob 4 = nI m) (hm : m ≤ 6)  : z_Mt xs L m_X5_stop [aR 0 32, aI (3 : Int32)] (C, dm s a v t ld ob, E) (.inl (some (aI (manF (mkF (fun j => (stF s 3) (16 + j)) 2))))) (C, dm (stF s 3) a (mvV v s m) t ld (upd (upd ob 0 0) 4 (nI (svm m + 1))), E) 0 := by
  refine z_Ev_blk 3 (c' := (3, [some (aR 0 32), some (aI (3 : Int32))], [aI (3 : Int32), aR 0 32, aR 0 32], (C, dm s a v t ld ob, E))) rfl trivial ?_
  refine z_Ev_call0 (m' := m_X5_stopFault) (as := [aR 0 32, aI (3 : Int32)]) (r := [aR 0 32]) ((by have q := m_stopFault_3 (xs := xs) (L := L) C s a v t ld ob E; rw [if_pos (st12.mpr hp)] at q; exact q)) rfl rfl ?_
  refine z_Ev_call0 (m' := m_X5_holds) (as := [aR 0 32, aI (0 : Int32)]) (r := []) ((by have q := m_holds (xs := xs) (L := L) (0 : Int32) C s a v t ld ob E; rw [f_b_t rfl] at q; exact q)) rfl rfl ?_
  refine z_Ev_blk 1 (c' := ((if (1 : Int32) = 0 then 12 else 14), [some (aR 0 32), some (aI (3 : Int32))], [], (C, dm s a v t ld (upd ob 0 (0 : Int32)), E))) rfl trivial ?_
  refine z_Ev_else (by decide) ?_
  refine z_Ev_blk 1 (c' := (15, [some (aR 0 32), some (aI (3 : Int32))], [aR 0 32], (C, dm s a v t ld (upd ob 0 (0 : Int32)), E))) rfl trivial ?_
  refine z_Ev_call0 (m' := m_X5_save) (as := [aR 0 32]) (r := []) (n_save m C s a v t ld (upd ob 0 (0 : Int32)) E h4 hm) rfl rfl ?_
  refine z_Ev_blk 2 (c' := (20, [some (aR 0 32), some (aI (3 : Int32))], [aI (3 : Int32), aR 0 32], (C, dm s a (mvV v s m) t ld (upd (upd ob 0 (0 : Int32)) 4 (nI (svm m + 1))), E))) rfl trivial ?_
  refine z_Ev_call0 (m' := m_X5_stops) (as := [aR 0 32, aI (3 : Int32)]) (r := []) (m_stops_3 C s a (mvV v s m) t ld (upd (upd ob 0 (0 : Int32)) 4 (nI (svm m + 1))) E) rfl rfl ?_
  exact z_Ev_iretE rfl rfl (by rfl) (by rfl)
theorem u_stopS_3 {xs : Nat → Int32} {L : Nat}  (C : Nat → Nat → Nat → Int32) (s a v t ld ob : Nat → Int32) (E : Nat → Int64) (hp : ¬ (s 19 = 1 ∨ s 19 = 2))  : z_Mt xs L m_X5_stop [aR 0 32, aI (3 : Int32)] (C, dm s a v t ld ob, E) (.inl (some (aI 0))) (C, dm s a v t ld (upd ob 0 2), E) 0 := by
  refine z_Ev_blk 3 (c' := (3, [some (aR 0 32), some (aI (3 : Int32))], [aI (3 : Int32), aR 0 32, aR 0 32], (C, dm s a v t ld ob, E))) rfl trivial ?_
  refine z_Ev_call0 (m' := m_X5_stopFault) (as := [aR 0 32, aI (3 : Int32)]) (r := [aR 0 32]) ((by have q := m_stopFault_3 (xs := xs) (L := L) C s a v t ld ob E; rw [if_neg (fun z => hp (st12.mp z))] at q; exact q)) rfl rfl ?_
  refine z_Ev_call0 (m' := m_X5_holds) (as := [aR 0 32, aI (2 : Int32)]) (r := []) ((by have q := m_holds (xs := xs) (L := L) (2 : Int32) C s a v t ld ob E; rw [f_b_f (by decide)] at q; exact q)) rfl rfl ?_
  refine z_Ev_blk 1 (c' := ((if (0 : Int32) = 0 then 12 else 14), [some (aR 0 32), some (aI (3 : Int32))], [], (C, dm s a v t ld (upd ob 0 (2 : Int32)), E))) rfl trivial ?_
  refine z_Ev_if (by decide) ?_
  refine z_Ev_blk 1 (c' := (13, [some (aR 0 32), some (aI (3 : Int32))], [aI (0 : Int32)], (C, dm s a v t ld (upd ob 0 (2 : Int32)), E))) rfl trivial ?_
  exact z_Ev_iretE rfl rfl (by rfl) (by rfl)
theorem u_lose_3 {xs : Nat → Int32} {L : Nat}  (C : Nat → Nat → Nat → Int32) (s a v t ld ob : Nat → Int32) (E : Nat → Int64) (m : Nat) (h4 : ob 4 = nI m) (hm : m ≤ 6)  : z_Mt xs L m_X5_lose [aR 0 32, aI (3 : Int32)] (C, dm s a v t ld ob, E) (.inl (some (aI (if s 19 = 3 then 0 else 1)))) (C, dm (upd (upd s 23 0) 19 (if s 19 = 3 then 0 else 3)) a (mvV v s m) t ld (upd (upd ob 0 0) 4 (nI (svm m + 1))), E) 0 := by
  refine z_Ev_blk 2 (c' := (2, [some (aR 0 32), some (aI (3 : Int32))], [aI (3 : Int32), aR 0 32], (C, dm s a v t ld ob, E))) rfl trivial ?_
  refine z_Ev_call0 (m' := m_X5_isSet) (as := [aI (3 : Int32)]) (r := [aR 0 32]) ((by have q := e_mSet (xs := xs) (L := L) (3 : Int32) C (dm s a v t ld ob) E; rw [f_b_t (by decide)] at q; exact q)) rfl rfl ?_
  refine z_Ev_blk 1 (c' := ((if (1 : Int32) = 0 then 12 else 8), [some (aR 0 32), some (aI (3 : Int32))], [aR 0 32], (C, dm s a v t ld ob, E))) rfl trivial ?_
  refine z_Ev_else (by decide) ?_
  refine z_Ev_blk 2 (c' := (13, [some (aR 0 32), some (aI (3 : Int32))], [aI (0 : Int32), aR 0 32], (C, dm s a v t ld ob, E))) rfl trivial ?_
  refine z_Ev_call0 (m' := m_X5_holds) (as := [aR 0 32, aI (0 : Int32)]) (r := []) ((by have q := m_holds (xs := xs) (L := L) (0 : Int32) C s a v t ld ob E; rw [f_b_t rfl] at q; exact q)) rfl rfl ?_
  refine z_Ev_blk 1 (c' := ((if (1 : Int32) = 0 then 19 else 21), [some (aR 0 32), some (aI (3 : Int32))], [], (C, dm s a v t ld (upd ob 0 (0 : Int32)), E))) rfl trivial ?_
  refine z_Ev_else (by decide) ?_
  refine z_Ev_blk 1 (c' := (22, [some (aR 0 32), some (aI (3 : Int32))], [aR 0 32], (C, dm s a v t ld (upd ob 0 (0 : Int32)), E))) rfl trivial ?_
  refine z_Ev_call0 (m' := m_X5_save) (as := [aR 0 32]) (r := []) (n_save m C s a v t ld (upd ob 0 (0 : Int32)) E h4 hm) rfl rfl ?_
  refine z_Ev_blk 7 (c' := (35, [some (aR 0 32), some (aI (3 : Int32))], [], (C, up2 (dm s a (mvV v s m) t ld (upd (upd ob 0 (0 : Int32)) 4 (nI (svm m + 1)))) 33 23 (0 : Int32), E))) rfl ⟨rfl, trivial⟩ ?_
  rw [dm_33]
  refine z_Ev_blk 13 (c' := ((if (s 19) = (3 : Int32) then 56 else 60), [some (aR 0 32), some (aI (3 : Int32))], [aI (19 : Int32), aR 0 33], (C, dm (upd s 23 (0 : Int32)) a (mvV v s m) t ld (upd (upd ob 0 (0 : Int32)) 4 (nI (svm m + 1))), E))) rfl ⟨rfl, trivial⟩ ?_
  refine z_Ev_ite (fun h1 => ?_) (fun h1 => ?_)
  · skip
    refine z_Ev_blk 3 (c' := (62, [some (aR 0 32), some (aI (3 : Int32))], [], (C, up2 (dm (upd s 23 (0 : Int32)) a (mvV v s m) t ld (upd (upd ob 0 (0 : Int32)) 4 (nI (svm m + 1)))) 33 19 (0 : Int32), E))) rfl ⟨rfl, trivial⟩ ?_
    rw [dm_33]
    refine z_Ev_blk 8 (c' := ((if (0 : Int32) = (3 : Int32) then 75 else 79), [some (aR 0 32), some (aI (3 : Int32))], [], (C, dm (upd (upd s 23 (0 : Int32)) 19 (0 : Int32)) a (mvV v s m) t ld (upd (upd ob 0 (0 : Int32)) 4 (nI (svm m + 1))), E))) rfl ⟨rfl, trivial⟩ ?_
    refine z_Ev_else (by decide) ?_
    refine z_Ev_blk 1 (c' := (80, [some (aR 0 32), some (aI (3 : Int32))], [aI (0 : Int32)], (C, dm (upd (upd s 23 (0 : Int32)) 19 (0 : Int32)) a (mvV v s m) t ld (upd (upd ob 0 (0 : Int32)) 4 (nI (svm m + 1))), E))) rfl trivial ?_
    exact z_Ev_iretE rfl rfl (by first | rfl | simp [*]) (by first | rfl | simp [*])
  · skip
    refine z_Ev_blk 2 (c' := (62, [some (aR 0 32), some (aI (3 : Int32))], [], (C, up2 (dm (upd s 23 (0 : Int32)) a (mvV v s m) t ld (upd (upd ob 0 (0 : Int32)) 4 (nI (svm m + 1)))) 33 19 (3 : Int32), E))) rfl ⟨rfl, trivial⟩ ?_
    rw [dm_33]
    refine z_Ev_blk 8 (c' := ((if (3 : Int32) = (3 : Int32) then 75 else 79), [some (aR 0 32), some (aI (3 : Int32))], [], (C, dm (upd (upd s 23 (0 : Int32)) 19 (3 : Int32)) a (mvV v s m) t ld (upd (upd ob 0 (0 : Int32)) 4 (nI (svm m + 1))), E))) rfl ⟨rfl, trivial⟩ ?_
    refine z_Ev_if (by decide) ?_
    refine z_Ev_blk 2 (c' := (80, [some (aR 0 32), some (aI (3 : Int32))], [aI (1 : Int32)], (C, dm (upd (upd s 23 (0 : Int32)) 19 (3 : Int32)) a (mvV v s m) t ld (upd (upd ob 0 (0 : Int32)) 4 (nI (svm m + 1))), E))) rfl trivial ?_
    exact z_Ev_iretE rfl rfl (by first | rfl | simp [*]) (by first | rfl | simp [*])
theorem u_startA {xs : Nat → Int32} {L : Nat} (x : Int32) (C : Nat → Nat → Nat → Int32) (s a v t ld ob : Nat → Int32) (E : Nat → Int64) (hbad : ¬ (0 ≤ x ∧ x ≤ 3)) : z_Mt xs L m_X5_start [aR 0 32, aI x] (C, dm s a v t ld ob, E) (.inl (some (aI 0))) (C, dm s a v t ld (upd ob 0 1), E) 0 := by
  refine z_Ev_blk 3 (c' := (3, [some (aR 0 32), some (aI x)], [aI x, aR 0 32, aR 0 32], (C, dm s a v t ld ob, E))) rfl trivial ?_
  refine z_Ev_call0 (m' := m_X5_startFault) (as := [aR 0 32, aI x]) (r := [aR 0 32]) (m_startFault_x x C s a v t ld ob E hbad) rfl rfl ?_
  refine z_Ev_call0 (m' := m_X5_holds) (as := [aR 0 32, aI (1 : Int32)]) (r := []) ((by have q := m_holds (xs := xs) (L := L) (1 : Int32) C s a v t ld ob E; rw [f_b_f (by decide)] at q; exact q)) rfl rfl ?_
  refine z_Ev_blk 1 (c' := ((if (0 : Int32) = 0 then 12 else 14), [some (aR 0 32), some (aI x)], [], (C, dm s a v t ld (upd ob 0 (1 : Int32)), E))) rfl trivial ?_
  refine z_Ev_if (by decide) ?_
  refine z_Ev_blk 1 (c' := (13, [some (aR 0 32), some (aI x)], [aI (0 : Int32)], (C, dm s a v t ld (upd ob 0 (1 : Int32)), E))) rfl trivial ?_
  exact z_Ev_iretE rfl rfl (by rfl) (by rfl)
theorem u_stopA {xs : Nat → Int32} {L : Nat} (x : Int32) (C : Nat → Nat → Nat → Int32) (s a v t ld ob : Nat → Int32) (E : Nat → Int64) (hbad : ¬ (0 ≤ x ∧ x ≤ 3)) : z_Mt xs L m_X5_stop [aR 0 32, aI x] (C, dm s a v t ld ob, E) (.inl (some (aI 0))) (C, dm s a v t ld (upd ob 0 1), E) 0 := by
  refine z_Ev_blk 3 (c' := (3, [some (aR 0 32), some (aI x)], [aI x, aR 0 32, aR 0 32], (C, dm s a v t ld ob, E))) rfl trivial ?_
  refine z_Ev_call0 (m' := m_X5_stopFault) (as := [aR 0 32, aI x]) (r := [aR 0 32]) (m_stopFault_x x C s a v t ld ob E hbad) rfl rfl ?_
  refine z_Ev_call0 (m' := m_X5_holds) (as := [aR 0 32, aI (1 : Int32)]) (r := []) ((by have q := m_holds (xs := xs) (L := L) (1 : Int32) C s a v t ld ob E; rw [f_b_f (by decide)] at q; exact q)) rfl rfl ?_
  refine z_Ev_blk 1 (c' := ((if (0 : Int32) = 0 then 12 else 14), [some (aR 0 32), some (aI x)], [], (C, dm s a v t ld (upd ob 0 (1 : Int32)), E))) rfl trivial ?_
  refine z_Ev_if (by decide) ?_
  refine z_Ev_blk 1 (c' := (13, [some (aR 0 32), some (aI x)], [aI (0 : Int32)], (C, dm s a v t ld (upd ob 0 (1 : Int32)), E))) rfl trivial ?_
  exact z_Ev_iretE rfl rfl (by rfl) (by rfl)
theorem u_loseA {xs : Nat → Int32} {L : Nat} (x : Int32) (C : Nat → Nat → Nat → Int32) (s a v t ld ob : Nat → Int32) (E : Nat → Int64) (hbad : ¬ (0 ≤ x ∧ x ≤ 3)) : z_Mt xs L m_X5_lose [aR 0 32, aI x] (C, dm s a v t ld ob, E) (.inl (some (aI 0))) (C, dm s a v t ld (upd ob 0 1), E) 0 := by
  refine z_Ev_blk 2 (c' := (2, [some (aR 0 32), some (aI x)], [aI x, aR 0 32], (C, dm s a v t ld ob, E))) rfl trivial ?_
  refine z_Ev_call0 (m' := m_X5_isSet) (as := [aI x]) (r := [aR 0 32]) ((by have q := e_mSet (xs := xs) (L := L) x C (dm s a v t ld ob) E; rw [f_b_f (hbad)] at q; exact q)) rfl rfl ?_
  refine z_Ev_blk 1 (c' := ((if (0 : Int32) = 0 then 12 else 8), [some (aR 0 32), some (aI x)], [aR 0 32], (C, dm s a v t ld ob, E))) rfl trivial ?_
  refine z_Ev_if (by decide) ?_
  refine z_Ev_blk 1 (c' := (13, [some (aR 0 32), some (aI x)], [aI (1 : Int32), aR 0 32], (C, dm s a v t ld ob, E))) rfl trivial ?_
  refine z_Ev_call0 (m' := m_X5_holds) (as := [aR 0 32, aI (1 : Int32)]) (r := []) ((by have q := m_holds (xs := xs) (L := L) (1 : Int32) C s a v t ld ob E; rw [f_b_f (by decide)] at q; exact q)) rfl rfl ?_
  refine z_Ev_blk 1 (c' := ((if (0 : Int32) = 0 then 19 else 21), [some (aR 0 32), some (aI x)], [], (C, dm s a v t ld (upd ob 0 (1 : Int32)), E))) rfl trivial ?_
  refine z_Ev_if (by decide) ?_
  refine z_Ev_blk 1 (c' := (20, [some (aR 0 32), some (aI x)], [aI (0 : Int32)], (C, dm s a v t ld (upd ob 0 (1 : Int32)), E))) rfl trivial ?_
  exact z_Ev_iretE rfl rfl (by rfl) (by rfl)
theorem u_shed {xs : Nat → Int32} {L : Nat}  (C : Nat → Nat → Nat → Int32) (s a v t ld ob : Nat → Int32) (E : Nat → Int64) (m : Nat) (h4 : ob 4 = nI m) (hm : m ≤ 6)  : z_Mt xs L m_X5_shed [aR 0 32] (C, dm s a v t ld ob, E) (.inl (some (aI (1 - s 37)))) (C, dm (upd s 37 (1 - s 37)) a (mvV v s m) t ld (upd (upd ob 0 0) 4 (nI (svm m + 1))), E) 0 := by
  refine z_Ev_blk 3 (c' := (5, [some (aR 0 32)], [], (C, up2 (dm s a v t ld ob) 32 0 (0 : Int32), E))) rfl trivial ?_
  rw [dm_32]
  refine z_Ev_blk 1 (c' := (6, [some (aR 0 32)], [aR 0 32], (C, dm s a v t ld (upd ob 0 (0 : Int32)), E))) rfl trivial ?_
  refine z_Ev_call0 (m' := m_X5_save) (as := [aR 0 32]) (r := []) (n_save m C s a v t ld (upd ob 0 (0 : Int32)) E h4 hm) rfl rfl ?_
  refine z_Ev_blk 1 (c' := (10, [some (aR 0 32)], [aR 0 32], (C, dm s a (mvV v s m) t ld (upd (upd ob 0 (0 : Int32)) 4 (nI (svm m + 1))), E))) rfl trivial ?_
  refine z_Ev_call0 (m' := m_X5_sheds) (as := [aR 0 32]) (r := []) (m_sheds C s a (mvV v s m) t ld (upd (upd ob 0 (0 : Int32)) 4 (nI (svm m + 1))) E) rfl rfl ?_
  exact z_Ev_iretE rfl rfl (by rfl) (by rfl)
theorem u_forecast {xs : Nat → Int32} {L : Nat} (h : Nat) (x : Int32) (C : Nat → Nat → Nat → Int32) (s a v t ld ob : Nat → Int32) (E : Nat → Int64) (hh : h < 48) (hh2 : 0 ≤ nI h ∧ nI h ≤ 47) (hx : 0 ≤ x ∧ x ≤ 1500) (m : Nat) (h4 : ob 4 = nI m) (hm : m ≤ 6)  : z_Mt xs L m_X5_forecast [aR 0 32, aI (nI h), aI x] (C, dm s a v t ld ob, E) (.inl (some (aI (s (40 + h))))) (C, dm (upd s (40 + h) x) a (mvV v s m) t ld (upd (upd ob 0 0) 4 (nI (svm m + 1))), E) 0 := by
  refine z_Ev_blk 4 (c' := (4, [some (aR 0 32), some (aI (nI h)), some (aI x)], [aI x, aI (nI h), aR 0 32, aR 0 32], (C, dm s a v t ld ob, E))) rfl trivial ?_
  refine z_Ev_call0 (m' := m_X5_forecastFault) (as := [aR 0 32, aI (nI h), aI x]) (r := [aR 0 32]) ((by have q := m_forecastFault (xs := xs) (L := L) (nI h) x C s a v t ld ob E; rw [if_pos ⟨hh2, hx⟩] at q; exact q)) rfl rfl ?_
  refine z_Ev_call0 (m' := m_X5_holds) (as := [aR 0 32, aI (0 : Int32)]) (r := []) ((by have q := m_holds (xs := xs) (L := L) (0 : Int32) C s a v t ld ob E; rw [f_b_t rfl] at q; exact q)) rfl rfl ?_
  refine z_Ev_blk 1 (c' := ((if (1 : Int32) = 0 then 13 else 15), [some (aR 0 32), some (aI (nI h)), some (aI x)], [], (C, dm s a v t ld (upd ob 0 (0 : Int32)), E))) rfl trivial ?_
  refine z_Ev_else (by decide) ?_
  refine z_Ev_blk 1 (c' := (16, [some (aR 0 32), some (aI (nI h)), some (aI x)], [aR 0 32], (C, dm s a v t ld (upd ob 0 (0 : Int32)), E))) rfl trivial ?_
  refine z_Ev_call0 (m' := m_X5_save) (as := [aR 0 32]) (r := []) (n_save m C s a v t ld (upd ob 0 (0 : Int32)) E h4 hm) rfl rfl ?_
  refine z_Ev_blk 5 (c' := (25, [some (aR 0 32), some (aI (nI h)), some (aI x)], [aI x, aI ((40 : Int32) + (nI h)), aR 0 32], (C, dm s a (mvV v s m) t ld (upd (upd ob 0 (0 : Int32)) 4 (nI (svm m + 1))), E))) rfl trivial ?_
  refine z_Ev_call0 (m' := m_X5_puts) (as := [aR 0 32, aI ((40 : Int32) + (nI h)), aI x]) (r := []) ((by have q := m_puts (xs := xs) (L := L) (40 + nI h) x C s a (mvV v s m) t ld (upd (upd ob 0 (0 : Int32)) 4 (nI (svm m + 1))) E (in40 hh); rw [idx40 hh] at q; exact q)) rfl rfl ?_
  exact z_Ev_iretE rfl rfl (by rfl) (by rfl)
theorem u_forecastA {xs : Nat → Int32} {L : Nat} (x y : Int32) (C : Nat → Nat → Nat → Int32) (s a v t ld ob : Nat → Int32) (E : Nat → Int64) (hbad : ¬ ((0 ≤ x ∧ x ≤ 47) ∧ (0 ≤ y ∧ y ≤ 1500))) : z_Mt xs L m_X5_forecast [aR 0 32, aI x, aI y] (C, dm s a v t ld ob, E) (.inl (some (aI 0))) (C, dm s a v t ld (upd ob 0 1), E) 0 := by
  refine z_Ev_blk 4 (c' := (4, [some (aR 0 32), some (aI x), some (aI y)], [aI y, aI x, aR 0 32, aR 0 32], (C, dm s a v t ld ob, E))) rfl trivial ?_
  refine z_Ev_call0 (m' := m_X5_forecastFault) (as := [aR 0 32, aI x, aI y]) (r := [aR 0 32]) ((by have q := m_forecastFault (xs := xs) (L := L) x y C s a v t ld ob E; rw [if_neg hbad] at q; exact q)) rfl rfl ?_
  refine z_Ev_call0 (m' := m_X5_holds) (as := [aR 0 32, aI (1 : Int32)]) (r := []) ((by have q := m_holds (xs := xs) (L := L) (1 : Int32) C s a v t ld ob E; rw [f_b_f (by decide)] at q; exact q)) rfl rfl ?_
  refine z_Ev_blk 1 (c' := ((if (0 : Int32) = 0 then 13 else 15), [some (aR 0 32), some (aI x), some (aI y)], [], (C, dm s a v t ld (upd ob 0 (1 : Int32)), E))) rfl trivial ?_
  refine z_Ev_if (by decide) ?_
  refine z_Ev_blk 1 (c' := (14, [some (aR 0 32), some (aI x), some (aI y)], [aI (0 : Int32)], (C, dm s a v t ld (upd ob 0 (1 : Int32)), E))) rfl trivial ?_
  exact z_Ev_iretE rfl rfl (by rfl) (by rfl)
theorem u_pass {xs : Nat → Int32} {L : Nat} (x : Nat) (y : Int32) (Z LD OB : Nat → Int32) (C : Nat → Nat → Nat → Int32) (s a v t ld ob : Nat → Int32) (E : Nat → Int64) (hx : 1 ≤ nI x ∧ nI x ≤ 48) (hp : s 34 + nI x ≤ 48) (m : Nat) (h4 : ob 4 = nI m) (hm : m ≤ 6) (hP : z_Mt xs L m_X5_passes [aR 0 32, aI (nI x)] (C, dm s a (mvV v s m) t ld (upd (upd ob 0 0) 4 (nI (svm m + 1))), E) (.inl (some (aI y))) (C, dm Z a (mvV v s m) t LD OB, E) 0) : z_Mt xs L m_X5_pass [aR 0 32, aI (nI x)] (C, dm s a v t ld ob, E) (.inl (some (aI y))) (C, dm Z a (mvV v s m) t LD OB, E) 0 := by
  refine z_Ev_blk 3 (c' := (3, [some (aR 0 32), some (aI (nI x))], [aI (nI x), aR 0 32, aR 0 32], (C, dm s a v t ld ob, E))) rfl trivial ?_
  refine z_Ev_call0 (m' := m_X5_passFault) (as := [aR 0 32, aI (nI x)]) (r := [aR 0 32]) ((by have q := m_passFault (xs := xs) (L := L) (nI x) C s a v t ld ob E; rw [if_pos hx, if_pos hp] at q; exact q)) rfl rfl ?_
  refine z_Ev_call0 (m' := m_X5_holds) (as := [aR 0 32, aI (0 : Int32)]) (r := []) ((by have q := m_holds (xs := xs) (L := L) (0 : Int32) C s a v t ld ob E; rw [f_b_t rfl] at q; exact q)) rfl rfl ?_
  refine z_Ev_blk 1 (c' := ((if (1 : Int32) = 0 then 12 else 14), [some (aR 0 32), some (aI (nI x))], [], (C, dm s a v t ld (upd ob 0 (0 : Int32)), E))) rfl trivial ?_
  refine z_Ev_else (by decide) ?_
  refine z_Ev_blk 1 (c' := (15, [some (aR 0 32), some (aI (nI x))], [aR 0 32], (C, dm s a v t ld (upd ob 0 (0 : Int32)), E))) rfl trivial ?_
  refine z_Ev_call0 (m' := m_X5_save) (as := [aR 0 32]) (r := []) (n_save m C s a v t ld (upd ob 0 (0 : Int32)) E h4 hm) rfl rfl ?_
  refine z_Ev_blk 2 (c' := (20, [some (aR 0 32), some (aI (nI x))], [aI (nI x), aR 0 32], (C, dm s a (mvV v s m) t ld (upd (upd ob 0 (0 : Int32)) 4 (nI (svm m + 1))), E))) rfl trivial ?_
  refine z_Ev_call0 (m' := m_X5_passes) (as := [aR 0 32, aI (nI x)]) (r := []) (hP) rfl rfl ?_
  exact z_Ev_iretE rfl rfl (by rfl) (by rfl)
theorem u_passS {xs : Nat → Int32} {L : Nat} (x : Nat) (C : Nat → Nat → Nat → Int32) (s a v t ld ob : Nat → Int32) (E : Nat → Int64) (hx : 1 ≤ nI x ∧ nI x ≤ 48) (hp : ¬ s 34 + nI x ≤ 48)  : z_Mt xs L m_X5_pass [aR 0 32, aI (nI x)] (C, dm s a v t ld ob, E) (.inl (some (aI 0))) (C, dm s a v t ld (upd ob 0 2), E) 0 := by
  refine z_Ev_blk 3 (c' := (3, [some (aR 0 32), some (aI (nI x))], [aI (nI x), aR 0 32, aR 0 32], (C, dm s a v t ld ob, E))) rfl trivial ?_
  refine z_Ev_call0 (m' := m_X5_passFault) (as := [aR 0 32, aI (nI x)]) (r := [aR 0 32]) ((by have q := m_passFault (xs := xs) (L := L) (nI x) C s a v t ld ob E; rw [if_pos hx, if_neg hp] at q; exact q)) rfl rfl ?_
  refine z_Ev_call0 (m' := m_X5_holds) (as := [aR 0 32, aI (2 : Int32)]) (r := []) ((by have q := m_holds (xs := xs) (L := L) (2 : Int32) C s a v t ld ob E; rw [f_b_f (by decide)] at q; exact q)) rfl rfl ?_
  refine z_Ev_blk 1 (c' := ((if (0 : Int32) = 0 then 12 else 14), [some (aR 0 32), some (aI (nI x))], [], (C, dm s a v t ld (upd ob 0 (2 : Int32)), E))) rfl trivial ?_
  refine z_Ev_if (by decide) ?_
  refine z_Ev_blk 1 (c' := (13, [some (aR 0 32), some (aI (nI x))], [aI (0 : Int32)], (C, dm s a v t ld (upd ob 0 (2 : Int32)), E))) rfl trivial ?_
  exact z_Ev_iretE rfl rfl (by rfl) (by rfl)
theorem u_passA {xs : Nat → Int32} {L : Nat} (x : Int32) (C : Nat → Nat → Nat → Int32) (s a v t ld ob : Nat → Int32) (E : Nat → Int64) (hbad : ¬ (1 ≤ x ∧ x ≤ 48)) : z_Mt xs L m_X5_pass [aR 0 32, aI x] (C, dm s a v t ld ob, E) (.inl (some (aI 0))) (C, dm s a v t ld (upd ob 0 1), E) 0 := by
  refine z_Ev_blk 3 (c' := (3, [some (aR 0 32), some (aI x)], [aI x, aR 0 32, aR 0 32], (C, dm s a v t ld ob, E))) rfl trivial ?_
  refine z_Ev_call0 (m' := m_X5_passFault) (as := [aR 0 32, aI x]) (r := [aR 0 32]) ((by have q := m_passFault (xs := xs) (L := L) x C s a v t ld ob E; rw [if_neg hbad] at q; exact q)) rfl rfl ?_
  refine z_Ev_call0 (m' := m_X5_holds) (as := [aR 0 32, aI (1 : Int32)]) (r := []) ((by have q := m_holds (xs := xs) (L := L) (1 : Int32) C s a v t ld ob E; rw [f_b_f (by decide)] at q; exact q)) rfl rfl ?_
  refine z_Ev_blk 1 (c' := ((if (0 : Int32) = 0 then 12 else 14), [some (aR 0 32), some (aI x)], [], (C, dm s a v t ld (upd ob 0 (1 : Int32)), E))) rfl trivial ?_
  refine z_Ev_if (by decide) ?_
  refine z_Ev_blk 1 (c' := (13, [some (aR 0 32), some (aI x)], [aI (0 : Int32)], (C, dm s a v t ld (upd ob 0 (1 : Int32)), E))) rfl trivial ?_
  exact z_Ev_iretE rfl rfl (by rfl) (by rfl)
