/-! THE CLASS: orders, run -/
def bgF (s : Nat → Int32) (k : Nat) : Nat → Int32 := upd (upd s (20 + k) (s (12 + k))) (16 + k) (if s (12 + k) = 0 then 2 else 1)
def stF (s : Nat → Int32) (k : Nat) : Nat → Int32 := upd (upd s (16 + k) 0) (20 + k) 0
theorem upd_comm {f : Nat → Int32} {i j : Nat} {x y : Int32} (h : i ≠ j) : upd (upd f i x) j y = upd (upd f j y) i x := by
  funext k
  unfold upd
  by_cases h1 : k = j
  · by_cases h2 : k = i
    · exact absurd (h2.symm.trans h1) h
    · rw [if_pos h1, if_neg h2, if_pos h1]
  · by_cases h2 : k = i
    · rw [if_neg h1, if_pos h2, if_pos h2]
    · rw [if_neg h1, if_neg h2, if_neg h2, if_neg h1]
def oS (s : Nat → Int32) (c one two : Int32) : Option (Nat → Int32) :=
  if c = 43 then (if s (16 + one.toNatClampNeg) = 0 then some (bgF s one.toNatClampNeg) else none)
  else if c = 45 then (if s (16 + one.toNatClampNeg) = 1 ∨ s (16 + one.toNatClampNeg) = 2 then some (stF s one.toNatClampNeg) else none)
  else if c = 104 then (if (s 34).toNatClampNeg + one.toNatClampNeg ≤ 48 then some (goM one.toNatClampNeg s) else none)
  else if c = 102 then some (upd s (40 + one.toNatClampNeg) two)
  else some (upd s 37 (1 - s 37))
def ordK (c one two : Int32) : Prop := ((c = 43 ∨ c = 45) ∧ (one = 0 ∨ one = 1 ∨ one = 2 ∨ one = 3)) ∨ c = 115 ∨ (c = 104 ∧ ∃ x : Nat, 1 ≤ x ∧ x ≤ 48 ∧ one = nI x) ∨ (c = 102 ∧ ∃ h : Nat, h < 48 ∧ one = nI h ∧ 0 ≤ two.toInt ∧ two.toInt ≤ 1500)
theorem oS_h {s : Nat → Int32} {H x : Nat} {two : Int32} (h34 : s 34 = nI H) (hH : H ≤ 48) (hx : x ≤ 48) : oS s 104 (nI x) two = if H + x ≤ 48 then some (goM x s) else none := by
  unfold oS
  rw [if_neg (by decide), if_neg (by decide), if_pos rfl, h34, nI_clamp (by omega), nI_clamp (by omega)]
theorem oS_f {s : Nat → Int32} {h : Nat} {two : Int32} (hh : h < 48) : oS s 102 (nI h) two = some (upd s (40 + h) two) := by
  unfold oS
  rw [if_neg (by decide), if_neg (by decide), if_neg (by decide), if_pos rfl, nI_clamp (by omega)]
theorem oS_s {s : Nat → Int32} {one two : Int32} : oS s 115 one two = some (upd s 37 (1 - s 37)) := by
  unfold oS
  rw [if_neg (by decide), if_neg (by decide), if_neg (by decide), if_neg (by decide)]

theorem a_plus_0_1 {xs : Nat → Int32} {L : Nat}  (n t : Nat → Int32) (v : Nat → Nat → Int32) (ld sh o cd pl ka kb kc : Nat → Int32) (D : Nat → Nat → Int32) (E : Nat → Int64) (hp : n 16 = 0) : z_Mt xs L m_X4_isAllowed [aR 0 16, aI (43 : Int32), aI (0 : Int32)] (cm n t v ld sh o cd pl ka kb kc, D, E) (.inl (some (aI 1))) (cm n t v ld sh o cd pl ka kb kc, D, E) 0 := by
  refine z_Ev_blk 2 (c' := (44, [some (aR 0 16), some (aI (43 : Int32)), some (aI (0 : Int32))], [], (cm n t v ld sh o cd pl ka kb kc, D, E))) rfl trivial ?_
  refine z_Ev_blk 1 (c' := (45, [some (aR 0 16), some (aI (43 : Int32)), some (aI (0 : Int32))], [aI (0 : Int32)], (cm n t v ld sh o cd pl ka kb kc, D, E))) rfl trivial ?_
  refine z_Ev_call0 (m' := m_X4_isSet) (as := [aI (0 : Int32)]) (r := []) ((by have q := e_isSet (xs := xs) (L := L) (0 : Int32) (cm n t v ld sh o cd pl ka kb kc) D E; rw [f_b_t (by decide)] at q; exact q)) rfl rfl ?_
  refine z_Ev_blk 1 (c' := ((if (1 : Int32) = 0 then 70 else 51), [some (aR 0 16), some (aI (43 : Int32)), some (aI (0 : Int32))], [], (cm n t v ld sh o cd pl ka kb kc, D, E))) rfl trivial ?_
  refine z_Ev_else (by decide) ?_
  refine z_Ev_blk 7 (c' := ((if (n 16) = 0 then 66 else 70), [some (aR 0 16), some (aI (43 : Int32)), some (aI (0 : Int32))], [], (cm n t v ld sh o cd pl ka kb kc, D, E))) rfl ⟨rfl, trivial⟩ ?_
  refine z_Ev_if (hp) ?_
  refine z_Ev_blk 2 (c' := (71, [some (aR 0 16), some (aI (43 : Int32)), some (aI (0 : Int32))], [aI (1 : Int32)], (cm n t v ld sh o cd pl ka kb kc, D, E))) rfl trivial ?_
  exact z_Ev_zretE rfl rfl (rfl) (by rfl) (by rfl)
theorem a_minus_0_1 {xs : Nat → Int32} {L : Nat}  (n t : Nat → Int32) (v : Nat → Nat → Int32) (ld sh o cd pl ka kb kc : Nat → Int32) (D : Nat → Nat → Int32) (E : Nat → Int64) (hp : (n 16 = 1 ∨ n 16 = 2)) : z_Mt xs L m_X4_isAllowed [aR 0 16, aI (45 : Int32), aI (0 : Int32)] (cm n t v ld sh o cd pl ka kb kc, D, E) (.inl (some (aI 1))) (cm n t v ld sh o cd pl ka kb kc, D, E) 0 := by
  refine z_Ev_blk 2 (c' := (72, [some (aR 0 16), some (aI (45 : Int32)), some (aI (0 : Int32))], [], (cm n t v ld sh o cd pl ka kb kc, D, E))) rfl trivial ?_
  refine z_Ev_blk 1 (c' := (73, [some (aR 0 16), some (aI (45 : Int32)), some (aI (0 : Int32))], [aI (0 : Int32)], (cm n t v ld sh o cd pl ka kb kc, D, E))) rfl trivial ?_
  refine z_Ev_call0 (m' := m_X4_isSet) (as := [aI (0 : Int32)]) (r := []) ((by have q := e_isSet (xs := xs) (L := L) (0 : Int32) (cm n t v ld sh o cd pl ka kb kc) D E; rw [f_b_t (by decide)] at q; exact q)) rfl rfl ?_
  refine z_Ev_blk 1 (c' := ((if (1 : Int32) = 0 then 97 else 79), [some (aR 0 16), some (aI (45 : Int32)), some (aI (0 : Int32))], [], (cm n t v ld sh o cd pl ka kb kc, D, E))) rfl trivial ?_
  refine z_Ev_else (by decide) ?_
  refine z_Ev_blk 4 (c' := (87, [some (aR 0 16), some (aI (45 : Int32)), some (aI (0 : Int32))], [aI (0 : Int32), aR 0 1], (cm n t v ld sh o cd pl ka kb kc, D, E))) rfl trivial ?_
  refine z_Ev_call0 (m' := m_X0_isInUse) (as := [aR 0 1, aI (0 : Int32)]) (r := []) ((by have q := c_isInUse_0 (xs := xs) (L := L) n t v ld sh o cd pl ka kb kc D E; rw [f_b_t hp] at q; exact q)) rfl rfl ?_
  refine z_Ev_blk 1 (c' := ((if (1 : Int32) = 0 then 97 else 93), [some (aR 0 16), some (aI (45 : Int32)), some (aI (0 : Int32))], [], (cm n t v ld sh o cd pl ka kb kc, D, E))) rfl trivial ?_
  refine z_Ev_else (by decide) ?_
  refine z_Ev_blk 2 (c' := (98, [some (aR 0 16), some (aI (45 : Int32)), some (aI (0 : Int32))], [aI (1 : Int32)], (cm n t v ld sh o cd pl ka kb kc, D, E))) rfl trivial ?_
  exact z_Ev_zretE rfl rfl (rfl) (by rfl) (by rfl)
theorem a_plus_0_0 {xs : Nat → Int32} {L : Nat}  (n t : Nat → Int32) (v : Nat → Nat → Int32) (ld sh o cd pl ka kb kc : Nat → Int32) (D : Nat → Nat → Int32) (E : Nat → Int64) (hp : ¬ n 16 = 0) : z_Mt xs L m_X4_isAllowed [aR 0 16, aI (43 : Int32), aI (0 : Int32)] (cm n t v ld sh o cd pl ka kb kc, D, E) (.inl (some (aI 0))) (cm n t v ld sh o cd pl ka kb kc, D, E) 0 := by
  refine z_Ev_blk 2 (c' := (44, [some (aR 0 16), some (aI (43 : Int32)), some (aI (0 : Int32))], [], (cm n t v ld sh o cd pl ka kb kc, D, E))) rfl trivial ?_
  refine z_Ev_blk 1 (c' := (45, [some (aR 0 16), some (aI (43 : Int32)), some (aI (0 : Int32))], [aI (0 : Int32)], (cm n t v ld sh o cd pl ka kb kc, D, E))) rfl trivial ?_
  refine z_Ev_call0 (m' := m_X4_isSet) (as := [aI (0 : Int32)]) (r := []) ((by have q := e_isSet (xs := xs) (L := L) (0 : Int32) (cm n t v ld sh o cd pl ka kb kc) D E; rw [f_b_t (by decide)] at q; exact q)) rfl rfl ?_
  refine z_Ev_blk 1 (c' := ((if (1 : Int32) = 0 then 70 else 51), [some (aR 0 16), some (aI (43 : Int32)), some (aI (0 : Int32))], [], (cm n t v ld sh o cd pl ka kb kc, D, E))) rfl trivial ?_
  refine z_Ev_else (by decide) ?_
  refine z_Ev_blk 7 (c' := ((if (n 16) = 0 then 66 else 70), [some (aR 0 16), some (aI (43 : Int32)), some (aI (0 : Int32))], [], (cm n t v ld sh o cd pl ka kb kc, D, E))) rfl ⟨rfl, trivial⟩ ?_
  refine z_Ev_else (hp) ?_
  refine z_Ev_blk 1 (c' := (71, [some (aR 0 16), some (aI (43 : Int32)), some (aI (0 : Int32))], [aI (0 : Int32)], (cm n t v ld sh o cd pl ka kb kc, D, E))) rfl trivial ?_
  exact z_Ev_zretE rfl rfl (rfl) (by rfl) (by rfl)
theorem a_minus_0_0 {xs : Nat → Int32} {L : Nat}  (n t : Nat → Int32) (v : Nat → Nat → Int32) (ld sh o cd pl ka kb kc : Nat → Int32) (D : Nat → Nat → Int32) (E : Nat → Int64) (hp : ¬ (n 16 = 1 ∨ n 16 = 2)) : z_Mt xs L m_X4_isAllowed [aR 0 16, aI (45 : Int32), aI (0 : Int32)] (cm n t v ld sh o cd pl ka kb kc, D, E) (.inl (some (aI 0))) (cm n t v ld sh o cd pl ka kb kc, D, E) 0 := by
  refine z_Ev_blk 2 (c' := (72, [some (aR 0 16), some (aI (45 : Int32)), some (aI (0 : Int32))], [], (cm n t v ld sh o cd pl ka kb kc, D, E))) rfl trivial ?_
  refine z_Ev_blk 1 (c' := (73, [some (aR 0 16), some (aI (45 : Int32)), some (aI (0 : Int32))], [aI (0 : Int32)], (cm n t v ld sh o cd pl ka kb kc, D, E))) rfl trivial ?_
  refine z_Ev_call0 (m' := m_X4_isSet) (as := [aI (0 : Int32)]) (r := []) ((by have q := e_isSet (xs := xs) (L := L) (0 : Int32) (cm n t v ld sh o cd pl ka kb kc) D E; rw [f_b_t (by decide)] at q; exact q)) rfl rfl ?_
  refine z_Ev_blk 1 (c' := ((if (1 : Int32) = 0 then 97 else 79), [some (aR 0 16), some (aI (45 : Int32)), some (aI (0 : Int32))], [], (cm n t v ld sh o cd pl ka kb kc, D, E))) rfl trivial ?_
  refine z_Ev_else (by decide) ?_
  refine z_Ev_blk 4 (c' := (87, [some (aR 0 16), some (aI (45 : Int32)), some (aI (0 : Int32))], [aI (0 : Int32), aR 0 1], (cm n t v ld sh o cd pl ka kb kc, D, E))) rfl trivial ?_
  refine z_Ev_call0 (m' := m_X0_isInUse) (as := [aR 0 1, aI (0 : Int32)]) (r := []) ((by have q := c_isInUse_0 (xs := xs) (L := L) n t v ld sh o cd pl ka kb kc D E; rw [f_b_f hp] at q; exact q)) rfl rfl ?_
  refine z_Ev_blk 1 (c' := ((if (0 : Int32) = 0 then 97 else 93), [some (aR 0 16), some (aI (45 : Int32)), some (aI (0 : Int32))], [], (cm n t v ld sh o cd pl ka kb kc, D, E))) rfl trivial ?_
  refine z_Ev_if (by decide) ?_
  refine z_Ev_blk 1 (c' := (98, [some (aR 0 16), some (aI (45 : Int32)), some (aI (0 : Int32))], [aI (0 : Int32)], (cm n t v ld sh o cd pl ka kb kc, D, E))) rfl trivial ?_
  exact z_Ev_zretE rfl rfl (rfl) (by rfl) (by rfl)
theorem o_plus_0 {xs : Nat → Int32} {L : Nat} (w : Int32) (n t : Nat → Int32) (v : Nat → Nat → Int32) (ld sh o cd pl ka kb kc : Nat → Int32) (D : Nat → Nat → Int32) (E : Nat → Int64)  : z_Mt xs L m_X4_obey [aR 0 16, aI (43 : Int32), aI (0 : Int32), aI w] (cm n t v ld sh o cd pl ka kb kc, D, E) (.inl (none)) (cm (upd (upd n 20 (n 12)) 16 (if n 12 = 0 then 2 else 1)) t v ld sh o cd pl ka kb kc, D, E) 0 := by
  refine z_Ev_blk 2 (c' := (44, [some (aR 0 16), some (aI (43 : Int32)), some (aI (0 : Int32)), some (aI w)], [], (cm n t v ld sh o cd pl ka kb kc, D, E))) rfl trivial ?_
  refine z_Ev_blk 4 (c' := (52, [some (aR 0 16), some (aI (43 : Int32)), some (aI (0 : Int32)), some (aI w)], [aI (0 : Int32), aR 0 1], (cm n t v ld sh o cd pl ka kb kc, D, E))) rfl trivial ?_
  refine z_Ev_call0 (m' := m_X0_begin) (as := [aR 0 1, aI (0 : Int32)]) (r := []) (c_begin_0_0 n t v ld sh o cd pl ka kb kc D E) rfl rfl ?_
  refine z_Ev_blk 1 (c' := (125, [some (aR 0 16), some (aI (43 : Int32)), some (aI (0 : Int32)), some (aI w)], [], (cm (upd (upd n 20 (n 12)) 16 (if n 12 = 0 then 2 else 1)) t v ld sh o cd pl ka kb kc, D, E))) rfl trivial ?_
  exact z_Ev_vretE rfl rfl (by rfl)
theorem o_minus_0 {xs : Nat → Int32} {L : Nat} (w : Int32) (n t : Nat → Int32) (v : Nat → Nat → Int32) (ld sh o cd pl ka kb kc : Nat → Int32) (D : Nat → Nat → Int32) (E : Nat → Int64)  : z_Mt xs L m_X4_obey [aR 0 16, aI (45 : Int32), aI (0 : Int32), aI w] (cm n t v ld sh o cd pl ka kb kc, D, E) (.inl (none)) (cm (upd (upd n 20 0) 16 0) t v ld sh o cd pl ka kb kc, D, E) 0 := by
  refine z_Ev_blk 2 (c' := (58, [some (aR 0 16), some (aI (45 : Int32)), some (aI (0 : Int32)), some (aI w)], [], (cm n t v ld sh o cd pl ka kb kc, D, E))) rfl trivial ?_
  refine z_Ev_blk 5 (c' := (67, [some (aR 0 16), some (aI (45 : Int32)), some (aI (0 : Int32)), some (aI w)], [aI (0 : Int32), aI (0 : Int32), aR 0 1], (cm n t v ld sh o cd pl ka kb kc, D, E))) rfl trivial ?_
  refine z_Ev_call0 (m' := m_X0_become) (as := [aR 0 1, aI (0 : Int32), aI (0 : Int32)]) (r := []) (c_become_0_0 (0 : Int32) n t v ld sh o cd pl ka kb kc D E) rfl rfl ?_
  refine z_Ev_blk 1 (c' := (125, [some (aR 0 16), some (aI (45 : Int32)), some (aI (0 : Int32)), some (aI w)], [], (cm (upd (upd n 20 0) 16 (0 : Int32)) t v ld sh o cd pl ka kb kc, D, E))) rfl trivial ?_
  exact z_Ev_vretE rfl rfl (by rfl)
theorem a_plus_1_1 {xs : Nat → Int32} {L : Nat}  (n t : Nat → Int32) (v : Nat → Nat → Int32) (ld sh o cd pl ka kb kc : Nat → Int32) (D : Nat → Nat → Int32) (E : Nat → Int64) (hp : n 17 = 0) : z_Mt xs L m_X4_isAllowed [aR 0 16, aI (43 : Int32), aI (1 : Int32)] (cm n t v ld sh o cd pl ka kb kc, D, E) (.inl (some (aI 1))) (cm n t v ld sh o cd pl ka kb kc, D, E) 0 := by
  refine z_Ev_blk 2 (c' := (44, [some (aR 0 16), some (aI (43 : Int32)), some (aI (1 : Int32))], [], (cm n t v ld sh o cd pl ka kb kc, D, E))) rfl trivial ?_
  refine z_Ev_blk 1 (c' := (45, [some (aR 0 16), some (aI (43 : Int32)), some (aI (1 : Int32))], [aI (1 : Int32)], (cm n t v ld sh o cd pl ka kb kc, D, E))) rfl trivial ?_
  refine z_Ev_call0 (m' := m_X4_isSet) (as := [aI (1 : Int32)]) (r := []) ((by have q := e_isSet (xs := xs) (L := L) (1 : Int32) (cm n t v ld sh o cd pl ka kb kc) D E; rw [f_b_t (by decide)] at q; exact q)) rfl rfl ?_
  refine z_Ev_blk 1 (c' := ((if (1 : Int32) = 0 then 70 else 51), [some (aR 0 16), some (aI (43 : Int32)), some (aI (1 : Int32))], [], (cm n t v ld sh o cd pl ka kb kc, D, E))) rfl trivial ?_
  refine z_Ev_else (by decide) ?_
  refine z_Ev_blk 7 (c' := ((if (n 17) = 0 then 66 else 70), [some (aR 0 16), some (aI (43 : Int32)), some (aI (1 : Int32))], [], (cm n t v ld sh o cd pl ka kb kc, D, E))) rfl ⟨rfl, trivial⟩ ?_
  refine z_Ev_if (hp) ?_
  refine z_Ev_blk 2 (c' := (71, [some (aR 0 16), some (aI (43 : Int32)), some (aI (1 : Int32))], [aI (1 : Int32)], (cm n t v ld sh o cd pl ka kb kc, D, E))) rfl trivial ?_
  exact z_Ev_zretE rfl rfl (rfl) (by rfl) (by rfl)
theorem a_minus_1_1 {xs : Nat → Int32} {L : Nat}  (n t : Nat → Int32) (v : Nat → Nat → Int32) (ld sh o cd pl ka kb kc : Nat → Int32) (D : Nat → Nat → Int32) (E : Nat → Int64) (hp : (n 17 = 1 ∨ n 17 = 2)) : z_Mt xs L m_X4_isAllowed [aR 0 16, aI (45 : Int32), aI (1 : Int32)] (cm n t v ld sh o cd pl ka kb kc, D, E) (.inl (some (aI 1))) (cm n t v ld sh o cd pl ka kb kc, D, E) 0 := by
  refine z_Ev_blk 2 (c' := (72, [some (aR 0 16), some (aI (45 : Int32)), some (aI (1 : Int32))], [], (cm n t v ld sh o cd pl ka kb kc, D, E))) rfl trivial ?_
  refine z_Ev_blk 1 (c' := (73, [some (aR 0 16), some (aI (45 : Int32)), some (aI (1 : Int32))], [aI (1 : Int32)], (cm n t v ld sh o cd pl ka kb kc, D, E))) rfl trivial ?_
  refine z_Ev_call0 (m' := m_X4_isSet) (as := [aI (1 : Int32)]) (r := []) ((by have q := e_isSet (xs := xs) (L := L) (1 : Int32) (cm n t v ld sh o cd pl ka kb kc) D E; rw [f_b_t (by decide)] at q; exact q)) rfl rfl ?_
  refine z_Ev_blk 1 (c' := ((if (1 : Int32) = 0 then 97 else 79), [some (aR 0 16), some (aI (45 : Int32)), some (aI (1 : Int32))], [], (cm n t v ld sh o cd pl ka kb kc, D, E))) rfl trivial ?_
  refine z_Ev_else (by decide) ?_
  refine z_Ev_blk 4 (c' := (87, [some (aR 0 16), some (aI (45 : Int32)), some (aI (1 : Int32))], [aI (1 : Int32), aR 0 1], (cm n t v ld sh o cd pl ka kb kc, D, E))) rfl trivial ?_
  refine z_Ev_call0 (m' := m_X0_isInUse) (as := [aR 0 1, aI (1 : Int32)]) (r := []) ((by have q := c_isInUse_1 (xs := xs) (L := L) n t v ld sh o cd pl ka kb kc D E; rw [f_b_t hp] at q; exact q)) rfl rfl ?_
  refine z_Ev_blk 1 (c' := ((if (1 : Int32) = 0 then 97 else 93), [some (aR 0 16), some (aI (45 : Int32)), some (aI (1 : Int32))], [], (cm n t v ld sh o cd pl ka kb kc, D, E))) rfl trivial ?_
  refine z_Ev_else (by decide) ?_
  refine z_Ev_blk 2 (c' := (98, [some (aR 0 16), some (aI (45 : Int32)), some (aI (1 : Int32))], [aI (1 : Int32)], (cm n t v ld sh o cd pl ka kb kc, D, E))) rfl trivial ?_
  exact z_Ev_zretE rfl rfl (rfl) (by rfl) (by rfl)
theorem a_plus_1_0 {xs : Nat → Int32} {L : Nat}  (n t : Nat → Int32) (v : Nat → Nat → Int32) (ld sh o cd pl ka kb kc : Nat → Int32) (D : Nat → Nat → Int32) (E : Nat → Int64) (hp : ¬ n 17 = 0) : z_Mt xs L m_X4_isAllowed [aR 0 16, aI (43 : Int32), aI (1 : Int32)] (cm n t v ld sh o cd pl ka kb kc, D, E) (.inl (some (aI 0))) (cm n t v ld sh o cd pl ka kb kc, D, E) 0 := by
  refine z_Ev_blk 2 (c' := (44, [some (aR 0 16), some (aI (43 : Int32)), some (aI (1 : Int32))], [], (cm n t v ld sh o cd pl ka kb kc, D, E))) rfl trivial ?_
  refine z_Ev_blk 1 (c' := (45, [some (aR 0 16), some (aI (43 : Int32)), some (aI (1 : Int32))], [aI (1 : Int32)], (cm n t v ld sh o cd pl ka kb kc, D, E))) rfl trivial ?_
  refine z_Ev_call0 (m' := m_X4_isSet) (as := [aI (1 : Int32)]) (r := []) ((by have q := e_isSet (xs := xs) (L := L) (1 : Int32) (cm n t v ld sh o cd pl ka kb kc) D E; rw [f_b_t (by decide)] at q; exact q)) rfl rfl ?_
  refine z_Ev_blk 1 (c' := ((if (1 : Int32) = 0 then 70 else 51), [some (aR 0 16), some (aI (43 : Int32)), some (aI (1 : Int32))], [], (cm n t v ld sh o cd pl ka kb kc, D, E))) rfl trivial ?_
  refine z_Ev_else (by decide) ?_
  refine z_Ev_blk 7 (c' := ((if (n 17) = 0 then 66 else 70), [some (aR 0 16), some (aI (43 : Int32)), some (aI (1 : Int32))], [], (cm n t v ld sh o cd pl ka kb kc, D, E))) rfl ⟨rfl, trivial⟩ ?_
  refine z_Ev_else (hp) ?_
  refine z_Ev_blk 1 (c' := (71, [some (aR 0 16), some (aI (43 : Int32)), some (aI (1 : Int32))], [aI (0 : Int32)], (cm n t v ld sh o cd pl ka kb kc, D, E))) rfl trivial ?_
  exact z_Ev_zretE rfl rfl (rfl) (by rfl) (by rfl)
theorem a_minus_1_0 {xs : Nat → Int32} {L : Nat}  (n t : Nat → Int32) (v : Nat → Nat → Int32) (ld sh o cd pl ka kb kc : Nat → Int32) (D : Nat → Nat → Int32) (E : Nat → Int64) (hp : ¬ (n 17 = 1 ∨ n 17 = 2)) : z_Mt xs L m_X4_isAllowed [aR 0 16, aI (45 : Int32), aI (1 : Int32)] (cm n t v ld sh o cd pl ka kb kc, D, E) (.inl (some (aI 0))) (cm n t v ld sh o cd pl ka kb kc, D, E) 0 := by
  refine z_Ev_blk 2 (c' := (72, [some (aR 0 16), some (aI (45 : Int32)), some (aI (1 : Int32))], [], (cm n t v ld sh o cd pl ka kb kc, D, E))) rfl trivial ?_
  refine z_Ev_blk 1 (c' := (73, [some (aR 0 16), some (aI (45 : Int32)), some (aI (1 : Int32))], [aI (1 : Int32)], (cm n t v ld sh o cd pl ka kb kc, D, E))) rfl trivial ?_
  refine z_Ev_call0 (m' := m_X4_isSet) (as := [aI (1 : Int32)]) (r := []) ((by have q := e_isSet (xs := xs) (L := L) (1 : Int32) (cm n t v ld sh o cd pl ka kb kc) D E; rw [f_b_t (by decide)] at q; exact q)) rfl rfl ?_
  refine z_Ev_blk 1 (c' := ((if (1 : Int32) = 0 then 97 else 79), [some (aR 0 16), some (aI (45 : Int32)), some (aI (1 : Int32))], [], (cm n t v ld sh o cd pl ka kb kc, D, E))) rfl trivial ?_
  refine z_Ev_else (by decide) ?_
  refine z_Ev_blk 4 (c' := (87, [some (aR 0 16), some (aI (45 : Int32)), some (aI (1 : Int32))], [aI (1 : Int32), aR 0 1], (cm n t v ld sh o cd pl ka kb kc, D, E))) rfl trivial ?_
  refine z_Ev_call0 (m' := m_X0_isInUse) (as := [aR 0 1, aI (1 : Int32)]) (r := []) ((by have q := c_isInUse_1 (xs := xs) (L := L) n t v ld sh o cd pl ka kb kc D E; rw [f_b_f hp] at q; exact q)) rfl rfl ?_
  refine z_Ev_blk 1 (c' := ((if (0 : Int32) = 0 then 97 else 93), [some (aR 0 16), some (aI (45 : Int32)), some (aI (1 : Int32))], [], (cm n t v ld sh o cd pl ka kb kc, D, E))) rfl trivial ?_
  refine z_Ev_if (by decide) ?_
  refine z_Ev_blk 1 (c' := (98, [some (aR 0 16), some (aI (45 : Int32)), some (aI (1 : Int32))], [aI (0 : Int32)], (cm n t v ld sh o cd pl ka kb kc, D, E))) rfl trivial ?_
  exact z_Ev_zretE rfl rfl (rfl) (by rfl) (by rfl)
theorem o_plus_1 {xs : Nat → Int32} {L : Nat} (w : Int32) (n t : Nat → Int32) (v : Nat → Nat → Int32) (ld sh o cd pl ka kb kc : Nat → Int32) (D : Nat → Nat → Int32) (E : Nat → Int64)  : z_Mt xs L m_X4_obey [aR 0 16, aI (43 : Int32), aI (1 : Int32), aI w] (cm n t v ld sh o cd pl ka kb kc, D, E) (.inl (none)) (cm (upd (upd n 21 (n 13)) 17 (if n 13 = 0 then 2 else 1)) t v ld sh o cd pl ka kb kc, D, E) 0 := by
  refine z_Ev_blk 2 (c' := (44, [some (aR 0 16), some (aI (43 : Int32)), some (aI (1 : Int32)), some (aI w)], [], (cm n t v ld sh o cd pl ka kb kc, D, E))) rfl trivial ?_
  refine z_Ev_blk 4 (c' := (52, [some (aR 0 16), some (aI (43 : Int32)), some (aI (1 : Int32)), some (aI w)], [aI (1 : Int32), aR 0 1], (cm n t v ld sh o cd pl ka kb kc, D, E))) rfl trivial ?_
  refine z_Ev_call0 (m' := m_X0_begin) (as := [aR 0 1, aI (1 : Int32)]) (r := []) (c_begin_0_1 n t v ld sh o cd pl ka kb kc D E) rfl rfl ?_
  refine z_Ev_blk 1 (c' := (125, [some (aR 0 16), some (aI (43 : Int32)), some (aI (1 : Int32)), some (aI w)], [], (cm (upd (upd n 21 (n 13)) 17 (if n 13 = 0 then 2 else 1)) t v ld sh o cd pl ka kb kc, D, E))) rfl trivial ?_
  exact z_Ev_vretE rfl rfl (by rfl)
theorem o_minus_1 {xs : Nat → Int32} {L : Nat} (w : Int32) (n t : Nat → Int32) (v : Nat → Nat → Int32) (ld sh o cd pl ka kb kc : Nat → Int32) (D : Nat → Nat → Int32) (E : Nat → Int64)  : z_Mt xs L m_X4_obey [aR 0 16, aI (45 : Int32), aI (1 : Int32), aI w] (cm n t v ld sh o cd pl ka kb kc, D, E) (.inl (none)) (cm (upd (upd n 21 0) 17 0) t v ld sh o cd pl ka kb kc, D, E) 0 := by
  refine z_Ev_blk 2 (c' := (58, [some (aR 0 16), some (aI (45 : Int32)), some (aI (1 : Int32)), some (aI w)], [], (cm n t v ld sh o cd pl ka kb kc, D, E))) rfl trivial ?_
  refine z_Ev_blk 5 (c' := (67, [some (aR 0 16), some (aI (45 : Int32)), some (aI (1 : Int32)), some (aI w)], [aI (0 : Int32), aI (1 : Int32), aR 0 1], (cm n t v ld sh o cd pl ka kb kc, D, E))) rfl trivial ?_
  refine z_Ev_call0 (m' := m_X0_become) (as := [aR 0 1, aI (1 : Int32), aI (0 : Int32)]) (r := []) (c_become_0_1 (0 : Int32) n t v ld sh o cd pl ka kb kc D E) rfl rfl ?_
  refine z_Ev_blk 1 (c' := (125, [some (aR 0 16), some (aI (45 : Int32)), some (aI (1 : Int32)), some (aI w)], [], (cm (upd (upd n 21 0) 17 (0 : Int32)) t v ld sh o cd pl ka kb kc, D, E))) rfl trivial ?_
  exact z_Ev_vretE rfl rfl (by rfl)
theorem a_plus_2_1 {xs : Nat → Int32} {L : Nat}  (n t : Nat → Int32) (v : Nat → Nat → Int32) (ld sh o cd pl ka kb kc : Nat → Int32) (D : Nat → Nat → Int32) (E : Nat → Int64) (hp : n 18 = 0) : z_Mt xs L m_X4_isAllowed [aR 0 16, aI (43 : Int32), aI (2 : Int32)] (cm n t v ld sh o cd pl ka kb kc, D, E) (.inl (some (aI 1))) (cm n t v ld sh o cd pl ka kb kc, D, E) 0 := by
  refine z_Ev_blk 2 (c' := (44, [some (aR 0 16), some (aI (43 : Int32)), some (aI (2 : Int32))], [], (cm n t v ld sh o cd pl ka kb kc, D, E))) rfl trivial ?_
  refine z_Ev_blk 1 (c' := (45, [some (aR 0 16), some (aI (43 : Int32)), some (aI (2 : Int32))], [aI (2 : Int32)], (cm n t v ld sh o cd pl ka kb kc, D, E))) rfl trivial ?_
  refine z_Ev_call0 (m' := m_X4_isSet) (as := [aI (2 : Int32)]) (r := []) ((by have q := e_isSet (xs := xs) (L := L) (2 : Int32) (cm n t v ld sh o cd pl ka kb kc) D E; rw [f_b_t (by decide)] at q; exact q)) rfl rfl ?_
  refine z_Ev_blk 1 (c' := ((if (1 : Int32) = 0 then 70 else 51), [some (aR 0 16), some (aI (43 : Int32)), some (aI (2 : Int32))], [], (cm n t v ld sh o cd pl ka kb kc, D, E))) rfl trivial ?_
  refine z_Ev_else (by decide) ?_
  refine z_Ev_blk 7 (c' := ((if (n 18) = 0 then 66 else 70), [some (aR 0 16), some (aI (43 : Int32)), some (aI (2 : Int32))], [], (cm n t v ld sh o cd pl ka kb kc, D, E))) rfl ⟨rfl, trivial⟩ ?_
  refine z_Ev_if (hp) ?_
  refine z_Ev_blk 2 (c' := (71, [some (aR 0 16), some (aI (43 : Int32)), some (aI (2 : Int32))], [aI (1 : Int32)], (cm n t v ld sh o cd pl ka kb kc, D, E))) rfl trivial ?_
  exact z_Ev_zretE rfl rfl (rfl) (by rfl) (by rfl)
theorem a_minus_2_1 {xs : Nat → Int32} {L : Nat}  (n t : Nat → Int32) (v : Nat → Nat → Int32) (ld sh o cd pl ka kb kc : Nat → Int32) (D : Nat → Nat → Int32) (E : Nat → Int64) (hp : (n 18 = 1 ∨ n 18 = 2)) : z_Mt xs L m_X4_isAllowed [aR 0 16, aI (45 : Int32), aI (2 : Int32)] (cm n t v ld sh o cd pl ka kb kc, D, E) (.inl (some (aI 1))) (cm n t v ld sh o cd pl ka kb kc, D, E) 0 := by
  refine z_Ev_blk 2 (c' := (72, [some (aR 0 16), some (aI (45 : Int32)), some (aI (2 : Int32))], [], (cm n t v ld sh o cd pl ka kb kc, D, E))) rfl trivial ?_
  refine z_Ev_blk 1 (c' := (73, [some (aR 0 16), some (aI (45 : Int32)), some (aI (2 : Int32))], [aI (2 : Int32)], (cm n t v ld sh o cd pl ka kb kc, D, E))) rfl trivial ?_
  refine z_Ev_call0 (m' := m_X4_isSet) (as := [aI (2 : Int32)]) (r := []) ((by have q := e_isSet (xs := xs) (L := L) (2 : Int32) (cm n t v ld sh o cd pl ka kb kc) D E; rw [f_b_t (by decide)] at q; exact q)) rfl rfl ?_
  refine z_Ev_blk 1 (c' := ((if (1 : Int32) = 0 then 97 else 79), [some (aR 0 16), some (aI (45 : Int32)), some (aI (2 : Int32))], [], (cm n t v ld sh o cd pl ka kb kc, D, E))) rfl trivial ?_
  refine z_Ev_else (by decide) ?_
  refine z_Ev_blk 4 (c' := (87, [some (aR 0 16), some (aI (45 : Int32)), some (aI (2 : Int32))], [aI (2 : Int32), aR 0 1], (cm n t v ld sh o cd pl ka kb kc, D, E))) rfl trivial ?_
  refine z_Ev_call0 (m' := m_X0_isInUse) (as := [aR 0 1, aI (2 : Int32)]) (r := []) ((by have q := c_isInUse_2 (xs := xs) (L := L) n t v ld sh o cd pl ka kb kc D E; rw [f_b_t hp] at q; exact q)) rfl rfl ?_
  refine z_Ev_blk 1 (c' := ((if (1 : Int32) = 0 then 97 else 93), [some (aR 0 16), some (aI (45 : Int32)), some (aI (2 : Int32))], [], (cm n t v ld sh o cd pl ka kb kc, D, E))) rfl trivial ?_
  refine z_Ev_else (by decide) ?_
  refine z_Ev_blk 2 (c' := (98, [some (aR 0 16), some (aI (45 : Int32)), some (aI (2 : Int32))], [aI (1 : Int32)], (cm n t v ld sh o cd pl ka kb kc, D, E))) rfl trivial ?_
  exact z_Ev_zretE rfl rfl (rfl) (by rfl) (by rfl)
theorem a_plus_2_0 {xs : Nat → Int32} {L : Nat}  (n t : Nat → Int32) (v : Nat → Nat → Int32) (ld sh o cd pl ka kb kc : Nat → Int32) (D : Nat → Nat → Int32) (E : Nat → Int64) (hp : ¬ n 18 = 0) : z_Mt xs L m_X4_isAllowed [aR 0 16, aI (43 : Int32), aI (2 : Int32)] (cm n t v ld sh o cd pl ka kb kc, D, E) (.inl (some (aI 0))) (cm n t v ld sh o cd pl ka kb kc, D, E) 0 := by
  refine z_Ev_blk 2 (c' := (44, [some (aR 0 16), some (aI (43 : Int32)), some (aI (2 : Int32))], [], (cm n t v ld sh o cd pl ka kb kc, D, E))) rfl trivial ?_
  refine z_Ev_blk 1 (c' := (45, [some (aR 0 16), some (aI (43 : Int32)), some (aI (2 : Int32))], [aI (2 : Int32)], (cm n t v ld sh o cd pl ka kb kc, D, E))) rfl trivial ?_
  refine z_Ev_call0 (m' := m_X4_isSet) (as := [aI (2 : Int32)]) (r := []) ((by have q := e_isSet (xs := xs) (L := L) (2 : Int32) (cm n t v ld sh o cd pl ka kb kc) D E; rw [f_b_t (by decide)] at q; exact q)) rfl rfl ?_
  refine z_Ev_blk 1 (c' := ((if (1 : Int32) = 0 then 70 else 51), [some (aR 0 16), some (aI (43 : Int32)), some (aI (2 : Int32))], [], (cm n t v ld sh o cd pl ka kb kc, D, E))) rfl trivial ?_
  refine z_Ev_else (by decide) ?_
  refine z_Ev_blk 7 (c' := ((if (n 18) = 0 then 66 else 70), [some (aR 0 16), some (aI (43 : Int32)), some (aI (2 : Int32))], [], (cm n t v ld sh o cd pl ka kb kc, D, E))) rfl ⟨rfl, trivial⟩ ?_
  refine z_Ev_else (hp) ?_
  refine z_Ev_blk 1 (c' := (71, [some (aR 0 16), some (aI (43 : Int32)), some (aI (2 : Int32))], [aI (0 : Int32)], (cm n t v ld sh o cd pl ka kb kc, D, E))) rfl trivial ?_
  exact z_Ev_zretE rfl rfl (rfl) (by rfl) (by rfl)
theorem a_minus_2_0 {xs : Nat → Int32} {L : Nat}  (n t : Nat → Int32) (v : Nat → Nat → Int32) (ld sh o cd pl ka kb kc : Nat → Int32) (D : Nat → Nat → Int32) (E : Nat → Int64) (hp : ¬ (n 18 = 1 ∨ n 18 = 2)) : z_Mt xs L m_X4_isAllowed [aR 0 16, aI (45 : Int32), aI (2 : Int32)] (cm n t v ld sh o cd pl ka kb kc, D, E) (.inl (some (aI 0))) (cm n t v ld sh o cd pl ka kb kc, D, E) 0 := by
  refine z_Ev_blk 2 (c' := (72, [some (aR 0 16), some (aI (45 : Int32)), some (aI (2 : Int32))], [], (cm n t v ld sh o cd pl ka kb kc, D, E))) rfl trivial ?_
  refine z_Ev_blk 1 (c' := (73, [some (aR 0 16), some (aI (45 : Int32)), some (aI (2 : Int32))], [aI (2 : Int32)], (cm n t v ld sh o cd pl ka kb kc, D, E))) rfl trivial ?_
  refine z_Ev_call0 (m' := m_X4_isSet) (as := [aI (2 : Int32)]) (r := []) ((by have q := e_isSet (xs := xs) (L := L) (2 : Int32) (cm n t v ld sh o cd pl ka kb kc) D E; rw [f_b_t (by decide)] at q; exact q)) rfl rfl ?_
  refine z_Ev_blk 1 (c' := ((if (1 : Int32) = 0 then 97 else 79), [some (aR 0 16), some (aI (45 : Int32)), some (aI (2 : Int32))], [], (cm n t v ld sh o cd pl ka kb kc, D, E))) rfl trivial ?_
  refine z_Ev_else (by decide) ?_
  refine z_Ev_blk 4 (c' := (87, [some (aR 0 16), some (aI (45 : Int32)), some (aI (2 : Int32))], [aI (2 : Int32), aR 0 1], (cm n t v ld sh o cd pl ka kb kc, D, E))) rfl trivial ?_
  refine z_Ev_call0 (m' := m_X0_isInUse) (as := [aR 0 1, aI (2 : Int32)]) (r := []) ((by have q := c_isInUse_2 (xs := xs) (L := L) n t v ld sh o cd pl ka kb kc D E; rw [f_b_f hp] at q; exact q)) rfl rfl ?_
  refine z_Ev_blk 1 (c' := ((if (0 : Int32) = 0 then 97 else 93), [some (aR 0 16), some (aI (45 : Int32)), some (aI (2 : Int32))], [], (cm n t v ld sh o cd pl ka kb kc, D, E))) rfl trivial ?_
  refine z_Ev_if (by decide) ?_
  refine z_Ev_blk 1 (c' := (98, [some (aR 0 16), some (aI (45 : Int32)), some (aI (2 : Int32))], [aI (0 : Int32)], (cm n t v ld sh o cd pl ka kb kc, D, E))) rfl trivial ?_
  exact z_Ev_zretE rfl rfl (rfl) (by rfl) (by rfl)
theorem o_plus_2 {xs : Nat → Int32} {L : Nat} (w : Int32) (n t : Nat → Int32) (v : Nat → Nat → Int32) (ld sh o cd pl ka kb kc : Nat → Int32) (D : Nat → Nat → Int32) (E : Nat → Int64)  : z_Mt xs L m_X4_obey [aR 0 16, aI (43 : Int32), aI (2 : Int32), aI w] (cm n t v ld sh o cd pl ka kb kc, D, E) (.inl (none)) (cm (upd (upd n 22 (n 14)) 18 (if n 14 = 0 then 2 else 1)) t v ld sh o cd pl ka kb kc, D, E) 0 := by
  refine z_Ev_blk 2 (c' := (44, [some (aR 0 16), some (aI (43 : Int32)), some (aI (2 : Int32)), some (aI w)], [], (cm n t v ld sh o cd pl ka kb kc, D, E))) rfl trivial ?_
  refine z_Ev_blk 4 (c' := (52, [some (aR 0 16), some (aI (43 : Int32)), some (aI (2 : Int32)), some (aI w)], [aI (2 : Int32), aR 0 1], (cm n t v ld sh o cd pl ka kb kc, D, E))) rfl trivial ?_
  refine z_Ev_call0 (m' := m_X0_begin) (as := [aR 0 1, aI (2 : Int32)]) (r := []) (c_begin_0_2 n t v ld sh o cd pl ka kb kc D E) rfl rfl ?_
  refine z_Ev_blk 1 (c' := (125, [some (aR 0 16), some (aI (43 : Int32)), some (aI (2 : Int32)), some (aI w)], [], (cm (upd (upd n 22 (n 14)) 18 (if n 14 = 0 then 2 else 1)) t v ld sh o cd pl ka kb kc, D, E))) rfl trivial ?_
  exact z_Ev_vretE rfl rfl (by rfl)
theorem o_minus_2 {xs : Nat → Int32} {L : Nat} (w : Int32) (n t : Nat → Int32) (v : Nat → Nat → Int32) (ld sh o cd pl ka kb kc : Nat → Int32) (D : Nat → Nat → Int32) (E : Nat → Int64)  : z_Mt xs L m_X4_obey [aR 0 16, aI (45 : Int32), aI (2 : Int32), aI w] (cm n t v ld sh o cd pl ka kb kc, D, E) (.inl (none)) (cm (upd (upd n 22 0) 18 0) t v ld sh o cd pl ka kb kc, D, E) 0 := by
  refine z_Ev_blk 2 (c' := (58, [some (aR 0 16), some (aI (45 : Int32)), some (aI (2 : Int32)), some (aI w)], [], (cm n t v ld sh o cd pl ka kb kc, D, E))) rfl trivial ?_
  refine z_Ev_blk 5 (c' := (67, [some (aR 0 16), some (aI (45 : Int32)), some (aI (2 : Int32)), some (aI w)], [aI (0 : Int32), aI (2 : Int32), aR 0 1], (cm n t v ld sh o cd pl ka kb kc, D, E))) rfl trivial ?_
  refine z_Ev_call0 (m' := m_X0_become) (as := [aR 0 1, aI (2 : Int32), aI (0 : Int32)]) (r := []) (c_become_0_2 (0 : Int32) n t v ld sh o cd pl ka kb kc D E) rfl rfl ?_
  refine z_Ev_blk 1 (c' := (125, [some (aR 0 16), some (aI (45 : Int32)), some (aI (2 : Int32)), some (aI w)], [], (cm (upd (upd n 22 0) 18 (0 : Int32)) t v ld sh o cd pl ka kb kc, D, E))) rfl trivial ?_
  exact z_Ev_vretE rfl rfl (by rfl)
theorem a_plus_3_1 {xs : Nat → Int32} {L : Nat}  (n t : Nat → Int32) (v : Nat → Nat → Int32) (ld sh o cd pl ka kb kc : Nat → Int32) (D : Nat → Nat → Int32) (E : Nat → Int64) (hp : n 19 = 0) : z_Mt xs L m_X4_isAllowed [aR 0 16, aI (43 : Int32), aI (3 : Int32)] (cm n t v ld sh o cd pl ka kb kc, D, E) (.inl (some (aI 1))) (cm n t v ld sh o cd pl ka kb kc, D, E) 0 := by
  refine z_Ev_blk 2 (c' := (44, [some (aR 0 16), some (aI (43 : Int32)), some (aI (3 : Int32))], [], (cm n t v ld sh o cd pl ka kb kc, D, E))) rfl trivial ?_
  refine z_Ev_blk 1 (c' := (45, [some (aR 0 16), some (aI (43 : Int32)), some (aI (3 : Int32))], [aI (3 : Int32)], (cm n t v ld sh o cd pl ka kb kc, D, E))) rfl trivial ?_
  refine z_Ev_call0 (m' := m_X4_isSet) (as := [aI (3 : Int32)]) (r := []) ((by have q := e_isSet (xs := xs) (L := L) (3 : Int32) (cm n t v ld sh o cd pl ka kb kc) D E; rw [f_b_t (by decide)] at q; exact q)) rfl rfl ?_
  refine z_Ev_blk 1 (c' := ((if (1 : Int32) = 0 then 70 else 51), [some (aR 0 16), some (aI (43 : Int32)), some (aI (3 : Int32))], [], (cm n t v ld sh o cd pl ka kb kc, D, E))) rfl trivial ?_
  refine z_Ev_else (by decide) ?_
  refine z_Ev_blk 7 (c' := ((if (n 19) = 0 then 66 else 70), [some (aR 0 16), some (aI (43 : Int32)), some (aI (3 : Int32))], [], (cm n t v ld sh o cd pl ka kb kc, D, E))) rfl ⟨rfl, trivial⟩ ?_
  refine z_Ev_if (hp) ?_
  refine z_Ev_blk 2 (c' := (71, [some (aR 0 16), some (aI (43 : Int32)), some (aI (3 : Int32))], [aI (1 : Int32)], (cm n t v ld sh o cd pl ka kb kc, D, E))) rfl trivial ?_
  exact z_Ev_zretE rfl rfl (rfl) (by rfl) (by rfl)
theorem a_minus_3_1 {xs : Nat → Int32} {L : Nat}  (n t : Nat → Int32) (v : Nat → Nat → Int32) (ld sh o cd pl ka kb kc : Nat → Int32) (D : Nat → Nat → Int32) (E : Nat → Int64) (hp : (n 19 = 1 ∨ n 19 = 2)) : z_Mt xs L m_X4_isAllowed [aR 0 16, aI (45 : Int32), aI (3 : Int32)] (cm n t v ld sh o cd pl ka kb kc, D, E) (.inl (some (aI 1))) (cm n t v ld sh o cd pl ka kb kc, D, E) 0 := by
  refine z_Ev_blk 2 (c' := (72, [some (aR 0 16), some (aI (45 : Int32)), some (aI (3 : Int32))], [], (cm n t v ld sh o cd pl ka kb kc, D, E))) rfl trivial ?_
  refine z_Ev_blk 1 (c' := (73, [some (aR 0 16), some (aI (45 : Int32)), some (aI (3 : Int32))], [aI (3 : Int32)], (cm n t v ld sh o cd pl ka kb kc, D, E))) rfl trivial ?_
  refine z_Ev_call0 (m' := m_X4_isSet) (as := [aI (3 : Int32)]) (r := []) ((by have q := e_isSet (xs := xs) (L := L) (3 : Int32) (cm n t v ld sh o cd pl ka kb kc) D E; rw [f_b_t (by decide)] at q; exact q)) rfl rfl ?_
  refine z_Ev_blk 1 (c' := ((if (1 : Int32) = 0 then 97 else 79), [some (aR 0 16), some (aI (45 : Int32)), some (aI (3 : Int32))], [], (cm n t v ld sh o cd pl ka kb kc, D, E))) rfl trivial ?_
  refine z_Ev_else (by decide) ?_
  refine z_Ev_blk 4 (c' := (87, [some (aR 0 16), some (aI (45 : Int32)), some (aI (3 : Int32))], [aI (3 : Int32), aR 0 1], (cm n t v ld sh o cd pl ka kb kc, D, E))) rfl trivial ?_
  refine z_Ev_call0 (m' := m_X0_isInUse) (as := [aR 0 1, aI (3 : Int32)]) (r := []) ((by have q := c_isInUse_3 (xs := xs) (L := L) n t v ld sh o cd pl ka kb kc D E; rw [f_b_t hp] at q; exact q)) rfl rfl ?_
  refine z_Ev_blk 1 (c' := ((if (1 : Int32) = 0 then 97 else 93), [some (aR 0 16), some (aI (45 : Int32)), some (aI (3 : Int32))], [], (cm n t v ld sh o cd pl ka kb kc, D, E))) rfl trivial ?_
  refine z_Ev_else (by decide) ?_
  refine z_Ev_blk 2 (c' := (98, [some (aR 0 16), some (aI (45 : Int32)), some (aI (3 : Int32))], [aI (1 : Int32)], (cm n t v ld sh o cd pl ka kb kc, D, E))) rfl trivial ?_
  exact z_Ev_zretE rfl rfl (rfl) (by rfl) (by rfl)
theorem a_plus_3_0 {xs : Nat → Int32} {L : Nat}  (n t : Nat → Int32) (v : Nat → Nat → Int32) (ld sh o cd pl ka kb kc : Nat → Int32) (D : Nat → Nat → Int32) (E : Nat → Int64) (hp : ¬ n 19 = 0) : z_Mt xs L m_X4_isAllowed [aR 0 16, aI (43 : Int32), aI (3 : Int32)] (cm n t v ld sh o cd pl ka kb kc, D, E) (.inl (some (aI 0))) (cm n t v ld sh o cd pl ka kb kc, D, E) 0 := by
  refine z_Ev_blk 2 (c' := (44, [some (aR 0 16), some (aI (43 : Int32)), some (aI (3 : Int32))], [], (cm n t v ld sh o cd pl ka kb kc, D, E))) rfl trivial ?_
  refine z_Ev_blk 1 (c' := (45, [some (aR 0 16), some (aI (43 : Int32)), some (aI (3 : Int32))], [aI (3 : Int32)], (cm n t v ld sh o cd pl ka kb kc, D, E))) rfl trivial ?_
  refine z_Ev_call0 (m' := m_X4_isSet) (as := [aI (3 : Int32)]) (r := []) ((by have q := e_isSet (xs := xs) (L := L) (3 : Int32) (cm n t v ld sh o cd pl ka kb kc) D E; rw [f_b_t (by decide)] at q; exact q)) rfl rfl ?_
  refine z_Ev_blk 1 (c' := ((if (1 : Int32) = 0 then 70 else 51), [some (aR 0 16), some (aI (43 : Int32)), some (aI (3 : Int32))], [], (cm n t v ld sh o cd pl ka kb kc, D, E))) rfl trivial ?_
  refine z_Ev_else (by decide) ?_
  refine z_Ev_blk 7 (c' := ((if (n 19) = 0 then 66 else 70), [some (aR 0 16), some (aI (43 : Int32)), some (aI (3 : Int32))], [], (cm n t v ld sh o cd pl ka kb kc, D, E))) rfl ⟨rfl, trivial⟩ ?_
  refine z_Ev_else (hp) ?_
  refine z_Ev_blk 1 (c' := (71, [some (aR 0 16), some (aI (43 : Int32)), some (aI (3 : Int32))], [aI (0 : Int32)], (cm n t v ld sh o cd pl ka kb kc, D, E))) rfl trivial ?_
  exact z_Ev_zretE rfl rfl (rfl) (by rfl) (by rfl)
theorem a_minus_3_0 {xs : Nat → Int32} {L : Nat}  (n t : Nat → Int32) (v : Nat → Nat → Int32) (ld sh o cd pl ka kb kc : Nat → Int32) (D : Nat → Nat → Int32) (E : Nat → Int64) (hp : ¬ (n 19 = 1 ∨ n 19 = 2)) : z_Mt xs L m_X4_isAllowed [aR 0 16, aI (45 : Int32), aI (3 : Int32)] (cm n t v ld sh o cd pl ka kb kc, D, E) (.inl (some (aI 0))) (cm n t v ld sh o cd pl ka kb kc, D, E) 0 := by
  refine z_Ev_blk 2 (c' := (72, [some (aR 0 16), some (aI (45 : Int32)), some (aI (3 : Int32))], [], (cm n t v ld sh o cd pl ka kb kc, D, E))) rfl trivial ?_
  refine z_Ev_blk 1 (c' := (73, [some (aR 0 16), some (aI (45 : Int32)), some (aI (3 : Int32))], [aI (3 : Int32)], (cm n t v ld sh o cd pl ka kb kc, D, E))) rfl trivial ?_
  refine z_Ev_call0 (m' := m_X4_isSet) (as := [aI (3 : Int32)]) (r := []) ((by have q := e_isSet (xs := xs) (L := L) (3 : Int32) (cm n t v ld sh o cd pl ka kb kc) D E; rw [f_b_t (by decide)] at q; exact q)) rfl rfl ?_
  refine z_Ev_blk 1 (c' := ((if (1 : Int32) = 0 then 97 else 79), [some (aR 0 16), some (aI (45 : Int32)), some (aI (3 : Int32))], [], (cm n t v ld sh o cd pl ka kb kc, D, E))) rfl trivial ?_
  refine z_Ev_else (by decide) ?_
  refine z_Ev_blk 4 (c' := (87, [some (aR 0 16), some (aI (45 : Int32)), some (aI (3 : Int32))], [aI (3 : Int32), aR 0 1], (cm n t v ld sh o cd pl ka kb kc, D, E))) rfl trivial ?_
  refine z_Ev_call0 (m' := m_X0_isInUse) (as := [aR 0 1, aI (3 : Int32)]) (r := []) ((by have q := c_isInUse_3 (xs := xs) (L := L) n t v ld sh o cd pl ka kb kc D E; rw [f_b_f hp] at q; exact q)) rfl rfl ?_
  refine z_Ev_blk 1 (c' := ((if (0 : Int32) = 0 then 97 else 93), [some (aR 0 16), some (aI (45 : Int32)), some (aI (3 : Int32))], [], (cm n t v ld sh o cd pl ka kb kc, D, E))) rfl trivial ?_
  refine z_Ev_if (by decide) ?_
  refine z_Ev_blk 1 (c' := (98, [some (aR 0 16), some (aI (45 : Int32)), some (aI (3 : Int32))], [aI (0 : Int32)], (cm n t v ld sh o cd pl ka kb kc, D, E))) rfl trivial ?_
  exact z_Ev_zretE rfl rfl (rfl) (by rfl) (by rfl)
theorem o_plus_3 {xs : Nat → Int32} {L : Nat} (w : Int32) (n t : Nat → Int32) (v : Nat → Nat → Int32) (ld sh o cd pl ka kb kc : Nat → Int32) (D : Nat → Nat → Int32) (E : Nat → Int64)  : z_Mt xs L m_X4_obey [aR 0 16, aI (43 : Int32), aI (3 : Int32), aI w] (cm n t v ld sh o cd pl ka kb kc, D, E) (.inl (none)) (cm (upd (upd n 23 (n 15)) 19 (if n 15 = 0 then 2 else 1)) t v ld sh o cd pl ka kb kc, D, E) 0 := by
  refine z_Ev_blk 2 (c' := (44, [some (aR 0 16), some (aI (43 : Int32)), some (aI (3 : Int32)), some (aI w)], [], (cm n t v ld sh o cd pl ka kb kc, D, E))) rfl trivial ?_
  refine z_Ev_blk 4 (c' := (52, [some (aR 0 16), some (aI (43 : Int32)), some (aI (3 : Int32)), some (aI w)], [aI (3 : Int32), aR 0 1], (cm n t v ld sh o cd pl ka kb kc, D, E))) rfl trivial ?_
  refine z_Ev_call0 (m' := m_X0_begin) (as := [aR 0 1, aI (3 : Int32)]) (r := []) (c_begin_0_3 n t v ld sh o cd pl ka kb kc D E) rfl rfl ?_
  refine z_Ev_blk 1 (c' := (125, [some (aR 0 16), some (aI (43 : Int32)), some (aI (3 : Int32)), some (aI w)], [], (cm (upd (upd n 23 (n 15)) 19 (if n 15 = 0 then 2 else 1)) t v ld sh o cd pl ka kb kc, D, E))) rfl trivial ?_
  exact z_Ev_vretE rfl rfl (by rfl)
theorem o_minus_3 {xs : Nat → Int32} {L : Nat} (w : Int32) (n t : Nat → Int32) (v : Nat → Nat → Int32) (ld sh o cd pl ka kb kc : Nat → Int32) (D : Nat → Nat → Int32) (E : Nat → Int64)  : z_Mt xs L m_X4_obey [aR 0 16, aI (45 : Int32), aI (3 : Int32), aI w] (cm n t v ld sh o cd pl ka kb kc, D, E) (.inl (none)) (cm (upd (upd n 23 0) 19 0) t v ld sh o cd pl ka kb kc, D, E) 0 := by
  refine z_Ev_blk 2 (c' := (58, [some (aR 0 16), some (aI (45 : Int32)), some (aI (3 : Int32)), some (aI w)], [], (cm n t v ld sh o cd pl ka kb kc, D, E))) rfl trivial ?_
  refine z_Ev_blk 5 (c' := (67, [some (aR 0 16), some (aI (45 : Int32)), some (aI (3 : Int32)), some (aI w)], [aI (0 : Int32), aI (3 : Int32), aR 0 1], (cm n t v ld sh o cd pl ka kb kc, D, E))) rfl trivial ?_
  refine z_Ev_call0 (m' := m_X0_become) (as := [aR 0 1, aI (3 : Int32), aI (0 : Int32)]) (r := []) (c_become_0_3 (0 : Int32) n t v ld sh o cd pl ka kb kc D E) rfl rfl ?_
  refine z_Ev_blk 1 (c' := (125, [some (aR 0 16), some (aI (45 : Int32)), some (aI (3 : Int32)), some (aI w)], [], (cm (upd (upd n 23 0) 19 (0 : Int32)) t v ld sh o cd pl ka kb kc, D, E))) rfl trivial ?_
  exact z_Ev_vretE rfl rfl (by rfl)
theorem a_s {xs : Nat → Int32} {L : Nat} (x : Int32) (n t : Nat → Int32) (v : Nat → Nat → Int32) (ld sh o cd pl ka kb kc : Nat → Int32) (D : Nat → Nat → Int32) (E : Nat → Int64)  : z_Mt xs L m_X4_isAllowed [aR 0 16, aI (115 : Int32), aI x] (cm n t v ld sh o cd pl ka kb kc, D, E) (.inl (some (aI 1))) (cm n t v ld sh o cd pl ka kb kc, D, E) 0 := by
  refine z_Ev_blk 2 (c' := (131, [some (aR 0 16), some (aI (115 : Int32)), some (aI x)], [], (cm n t v ld sh o cd pl ka kb kc, D, E))) rfl trivial ?_
  refine z_Ev_blk 1 (c' := (132, [some (aR 0 16), some (aI (115 : Int32)), some (aI x)], [aI (1 : Int32)], (cm n t v ld sh o cd pl ka kb kc, D, E))) rfl trivial ?_
  exact z_Ev_zretE rfl rfl (rfl) (by rfl) (by rfl)
theorem o_s {xs : Nat → Int32} {L : Nat} (x w : Int32) (n t : Nat → Int32) (v : Nat → Nat → Int32) (ld sh o cd pl ka kb kc : Nat → Int32) (D : Nat → Nat → Int32) (E : Nat → Int64)  : z_Mt xs L m_X4_obey [aR 0 16, aI (115 : Int32), aI x, aI w] (cm n t v ld sh o cd pl ka kb kc, D, E) (.inl (none)) (cm (upd n 37 (if n 37 = 0 then 1 else 0)) t v ld sh o cd pl ka kb kc, D, E) 0 := by
  refine z_Ev_blk 2 (c' := (103, [some (aR 0 16), some (aI (115 : Int32)), some (aI x), some (aI w)], [], (cm n t v ld sh o cd pl ka kb kc, D, E))) rfl trivial ?_
  refine z_Ev_blk 6 (c' := ((if (n 37) = 0 then 117 else 121), [some (aR 0 16), some (aI (115 : Int32)), some (aI x), some (aI w)], [aR 0 0], (cm n t v ld sh o cd pl ka kb kc, D, E))) rfl trivial ?_
  refine z_Ev_ite (fun h1 => ?_) (fun h1 => ?_)
  · skip
    refine z_Ev_blk 3 (c' := (125, [some (aR 0 16), some (aI (115 : Int32)), some (aI x), some (aI w)], [], (up3 (cm n t v ld sh o cd pl ka kb kc) 0 0 6 (1 : Int32), D, E))) rfl ⟨rfl, trivial⟩ ?_
    rw [cmn_0_6]
    exact z_Ev_vretE rfl rfl (by simp [*])
  · skip
    refine z_Ev_blk 2 (c' := (125, [some (aR 0 16), some (aI (115 : Int32)), some (aI x), some (aI w)], [], (up3 (cm n t v ld sh o cd pl ka kb kc) 0 0 6 (0 : Int32), D, E))) rfl ⟨rfl, trivial⟩ ?_
    rw [cmn_0_6]
    exact z_Ev_vretE rfl rfl (by simp [*])
theorem a_h_1 {xs : Nat → Int32} {L : Nat} (x H : Nat) (n t : Nat → Int32) (v : Nat → Nat → Int32) (ld sh o cd pl ka kb kc : Nat → Int32) (D : Nat → Nat → Int32) (E : Nat → Int64) (h1 : 1 ≤ x) (h2 : x ≤ 48) (h34 : n 34 = nI H) (hH : H ≤ 48) (hp : H + x ≤ 48) : z_Mt xs L m_X4_isAllowed [aR 0 16, aI (104 : Int32), aI (nI x)] (cm n t v ld sh o cd pl ka kb kc, D, E) (.inl (some (aI 1))) (cm n t v ld sh o cd pl ka kb kc, D, E) 0 := by
  refine z_Ev_blk 2 (c' := (99, [some (aR 0 16), some (aI (104 : Int32)), some (aI (nI x))], [], (cm n t v ld sh o cd pl ka kb kc, D, E))) rfl trivial ?_
  refine z_Ev_blk 3 (c' := (103, [some (aR 0 16), some (aI (104 : Int32)), some (aI (nI x))], [aI (nI x), aI (48 : Int32), aI (1 : Int32)], (cm n t v ld sh o cd pl ka kb kc, D, E))) rfl trivial ?_
  refine z_Ev_call0 (m' := m_X4_isFrom) (as := [aI (1 : Int32), aI (48 : Int32), aI (nI x)]) (r := []) ((by have q := e_isFrom (xs := xs) (L := L) (1 : Int32) (48 : Int32) (nI x) (cm n t v ld sh o cd pl ka kb kc) D E; rw [f_b_t (⟨nI_le (a := 1) h1 (by omega), nI_le (b := 48) h2 (by decide)⟩)] at q; exact q)) rfl rfl ?_
  refine z_Ev_blk 1 (c' := ((if (1 : Int32) = 0 then 124 else 109), [some (aR 0 16), some (aI (104 : Int32)), some (aI (nI x))], [], (cm n t v ld sh o cd pl ka kb kc, D, E))) rfl trivial ?_
  refine z_Ev_else (by decide) ?_
  refine z_Ev_blk 3 (c' := (114, [some (aR 0 16), some (aI (104 : Int32)), some (aI (nI x))], [aI (nI x), aR 0 0], (cm n t v ld sh o cd pl ka kb kc, D, E))) rfl trivial ?_
  refine z_Ev_call0 (m' := m_X1_hasStill) (as := [aR 0 0, aI (nI x)]) (r := []) ((by have q := c_hasStill (xs := xs) (L := L) (nI x) n t v ld sh o cd pl ka kb kc D E; rw [f_b_t ((hasS h34 hH h2).mpr hp)] at q; exact q)) rfl rfl ?_
  refine z_Ev_blk 1 (c' := ((if (1 : Int32) = 0 then 124 else 120), [some (aR 0 16), some (aI (104 : Int32)), some (aI (nI x))], [], (cm n t v ld sh o cd pl ka kb kc, D, E))) rfl trivial ?_
  refine z_Ev_else (by decide) ?_
  refine z_Ev_blk 2 (c' := (125, [some (aR 0 16), some (aI (104 : Int32)), some (aI (nI x))], [aI (1 : Int32)], (cm n t v ld sh o cd pl ka kb kc, D, E))) rfl trivial ?_
  exact z_Ev_zretE rfl rfl (rfl) (by rfl) (by rfl)
theorem a_h_0 {xs : Nat → Int32} {L : Nat} (x H : Nat) (n t : Nat → Int32) (v : Nat → Nat → Int32) (ld sh o cd pl ka kb kc : Nat → Int32) (D : Nat → Nat → Int32) (E : Nat → Int64) (h1 : 1 ≤ x) (h2 : x ≤ 48) (h34 : n 34 = nI H) (hH : H ≤ 48) (hp : ¬ H + x ≤ 48) : z_Mt xs L m_X4_isAllowed [aR 0 16, aI (104 : Int32), aI (nI x)] (cm n t v ld sh o cd pl ka kb kc, D, E) (.inl (some (aI 0))) (cm n t v ld sh o cd pl ka kb kc, D, E) 0 := by
  refine z_Ev_blk 2 (c' := (99, [some (aR 0 16), some (aI (104 : Int32)), some (aI (nI x))], [], (cm n t v ld sh o cd pl ka kb kc, D, E))) rfl trivial ?_
  refine z_Ev_blk 3 (c' := (103, [some (aR 0 16), some (aI (104 : Int32)), some (aI (nI x))], [aI (nI x), aI (48 : Int32), aI (1 : Int32)], (cm n t v ld sh o cd pl ka kb kc, D, E))) rfl trivial ?_
  refine z_Ev_call0 (m' := m_X4_isFrom) (as := [aI (1 : Int32), aI (48 : Int32), aI (nI x)]) (r := []) ((by have q := e_isFrom (xs := xs) (L := L) (1 : Int32) (48 : Int32) (nI x) (cm n t v ld sh o cd pl ka kb kc) D E; rw [f_b_t (⟨nI_le (a := 1) h1 (by omega), nI_le (b := 48) h2 (by decide)⟩)] at q; exact q)) rfl rfl ?_
  refine z_Ev_blk 1 (c' := ((if (1 : Int32) = 0 then 124 else 109), [some (aR 0 16), some (aI (104 : Int32)), some (aI (nI x))], [], (cm n t v ld sh o cd pl ka kb kc, D, E))) rfl trivial ?_
  refine z_Ev_else (by decide) ?_
  refine z_Ev_blk 3 (c' := (114, [some (aR 0 16), some (aI (104 : Int32)), some (aI (nI x))], [aI (nI x), aR 0 0], (cm n t v ld sh o cd pl ka kb kc, D, E))) rfl trivial ?_
  refine z_Ev_call0 (m' := m_X1_hasStill) (as := [aR 0 0, aI (nI x)]) (r := []) ((by have q := c_hasStill (xs := xs) (L := L) (nI x) n t v ld sh o cd pl ka kb kc D E; rw [f_b_f (fun z => hp ((hasS h34 hH h2).mp z))] at q; exact q)) rfl rfl ?_
  refine z_Ev_blk 1 (c' := ((if (0 : Int32) = 0 then 124 else 120), [some (aR 0 16), some (aI (104 : Int32)), some (aI (nI x))], [], (cm n t v ld sh o cd pl ka kb kc, D, E))) rfl trivial ?_
  refine z_Ev_if (by decide) ?_
  refine z_Ev_blk 1 (c' := (125, [some (aR 0 16), some (aI (104 : Int32)), some (aI (nI x))], [aI (0 : Int32)], (cm n t v ld sh o cd pl ka kb kc, D, E))) rfl trivial ?_
  exact z_Ev_zretE rfl rfl (rfl) (by rfl) (by rfl)
theorem a_f {xs : Nat → Int32} {L : Nat} (h : Nat) (n t : Nat → Int32) (v : Nat → Nat → Int32) (ld sh o cd pl ka kb kc : Nat → Int32) (D : Nat → Nat → Int32) (E : Nat → Int64) (hh : h < 48) : z_Mt xs L m_X4_isAllowed [aR 0 16, aI (102 : Int32), aI (nI h)] (cm n t v ld sh o cd pl ka kb kc, D, E) (.inl (some (aI 1))) (cm n t v ld sh o cd pl ka kb kc, D, E) 0 := by
  refine z_Ev_blk 2 (c' := (126, [some (aR 0 16), some (aI (102 : Int32)), some (aI (nI h))], [], (cm n t v ld sh o cd pl ka kb kc, D, E))) rfl trivial ?_
  refine z_Ev_blk 1 (c' := (127, [some (aR 0 16), some (aI (102 : Int32)), some (aI (nI h))], [aI (nI h)], (cm n t v ld sh o cd pl ka kb kc, D, E))) rfl trivial ?_
  refine z_Ev_call0 (m' := m_X4_isHour) (as := [aI (nI h)]) (r := []) ((by have q := e_isHour (xs := xs) (L := L) (nI h) (cm n t v ld sh o cd pl ka kb kc) D E; rw [f_b_t (nI47 hh)] at q; exact q)) rfl rfl ?_
  exact z_Ev_zretE rfl rfl (rfl) (by rfl) (by rfl)
theorem o_f {xs : Nat → Int32} {L : Nat} (h : Nat) (w : Int32) (n t : Nat → Int32) (v : Nat → Nat → Int32) (ld sh o cd pl ka kb kc : Nat → Int32) (D : Nat → Nat → Int32) (E : Nat → Int64) (hh : h < 48) : z_Mt xs L m_X4_obey [aR 0 16, aI (102 : Int32), aI (nI h), aI w] (cm n t v ld sh o cd pl ka kb kc, D, E) (.inl (none)) (cm (upd n (40 + h) w) t v ld sh o cd pl ka kb kc, D, E) 0 := by
  refine z_Ev_blk 2 (c' := (88, [some (aR 0 16), some (aI (102 : Int32)), some (aI (nI h)), some (aI w)], [], (cm n t v ld sh o cd pl ka kb kc, D, E))) rfl trivial ?_
  refine z_Ev_blk 8 (c' := (100, [some (aR 0 16), some (aI (102 : Int32)), some (aI (nI h)), some (aI w)], [], (up3 (cm n t v ld sh o cd pl ka kb kc) 0 11 ((nI h).toNatClampNeg) w, D, E))) rfl ⟨rfl, (inb_nI (show h < 48 by omega) (by decide)), trivial⟩ ?_
  rw [nI_clamp (show h < 2 ^ 31 by omega)]
  rw [cmn_11_0 (hh)]
  refine z_Ev_blk 1 (c' := (125, [some (aR 0 16), some (aI (102 : Int32)), some (aI (nI h)), some (aI w)], [], (cm (upd n (40 + h) w) t v ld sh o cd pl ka kb kc, D, E))) rfl trivial ?_
  exact z_Ev_vretE rfl rfl (by rfl)
theorem o_h {xs : Nat → Int32} {L : Nat} (x H : Nat) (w : Int32) (Z LD SH : Nat → Int32) (n t : Nat → Int32) (v : Nat → Nat → Int32) (ld sh o cd pl ka kb kc : Nat → Int32) (D : Nat → Nat → Int32) (E : Nat → Int64) (hV : Vs n H) (h2 : x ≤ 48) (hp : H + x ≤ 48) (hY : cTI x (n, ld, sh) = (Z, LD, SH)) : z_Mt xs L m_X4_obey [aR 0 16, aI (104 : Int32), aI (nI x), aI w] (cm n t v ld sh o cd pl ka kb kc, D, E) (.inl (none)) (cm Z t v LD SH o cd pl ka kb kc, D, E) 0 := by
  refine z_Ev_blk 2 (c' := (73, [some (aR 0 16), some (aI (104 : Int32)), some (aI (nI x)), some (aI w)], [], (cm n t v ld sh o cd pl ka kb kc, D, E))) rfl trivial ?_
  refine z_Ev_blk 5 (c' := (82, [some (aR 0 16), some (aI (104 : Int32)), some (aI (nI x)), some (aI w)], [aR 0 23, aI (nI x), aR 0 0], (cm n t v ld sh o cd pl ka kb kc, D, E))) rfl trivial ?_
  refine z_Ev_call0 (m' := m_X1_letHoursGoBy) (as := [aR 0 0, aI (nI x), aR 0 23]) (r := []) ((by have q := c_hours_0 (xs := xs) (L := L) n t v ld sh o cd pl ka kb kc D E x H (by omega) hV; rw [show min (x - 0) (48 - H) = x by omega, hY] at q; exact q)) rfl rfl ?_
  refine z_Ev_blk 1 (c' := (125, [some (aR 0 16), some (aI (104 : Int32)), some (aI (nI x)), some (aI w)], [], (cm Z t v LD SH o cd pl ka kb kc, D, E))) rfl trivial ?_
  exact z_Ev_vretE rfl rfl (by rfl)
def OrdPost (xs : Nat → Int32) (L : Nat) (c one two : Int32) (n t : Nat → Int32) (v : Nat → Nat → Int32) (ld sh o cd pl ka kb kc : Nat → Int32) (D : Nat → Nat → Int32) (E : Nat → Int64) (r : Option (Nat → Int32)) : Prop := match r with
  | some N => z_Mt xs L m_X4_isAllowed [aR 0 16, aI c, aI one] (cm n t v ld sh o cd pl ka kb kc, D, E) (.inl (some (aI 1))) (cm n t v ld sh o cd pl ka kb kc, D, E) 0 ∧ ∃ LD SH : Nat → Int32, z_Mt xs L m_X4_obey [aR 0 16, aI c, aI one, aI two] (cm n t v ld sh o cd pl ka kb kc, D, E) (.inl none) (cm N t v LD SH o cd pl ka kb kc, D, E) 0
  | none => z_Mt xs L m_X4_isAllowed [aR 0 16, aI c, aI one] (cm n t v ld sh o cd pl ka kb kc, D, E) (.inl (some (aI 0))) (cm n t v ld sh o cd pl ka kb kc, D, E) 0
theorem c_ord {xs : Nat → Int32} {L : Nat} (H : Nat) (c one two : Int32) (n t : Nat → Int32) (v : Nat → Nat → Int32) (ld sh o cd pl ka kb kc : Nat → Int32) (D : Nat → Nat → Int32) (E : Nat → Int64) (hV : Vs n H) (hK : ordK c one two) : OrdPost xs L c one two n t v ld sh o cd pl ka kb kc D E (oS n c one two) := by
  rcases hK with ⟨hc, ho⟩ | hc | ⟨hc, x, h1, h2, ho⟩ | ⟨hc, h, hh, ho, -⟩
  · rcases hc with hc | hc <;> subst hc
    · rcases ho with ho | ho | ho | ho <;> subst ho
      · have e : oS n 43 0 two = if n 16 = 0 then some (bgF n 0) else none := rfl
        rw [e]
        by_cases q : n 16 = 0
        · rw [if_pos q]
          exact ⟨a_plus_0_1 n t v ld sh o cd pl ka kb kc D E q, ld, sh, o_plus_0 two n t v ld sh o cd pl ka kb kc D E⟩
        · rw [if_neg q]
          exact a_plus_0_0 n t v ld sh o cd pl ka kb kc D E q
      · have e : oS n 43 1 two = if n 17 = 0 then some (bgF n 1) else none := rfl
        rw [e]
        by_cases q : n 17 = 0
        · rw [if_pos q]
          exact ⟨a_plus_1_1 n t v ld sh o cd pl ka kb kc D E q, ld, sh, o_plus_1 two n t v ld sh o cd pl ka kb kc D E⟩
        · rw [if_neg q]
          exact a_plus_1_0 n t v ld sh o cd pl ka kb kc D E q
      · have e : oS n 43 2 two = if n 18 = 0 then some (bgF n 2) else none := rfl
        rw [e]
        by_cases q : n 18 = 0
        · rw [if_pos q]
          exact ⟨a_plus_2_1 n t v ld sh o cd pl ka kb kc D E q, ld, sh, o_plus_2 two n t v ld sh o cd pl ka kb kc D E⟩
        · rw [if_neg q]
          exact a_plus_2_0 n t v ld sh o cd pl ka kb kc D E q
      · have e : oS n 43 3 two = if n 19 = 0 then some (bgF n 3) else none := rfl
        rw [e]
        by_cases q : n 19 = 0
        · rw [if_pos q]
          exact ⟨a_plus_3_1 n t v ld sh o cd pl ka kb kc D E q, ld, sh, o_plus_3 two n t v ld sh o cd pl ka kb kc D E⟩
        · rw [if_neg q]
          exact a_plus_3_0 n t v ld sh o cd pl ka kb kc D E q
    · rcases ho with ho | ho | ho | ho <;> subst ho
      · have e : oS n 45 0 two = if n 16 = 1 ∨ n 16 = 2 then some (stF n 0) else none := rfl
        rw [e]
        by_cases q : n 16 = 1 ∨ n 16 = 2
        · rw [if_pos q]
          refine ⟨a_minus_0_1 n t v ld sh o cd pl ka kb kc D E q, ld, sh, ?_⟩
          have K := o_minus_0 (xs := xs) (L := L) two n t v ld sh o cd pl ka kb kc D E
          rw [upd_comm (by decide)] at K
          exact K
        · rw [if_neg q]
          exact a_minus_0_0 n t v ld sh o cd pl ka kb kc D E q
      · have e : oS n 45 1 two = if n 17 = 1 ∨ n 17 = 2 then some (stF n 1) else none := rfl
        rw [e]
        by_cases q : n 17 = 1 ∨ n 17 = 2
        · rw [if_pos q]
          refine ⟨a_minus_1_1 n t v ld sh o cd pl ka kb kc D E q, ld, sh, ?_⟩
          have K := o_minus_1 (xs := xs) (L := L) two n t v ld sh o cd pl ka kb kc D E
          rw [upd_comm (by decide)] at K
          exact K
        · rw [if_neg q]
          exact a_minus_1_0 n t v ld sh o cd pl ka kb kc D E q
      · have e : oS n 45 2 two = if n 18 = 1 ∨ n 18 = 2 then some (stF n 2) else none := rfl
        rw [e]
        by_cases q : n 18 = 1 ∨ n 18 = 2
        · rw [if_pos q]
          refine ⟨a_minus_2_1 n t v ld sh o cd pl ka kb kc D E q, ld, sh, ?_⟩
          have K := o_minus_2 (xs := xs) (L := L) two n t v ld sh o cd pl ka kb kc D E
          rw [upd_comm (by decide)] at K
          exact K
        · rw [if_neg q]
          exact a_minus_2_0 n t v ld sh o cd pl ka kb kc D E q
      · have e : oS n 45 3 two = if n 19 = 1 ∨ n 19 = 2 then some (stF n 3) else none := rfl
        rw [e]
        by_cases q : n 19 = 1 ∨ n 19 = 2
        · rw [if_pos q]
          refine ⟨a_minus_3_1 n t v ld sh o cd pl ka kb kc D E q, ld, sh, ?_⟩
          have K := o_minus_3 (xs := xs) (L := L) two n t v ld sh o cd pl ka kb kc D E
          rw [upd_comm (by decide)] at K
          exact K
        · rw [if_neg q]
          exact a_minus_3_0 n t v ld sh o cd pl ka kb kc D E q
  · subst hc
    rw [oS_s]
    refine ⟨a_s one n t v ld sh o cd pl ka kb kc D E, ld, sh, ?_⟩
    have K := o_s (xs := xs) (L := L) one two n t v ld sh o cd pl ka kb kc D E
    rw [show (if n 37 = 0 then (1 : Int32) else 0) = 1 - n 37 from by
      rcases isB_or (Vs_b6 hV) with e | e <;> rw [e] <;> decide] at K
    exact K
  · subst hc
    subst ho
    rw [oS_h hV.2.1.1 hV.2.1.2 h2]
    by_cases q : H + x ≤ 48
    · rw [if_pos q]
      refine ⟨a_h_1 x H n t v ld sh o cd pl ka kb kc D E h1 h2 hV.2.1.1 hV.2.1.2 q, (cTI x (n, ld, sh)).2.1, (cTI x (n, ld, sh)).2.2, ?_⟩
      have K := o_h (xs := xs) (L := L) x H two (cTI x (n, ld, sh)).1 (cTI x (n, ld, sh)).2.1 (cTI x (n, ld, sh)).2.2 n t v ld sh o cd pl ka kb kc D E hV h2 q rfl
      rw [cTI_1] at K
      exact K
    · rw [if_neg q]
      exact a_h_0 x H n t v ld sh o cd pl ka kb kc D E h1 h2 hV.2.1.1 hV.2.1.2 q
  · subst hc
    subst ho
    rw [oS_f hh]
    exact ⟨a_f h n t v ld sh o cd pl ka kb kc D E hh, ld, sh, o_f h two n t v ld sh o cd pl ka kb kc D E hh⟩
theorem c_firstError0 {xs : Nat → Int32} {L : Nat} (c p : Nat) (PL A B C : Nat → Int32) (n t : Nat → Int32) (v : Nat → Nat → Int32) (ld sh o cd pl ka kb kc : Nat → Int32) (D : Nat → Nat → Int32) (E : Nat → Int64) (h6 : o 6 = nI c) (hR : z_Mt xs L m_X2_read [aR 0 19, aR 0 18, aI (nI c)] (cm n t v ld sh o cd pl ka kb kc, D, E) (.inl (some (aI (nI p)))) (cm n t v ld sh o cd PL A B C, D, E) 0) : z_Mt xs L m_X4_firstError [aR 0 16] (cm n t v ld sh o cd pl ka kb kc, D, E) (.inl (some (aI (nI p)))) (cm n t v ld sh o cd PL A B C, D, E) 0 := by
  refine z_Ev_blk 6 (c' := (12, [some (aR 0 16)], [aI (o 6), aR 0 18, aR 0 19], (cm n t v ld sh o cd pl ka kb kc, D, E))) rfl trivial ?_
  rw [h6]
  refine z_Ev_call0 (m' := m_X2_read) (as := [aR 0 19, aR 0 18, aI (nI c)]) (r := []) (hR) rfl rfl ?_
  exact z_Ev_iretE rfl rfl (by rfl) (by rfl)
theorem c_runA1 {xs : Nat → Int32} {L : Nat} (c p : Nat) (PL A B C : Nat → Int32) (n t : Nat → Int32) (v : Nat → Nat → Int32) (ld sh o cd pl ka kb kc : Nat → Int32) (D : Nat → Nat → Int32) (E : Nat → Int64) (h6 : o 6 = nI c) (hR : z_Mt xs L m_X2_read [aR 0 19, aR 0 18, aI (nI c)] (cm n t v ld sh o cd pl ka kb kc, D, E) (.inl (some (aI (nI p)))) (cm n t v ld sh o cd PL A B C, D, E) 0) (hne : ¬ nI p = nI c) : z_Mt xs L m_X4_run [aR 0 16] (cm n t v ld sh o cd pl ka kb kc, D, E) (.inr 0) (cm n t v ld sh o cd PL A B C, D, E) 1 := by
  refine z_Ev_blk 6 (c' := (12, [some (aR 0 16), none], [aI (o 6), aR 0 18, aR 0 19], (cm n t v ld sh o cd pl ka kb kc, D, E))) rfl trivial ?_
  rw [h6]
  refine z_Ev_call0 (m' := m_X2_read) (as := [aR 0 19, aR 0 18, aI (nI c)]) (r := []) (hR) rfl rfl ?_
  refine z_Ev_blk 2 (c' := (19, [some (aR 0 16), none], [aI (o 6), aI (nI p)], (cm n t v ld sh o cd PL A B C, D, E))) rfl trivial ?_
  rw [h6]
  refine z_Ev_blk 1 (c' := ((if (nI p) = (nI c) then 22 else 36), [some (aR 0 16), none], [], (cm n t v ld sh o cd PL A B C, D, E))) rfl trivial ?_
  refine z_Ev_else (hne) ?_
  refine z_Ev_blk 1 (c' := (37, [some (aR 0 16), none], [aI (0 : Int32)], (cm n t v ld sh o cd PL A B C, D, E))) rfl trivial ?_
  exact z_Ev_thru (e_reqA0 (cm n t v ld sh o cd PL A B C) D E) rfl rfl rfl
theorem c_runA2 {xs : Nat → Int32} {L : Nat} (c p : Nat) (PL A B C : Nat → Int32) (n t : Nat → Int32) (v : Nat → Nat → Int32) (ld sh o cd pl ka kb kc : Nat → Int32) (D : Nat → Nat → Int32) (E : Nat → Int64) (h6 : o 6 = nI c) (hR : z_Mt xs L m_X2_read [aR 0 19, aR 0 18, aI (nI c)] (cm n t v ld sh o cd pl ka kb kc, D, E) (.inl (some (aI (nI p)))) (cm n t v ld sh o cd PL A B C, D, E) 0) (hw : ¬ (PL 4 = 8 ∨ PL 4 = 3 ∨ PL 4 = 7)) : z_Mt xs L m_X4_run [aR 0 16] (cm n t v ld sh o cd pl ka kb kc, D, E) (.inr 0) (cm n t v ld sh o cd PL A B C, D, E) 1 := by
  refine z_Ev_blk 6 (c' := (12, [some (aR 0 16), none], [aI (o 6), aR 0 18, aR 0 19], (cm n t v ld sh o cd pl ka kb kc, D, E))) rfl trivial ?_
  rw [h6]
  refine z_Ev_call0 (m' := m_X2_read) (as := [aR 0 19, aR 0 18, aI (nI c)]) (r := []) (hR) rfl rfl ?_
  refine z_Ev_blk 2 (c' := (19, [some (aR 0 16), none], [aI (o 6), aI (nI p)], (cm n t v ld sh o cd PL A B C, D, E))) rfl trivial ?_
  rw [h6]
  refine z_Ev_blk 1 (c' := ((if (nI p) = (nI c) then 22 else 36), [some (aR 0 16), none], [], (cm n t v ld sh o cd PL A B C, D, E))) rfl trivial ?_
  refine z_Ev_ite (fun h1 => ?_) (fun h1 => ?_)
  · skip
    refine z_Ev_blk 2 (c' := (26, [some (aR 0 16), none], [aR 0 19], (cm n t v ld sh o cd PL A B C, D, E))) rfl trivial ?_
    refine z_Ev_call0 (m' := m_X2_isWhole) (as := [aR 0 19]) (r := []) ((by have q := p_whole (xs := xs) (L := L) n t v ld sh o cd PL A B C D E; rw [f_b_f hw] at q; exact q)) rfl rfl ?_
    refine z_Ev_blk 1 (c' := ((if (0 : Int32) = 0 then 36 else 32), [some (aR 0 16), none], [], (cm n t v ld sh o cd PL A B C, D, E))) rfl trivial ?_
    refine z_Ev_if (by decide) ?_
    refine z_Ev_blk 1 (c' := (37, [some (aR 0 16), none], [aI (0 : Int32)], (cm n t v ld sh o cd PL A B C, D, E))) rfl trivial ?_
    exact z_Ev_thru (e_reqA0 (cm n t v ld sh o cd PL A B C) D E) rfl rfl rfl
  · skip
    refine z_Ev_blk 1 (c' := (37, [some (aR 0 16), none], [aI (0 : Int32)], (cm n t v ld sh o cd PL A B C, D, E))) rfl trivial ?_
    exact z_Ev_thru (e_reqA0 (cm n t v ld sh o cd PL A B C) D E) rfl rfl rfl
theorem run_beg {xs : Nat → Int32} {L : Nat} {o_ : z_Rs} {M' : Mem} {kk : Nat} (c p : Nat) (PL A B C : Nat → Int32) (n t : Nat → Int32) (v : Nat → Nat → Int32) (ld sh o cd pl ka kb kc : Nat → Int32) (D : Nat → Nat → Int32) (E : Nat → Int64) (h6 : o 6 = nI c) (hR : z_Mt xs L m_X2_read [aR 0 19, aR 0 18, aI (nI c)] (cm n t v ld sh o cd pl ka kb kc, D, E) (.inl (some (aI (nI p)))) (cm n t v ld sh o cd PL A B C, D, E) 0) (he : nI p = nI c) (hw : PL 4 = 8 ∨ PL 4 = 3 ∨ PL 4 = 7) (q m : Nat) (h3 : o 3 = nI q) (h4 : o 4 = nI m) (hq : q < 6) (hm : m ≤ 6) (hb5 : z_isB (n 36) = true) (hb6 : z_isB (n 37) = true) (K : z_Ev xs L m_X4_run (51, [some (aR 0 16), some (aI (0 : Int32))], [], (cm n t (svV v n q m) ld sh (upd (svO o q m) 6 0) cd PL A B C, D, E)) o_ M' kk) : z_Ev xs L m_X4_run (0, [some (aR 0 16), none], [], (cm n t v ld sh o cd pl ka kb kc, D, E)) o_ M' kk := by
  refine z_Ev_blk 6 (c' := (12, [some (aR 0 16), none], [aI (o 6), aR 0 18, aR 0 19], (cm n t v ld sh o cd pl ka kb kc, D, E))) rfl trivial ?_
  rw [h6]
  refine z_Ev_call0 (m' := m_X2_read) (as := [aR 0 19, aR 0 18, aI (nI c)]) (r := []) (hR) rfl rfl ?_
  refine z_Ev_blk 2 (c' := (19, [some (aR 0 16), none], [aI (o 6), aI (nI p)], (cm n t v ld sh o cd PL A B C, D, E))) rfl trivial ?_
  rw [h6]
  refine z_Ev_blk 1 (c' := ((if (nI p) = (nI c) then 22 else 36), [some (aR 0 16), none], [], (cm n t v ld sh o cd PL A B C, D, E))) rfl trivial ?_
  refine z_Ev_if (he) ?_
  refine z_Ev_blk 2 (c' := (26, [some (aR 0 16), none], [aR 0 19], (cm n t v ld sh o cd PL A B C, D, E))) rfl trivial ?_
  refine z_Ev_call0 (m' := m_X2_isWhole) (as := [aR 0 19]) (r := []) ((by have q := p_whole (xs := xs) (L := L) n t v ld sh o cd PL A B C D E; rw [f_b_t hw] at q; exact q)) rfl rfl ?_
  refine z_Ev_blk 1 (c' := ((if (1 : Int32) = 0 then 36 else 32), [some (aR 0 16), none], [], (cm n t v ld sh o cd PL A B C, D, E))) rfl trivial ?_
  refine z_Ev_else (by decide) ?_
  refine z_Ev_blk 2 (c' := (37, [some (aR 0 16), none], [aI (1 : Int32)], (cm n t v ld sh o cd PL A B C, D, E))) rfl trivial ?_
  refine z_Ev_call0 (m' := m_X4_requireArgument) (as := [aI (1 : Int32)]) (r := []) (e_reqA1 (cm n t v ld sh o cd PL A B C) D E) rfl rfl ?_
  refine z_Ev_blk 1 (c' := (41, [some (aR 0 16), none], [aR 0 16], (cm n t v ld sh o cd PL A B C, D, E))) rfl trivial ?_
  refine z_Ev_call0 (m' := m_X4_saveState) (as := [aR 0 16]) (r := []) (c_save q m n t v ld sh o cd PL A B C D E h3 h4 hq hm hb5 hb6) rfl rfl ?_
  refine z_Ev_blk 3 (c' := (49, [some (aR 0 16), none], [], (up3 (cm n t (svV v n q m) ld sh (svO o q m) cd PL A B C) 0 16 6 (0 : Int32), D, E))) rfl trivial ?_
  rw [cm_16]
  refine z_Ev_blk 2 (c' := (51, [some (aR 0 16), some (aI (0 : Int32))], [], (cm n t (svV v n q m) ld sh (upd (svO o q m) 6 (0 : Int32)) cd PL A B C, D, E))) rfl trivial ?_
  exact K
theorem run_1 {xs : Nat → Int32} {L : Nat} {o_ : z_Rs} {M' : Mem} {kk : Nat} (i K0 : Nat)  (N LD SH : Nat → Int32) (n t : Nat → Int32) (v : Nat → Nat → Int32) (ld sh o cd pl ka kb kc : Nat → Int32) (D : Nat → Nat → Int32) (E : Nat → Int64) (h3 : pl 3 = nI K0) (hK0 : K0 ≤ 60) (hi : i < K0) (hA : z_Mt xs L m_X4_isAllowed [aR 0 16, aI (ka i), aI (kb i)] (cm n t v ld sh o cd pl ka kb kc, D, E) (.inl (some (aI 1))) (cm n t v ld sh o cd pl ka kb kc, D, E) 0) (hO : z_Mt xs L m_X4_obey [aR 0 16, aI (ka i), aI (kb i), aI (kc i)] (cm n t v ld sh o cd pl ka kb kc, D, E) (.inl none) (cm N t v LD SH o cd pl ka kb kc, D, E) 0) (K : z_Ev xs L m_X4_run (51, [some (aR 0 16), some (aI (nI (i + 1)))], [], (cm N t v LD SH o cd pl ka kb kc, D, E)) o_ M' kk) : z_Ev xs L m_X4_run (51, [some (aR 0 16), some (aI (nI i))], [], (cm n t v ld sh o cd pl ka kb kc, D, E)) o_ M' kk := by
  refine z_Ev_blk 4 (c' := (59, [some (aR 0 16), some (aI (nI i))], [aI (pl 3), aI (nI i)], (cm n t v ld sh o cd pl ka kb kc, D, E))) rfl trivial ?_
  rw [h3]
  refine z_Ev_blk 1 (c' := ((if (nI K0) ≤ (nI i) then 124 else 62), [some (aR 0 16), some (aI (nI i))], [], (cm n t v ld sh o cd pl ka kb kc, D, E))) rfl trivial ?_
  refine z_Ev_else (nI_ge hi (by omega)) ?_
  refine z_Ev_blk 6 (c' := (72, [some (aR 0 16), some (aI (nI i))], [aI (ka ((nI i).toNatClampNeg)), aR 0 16], (cm n t v ld sh o cd pl ka kb kc, D, E))) rfl ⟨(inb_nI (show i < 60 by omega) (by decide)), trivial⟩ ?_
  rw [nI_clamp (show i < 2 ^ 31 by omega)]
  refine z_Ev_blk 5 (c' := (81, [some (aR 0 16), some (aI (nI i))], [aI (kb ((nI i).toNatClampNeg)), aI (ka i), aR 0 16], (cm n t v ld sh o cd pl ka kb kc, D, E))) rfl ⟨(inb_nI (show i < 60 by omega) (by decide)), trivial⟩ ?_
  rw [nI_clamp (show i < 2 ^ 31 by omega)]
  refine z_Ev_call0 (m' := m_X4_isAllowed) (as := [aR 0 16, aI (ka i), aI (kb i)]) (r := []) (hA) rfl rfl ?_
  refine z_Ev_blk 1 (c' := ((if (1 : Int32) = 0 then 124 else 87), [some (aR 0 16), some (aI (nI i))], [], (cm n t v ld sh o cd pl ka kb kc, D, E))) rfl trivial ?_
  refine z_Ev_else (by decide) ?_
  refine z_Ev_blk 6 (c' := (97, [some (aR 0 16), some (aI (nI i))], [aI (ka ((nI i).toNatClampNeg)), aR 0 16], (cm n t v ld sh o cd pl ka kb kc, D, E))) rfl ⟨(inb_nI (show i < 60 by omega) (by decide)), trivial⟩ ?_
  rw [nI_clamp (show i < 2 ^ 31 by omega)]
  refine z_Ev_blk 5 (c' := (106, [some (aR 0 16), some (aI (nI i))], [aI (kb ((nI i).toNatClampNeg)), aI (ka i), aR 0 16], (cm n t v ld sh o cd pl ka kb kc, D, E))) rfl ⟨(inb_nI (show i < 60 by omega) (by decide)), trivial⟩ ?_
  rw [nI_clamp (show i < 2 ^ 31 by omega)]
  refine z_Ev_blk 5 (c' := (115, [some (aR 0 16), some (aI (nI i))], [aI (kc ((nI i).toNatClampNeg)), aI (kb i), aI (ka i), aR 0 16], (cm n t v ld sh o cd pl ka kb kc, D, E))) rfl ⟨(inb_nI (show i < 60 by omega) (by decide)), trivial⟩ ?_
  rw [nI_clamp (show i < 2 ^ 31 by omega)]
  refine z_Ev_call0 (m' := m_X4_obey) (as := [aR 0 16, aI (ka i), aI (kb i), aI (kc i)]) (r := []) (hO) rfl rfl ?_
  refine z_Ev_blk 2 (c' := (51, [some (aR 0 16), some (aI ((nI i) + (1 : Int32)))], [], (cm N t v LD SH o cd pl ka kb kc, D, E))) rfl trivial ?_
  rw [nI_1]
  exact K
theorem run_0 {xs : Nat → Int32} {L : Nat} (i K0 : Nat)  (n t : Nat → Int32) (v : Nat → Nat → Int32) (ld sh o cd pl ka kb kc : Nat → Int32) (D : Nat → Nat → Int32) (E : Nat → Int64) (h3 : pl 3 = nI K0) (hK0 : K0 ≤ 60) (hi : i < K0) (hA : z_Mt xs L m_X4_isAllowed [aR 0 16, aI (ka i), aI (kb i)] (cm n t v ld sh o cd pl ka kb kc, D, E) (.inl (some (aI 0))) (cm n t v ld sh o cd pl ka kb kc, D, E) 0) : z_Ev xs L m_X4_run (51, [some (aR 0 16), some (aI (nI i))], [], (cm n t v ld sh o cd pl ka kb kc, D, E)) (.inl (some (aI (nI i)))) (cm n t v ld sh o cd pl ka kb kc, D, E) 0 := by
  refine z_Ev_blk 4 (c' := (59, [some (aR 0 16), some (aI (nI i))], [aI (pl 3), aI (nI i)], (cm n t v ld sh o cd pl ka kb kc, D, E))) rfl trivial ?_
  rw [h3]
  refine z_Ev_blk 1 (c' := ((if (nI K0) ≤ (nI i) then 124 else 62), [some (aR 0 16), some (aI (nI i))], [], (cm n t v ld sh o cd pl ka kb kc, D, E))) rfl trivial ?_
  refine z_Ev_else (nI_ge hi (by omega)) ?_
  refine z_Ev_blk 6 (c' := (72, [some (aR 0 16), some (aI (nI i))], [aI (ka ((nI i).toNatClampNeg)), aR 0 16], (cm n t v ld sh o cd pl ka kb kc, D, E))) rfl ⟨(inb_nI (show i < 60 by omega) (by decide)), trivial⟩ ?_
  rw [nI_clamp (show i < 2 ^ 31 by omega)]
  refine z_Ev_blk 5 (c' := (81, [some (aR 0 16), some (aI (nI i))], [aI (kb ((nI i).toNatClampNeg)), aI (ka i), aR 0 16], (cm n t v ld sh o cd pl ka kb kc, D, E))) rfl ⟨(inb_nI (show i < 60 by omega) (by decide)), trivial⟩ ?_
  rw [nI_clamp (show i < 2 ^ 31 by omega)]
  refine z_Ev_call0 (m' := m_X4_isAllowed) (as := [aR 0 16, aI (ka i), aI (kb i)]) (r := []) (hA) rfl rfl ?_
  refine z_Ev_blk 1 (c' := ((if (0 : Int32) = 0 then 124 else 87), [some (aR 0 16), some (aI (nI i))], [], (cm n t v ld sh o cd pl ka kb kc, D, E))) rfl trivial ?_
  refine z_Ev_if (by decide) ?_
  refine z_Ev_blk 1 (c' := (125, [some (aR 0 16), some (aI (nI i))], [aI (nI i)], (cm n t v ld sh o cd pl ka kb kc, D, E))) rfl trivial ?_
  exact z_Ev_iretE rfl rfl (by rfl) (by rfl)
theorem run_e {xs : Nat → Int32} {L : Nat} (i : Nat) (n t : Nat → Int32) (v : Nat → Nat → Int32) (ld sh o cd pl ka kb kc : Nat → Int32) (D : Nat → Nat → Int32) (E : Nat → Int64) (h3 : pl 3 = nI i) : z_Ev xs L m_X4_run (51, [some (aR 0 16), some (aI (nI i))], [], (cm n t v ld sh o cd pl ka kb kc, D, E)) (.inl (some (aI (nI i)))) (cm n t v ld sh o cd pl ka kb kc, D, E) 0 := by
  refine z_Ev_blk 4 (c' := (59, [some (aR 0 16), some (aI (nI i))], [aI (pl 3), aI (nI i)], (cm n t v ld sh o cd pl ka kb kc, D, E))) rfl trivial ?_
  rw [h3]
  refine z_Ev_blk 1 (c' := ((if (nI i) ≤ (nI i) then 124 else 62), [some (aR 0 16), some (aI (nI i))], [], (cm n t v ld sh o cd pl ka kb kc, D, E))) rfl trivial ?_
  refine z_Ev_if (Int32.le_refl _) ?_
  refine z_Ev_blk 1 (c' := (125, [some (aR 0 16), some (aI (nI i))], [aI (nI i)], (cm n t v ld sh o cd pl ka kb kc, D, E))) rfl trivial ?_
  exact z_Ev_iretE rfl rfl (by rfl) (by rfl)
