/-! THE CLASS: its public methods, first -/
theorem e_reqA0 {xs : Nat → Int32} {L : Nat} (C : Nat → Nat → Nat → Int32) (D : Nat → Nat → Int32) (E : Nat → Int64) : z_Mt xs L m_X4_requireArgument [aI 0] (C, D, E) (.inr 0) (C, D, E) 1 := by
  refine z_Ev_blk 2 (c' := ((if (0 : Int32) = 0 then 4 else 15), [some (aI (0 : Int32))], [], (C, D, E))) rfl trivial ?_
  refine z_Ev_if (by decide) ?_
  exact z_Ev_throw rfl rfl
theorem e_reqA1 {xs : Nat → Int32} {L : Nat} (C : Nat → Nat → Nat → Int32) (D : Nat → Nat → Int32) (E : Nat → Int64) : z_Mt xs L m_X4_requireArgument [aI 1] (C, D, E) (.inl none) (C, D, E) 0 := by
  refine z_Ev_blk 2 (c' := ((if (1 : Int32) = 0 then 4 else 15), [some (aI (1 : Int32))], [], (C, D, E))) rfl trivial ?_
  refine z_Ev_else (by decide) ?_
  exact z_Ev_vretE rfl rfl (by rfl)
theorem e_reqS0 {xs : Nat → Int32} {L : Nat} (C : Nat → Nat → Nat → Int32) (D : Nat → Nat → Int32) (E : Nat → Int64) : z_Mt xs L m_X4_requireState [aI 0] (C, D, E) (.inr 1) (C, D, E) 1 := by
  refine z_Ev_blk 2 (c' := ((if (0 : Int32) = 0 then 4 else 15), [some (aI (0 : Int32))], [], (C, D, E))) rfl trivial ?_
  refine z_Ev_if (by decide) ?_
  exact z_Ev_throw rfl rfl
theorem e_reqS1 {xs : Nat → Int32} {L : Nat} (C : Nat → Nat → Nat → Int32) (D : Nat → Nat → Int32) (E : Nat → Int64) : z_Mt xs L m_X4_requireState [aI 1] (C, D, E) (.inl none) (C, D, E) 0 := by
  refine z_Ev_blk 2 (c' := ((if (1 : Int32) = 0 then 4 else 15), [some (aI (1 : Int32))], [], (C, D, E))) rfl trivial ?_
  refine z_Ev_else (by decide) ?_
  exact z_Ev_vretE rfl rfl (by rfl)
theorem e_reqX0 {xs : Nat → Int32} {L : Nat} (x : Int32) (C : Nat → Nat → Nat → Int32) (D : Nat → Nat → Int32) (E : Nat → Int64) (h : ¬ (0 ≤ x ∧ x ≤ 1)) : z_Mt xs L m_X4_requireSetting [aI x] (C, D, E) (.inr 2) (C, D, E) 1 := by
  refine z_Ev_blk 3 (c' := (3, [some (aI x)], [aI x, aI (1 : Int32), aI (0 : Int32)], (C, D, E))) rfl trivial ?_
  refine z_Ev_call0 (m' := m_X4_isFrom) (as := [aI (0 : Int32), aI (1 : Int32), aI x]) (r := []) (e_isFrom (0 : Int32) (1 : Int32) x _ _ _) rfl rfl ?_
  refine z_Ev_blk 1 (c' := ((if (f_b ((0 : Int32) ≤ x ∧ x ≤ (1 : Int32))) = 0 then 9 else 20), [some (aI x)], [], (C, D, E))) rfl trivial ?_
  refine z_Ev_if (f_bN h) ?_
  exact z_Ev_throw rfl rfl
theorem e_reqX1 {xs : Nat → Int32} {L : Nat} (x : Int32) (C : Nat → Nat → Nat → Int32) (D : Nat → Nat → Int32) (E : Nat → Int64) (h : (0 ≤ x ∧ x ≤ 1)) : z_Mt xs L m_X4_requireSetting [aI x] (C, D, E) (.inl none) (C, D, E) 0 := by
  refine z_Ev_blk 3 (c' := (3, [some (aI x)], [aI x, aI (1 : Int32), aI (0 : Int32)], (C, D, E))) rfl trivial ?_
  refine z_Ev_call0 (m' := m_X4_isFrom) (as := [aI (0 : Int32), aI (1 : Int32), aI x]) (r := []) (e_isFrom (0 : Int32) (1 : Int32) x _ _ _) rfl rfl ?_
  refine z_Ev_blk 1 (c' := ((if (f_b ((0 : Int32) ≤ x ∧ x ≤ (1 : Int32))) = 0 then 9 else 20), [some (aI x)], [], (C, D, E))) rfl trivial ?_
  refine z_Ev_else (f_bP h) ?_
  exact z_Ev_vretE rfl rfl (by rfl)
theorem rem6 : ∀ a, a < 13 → nI a - nI a / 6 * 6 = nI (a % 6) := by decide +kernel
def svq (q m : Nat) : Nat := if m = 6 then (q + 1) % 6 else q
def svm (m : Nat) : Nat := if m = 6 then 5 else m
def svO (o : Nat → Int32) (q m : Nat) : Nat → Int32 := upd (upd o 3 (nI (svq q m))) 4 (nI (svm m + 1))
def svV (w : Nat → Nat → Int32) (n : Nat → Int32) (q m : Nat) : Nat → Nat → Int32 := setI w ((svq q m + svm m) % 6) n

theorem save2 {xs : Nat → Int32} {L : Nat} (m r : Nat) (n t : Nat → Int32) (v : Nat → Nat → Int32) (ld sh o cd pl ka kb kc : Nat → Int32) (D : Nat → Nat → Int32) (E : Nat → Int64) (hr : ((o 3) + (o 4)) - ((o 3) + (o 4)) / (6 : Int32) * (6 : Int32) = nI r) (hr6 : r < 6) (h4 : o 4 = nI m) (hb5 : z_isB (n 36) = true) (hb6 : z_isB (n 37) = true) : z_Ev xs L m_X4_saveState (32, [some (aR 0 16)], [], (cm n t v ld sh o cd pl ka kb kc, D, E)) (.inl none) (cm n t (setI v r n) ld sh (upd o 4 (nI (m + 1))) cd pl ka kb kc, D, E) 0 := by
  refine z_Ev_blk 9 (c' := (48, [some (aR 0 16)], [aI (((o 3) + (o 4)) - ((o 3) + (o 4)) / (6 : Int32) * (6 : Int32)), aR 0 17], (cm n t v ld sh o cd pl ka kb kc, D, E))) rfl ⟨by decide, trivial⟩ ?_
  rw [hr]
  refine z_Ev_blk 1 (c' := (49, [some (aR 0 16)], [aR (2 + (nI r).toNatClampNeg) 0], (cm n t v ld sh o cd pl ka kb kc, D, E))) rfl ⟨(inb_nI hr6 (by decide)), trivial⟩ ?_
  rw [nI_clamp (show r < 2 ^ 31 by omega)]
  refine z_Ev_blk 2 (c' := (53, [some (aR 0 16)], [aR 0 0, aR (2 + r) 0], (cm n t v ld sh o cd pl ka kb kc, D, E))) rfl trivial ?_
  refine z_Ev_call0 (m' := m_X1_copyFrom) (as := [aR (2 + r) 0, aR 0 0]) (r := []) (c_copy_vn r n t v ld sh o cd pl ka kb kc D E hb5 hb6) rfl rfl ?_
  refine z_Ev_blk 3 (c' := (61, [some (aR 0 16)], [aI (o 4), aR 0 16], (cm n t (setI v r n) ld sh o cd pl ka kb kc, D, E))) rfl trivial ?_
  rw [h4]
  refine z_Ev_blk 3 (c' := (66, [some (aR 0 16)], [], (up3 (cm n t (setI v r n) ld sh o cd pl ka kb kc) 0 16 4 ((nI m) + (1 : Int32)), D, E))) rfl trivial ?_
  rw [cm_16]
  exact z_Ev_vretE rfl rfl (by rw [nI_1])
theorem save1_6 {xs : Nat → Int32} {L : Nat} {o_ : z_Rs} {M' : Mem} {kk : Nat} (n t : Nat → Int32) (v : Nat → Nat → Int32) (ld sh o cd pl ka kb kc : Nat → Int32) (D : Nat → Nat → Int32) (E : Nat → Int64) (hm6 : o 4 = 6) (K : z_Ev xs L m_X4_saveState (32, [some (aR 0 16)], [], (cm n t v ld sh (upd (upd o 3 (((o 3) + (1 : Int32)) - ((o 3) + (1 : Int32)) / (6 : Int32) * (6 : Int32))) 4 ((o 4) - (1 : Int32))) cd pl ka kb kc, D, E)) o_ M' kk) : z_Ev xs L m_X4_saveState (0, [some (aR 0 16)], [], (cm n t v ld sh o cd pl ka kb kc, D, E)) o_ M' kk := by
  refine z_Ev_blk 4 (c' := ((if (o 4) = (6 : Int32) then 9 else 32), [some (aR 0 16)], [], (cm n t v ld sh o cd pl ka kb kc, D, E))) rfl trivial ?_
  refine z_Ev_if (hm6) ?_
  refine z_Ev_blk 8 (c' := (22, [some (aR 0 16)], [], (up3 (cm n t v ld sh o cd pl ka kb kc) 0 16 3 (((o 3) + (1 : Int32)) - ((o 3) + (1 : Int32)) / (6 : Int32) * (6 : Int32)), D, E))) rfl ⟨by decide, trivial⟩ ?_
  rw [cm_16]
  refine z_Ev_blk 6 (c' := (32, [some (aR 0 16)], [], (up3 (cm n t v ld sh (upd o 3 (((o 3) + (1 : Int32)) - ((o 3) + (1 : Int32)) / (6 : Int32) * (6 : Int32))) cd pl ka kb kc) 0 16 4 ((o 4) - (1 : Int32)), D, E))) rfl trivial ?_
  rw [cm_16]
  exact K
theorem save1_l {xs : Nat → Int32} {L : Nat} {o_ : z_Rs} {M' : Mem} {kk : Nat} (n t : Nat → Int32) (v : Nat → Nat → Int32) (ld sh o cd pl ka kb kc : Nat → Int32) (D : Nat → Nat → Int32) (E : Nat → Int64) (hm6 : ¬ o 4 = 6) (K : z_Ev xs L m_X4_saveState (32, [some (aR 0 16)], [], (cm n t v ld sh o cd pl ka kb kc, D, E)) o_ M' kk) : z_Ev xs L m_X4_saveState (0, [some (aR 0 16)], [], (cm n t v ld sh o cd pl ka kb kc, D, E)) o_ M' kk := by
  refine z_Ev_blk 4 (c' := ((if (o 4) = (6 : Int32) then 9 else 32), [some (aR 0 16)], [], (cm n t v ld sh o cd pl ka kb kc, D, E))) rfl trivial ?_
  refine z_Ev_else (hm6) ?_
  exact K
theorem c_save {xs : Nat → Int32} {L : Nat} (q m : Nat) (n t : Nat → Int32) (v : Nat → Nat → Int32) (ld sh o cd pl ka kb kc : Nat → Int32) (D : Nat → Nat → Int32) (E : Nat → Int64) (h3 : o 3 = nI q) (h4 : o 4 = nI m) (hq : q < 6) (hm : m ≤ 6) (hb5 : z_isB (n 36) = true) (hb6 : z_isB (n 37) = true) : z_Mt xs L m_X4_saveState [aR 0 16] (cm n t v ld sh o cd pl ka kb kc, D, E) (.inl none) (cm n t (svV v n q m) ld sh (svO o q m) cd pl ka kb kc, D, E) 0 := by
  unfold svV svO svq svm
  by_cases e : m = 6
  · subst e
    refine save1_6 n t v ld sh o cd pl ka kb kc D E h4 ?_
    rw [h3, h4, nI_1, rem6 _ (by omega), show nI 6 - 1 = nI 5 from rfl, if_pos rfl, if_pos rfl]
    have hr : ((upd (upd o 3 (nI ((q + 1) % 6))) 4 (nI 5)) 3 + (upd (upd o 3 (nI ((q + 1) % 6))) 4 (nI 5)) 4) - ((upd (upd o 3 (nI ((q + 1) % 6))) 4 (nI 5)) 3 + (upd (upd o 3 (nI ((q + 1) % 6))) 4 (nI 5)) 4) / 6 * 6 = nI (((q + 1) % 6 + 5) % 6) := by
      show (nI ((q + 1) % 6) + nI 5) - (nI ((q + 1) % 6) + nI 5) / 6 * 6 = _
      rw [nI_add, rem6 _ (by omega)]
    have Q := save2 (xs := xs) (L := L) 5 (((q + 1) % 6 + 5) % 6) n t v ld sh (upd (upd o 3 (nI ((q + 1) % 6))) 4 (nI 5)) cd pl ka kb kc D E hr (by omega) rfl hb5 hb6
    rw [upd_same] at Q
    exact Q
  · rw [if_neg e, if_neg e]
    refine save1_l n t v ld sh o cd pl ka kb kc D E (by rw [h4]; exact fun z => e ((nI_eq (by omega) (by decide)).mp (z.trans (show (6 : Int32) = nI 6 from rfl)))) ?_
    have Q := save2 (xs := xs) (L := L) m ((q + m) % 6) n t v ld sh o cd pl ka kb kc D E (by rw [h3, h4, nI_add, rem6 _ (by omega)]) (by omega) h4 hb5 hb6
    rw [show upd o 3 (nI q) = o from upd_id h3.symm]
    exact Q
theorem c_rate_0 {xs : Nat → Int32} {L : Nat} (g l e w : Int32) (n t : Nat → Int32) (v : Nat → Nat → Int32) (ld sh o cd pl ka kb kc : Nat → Int32) (D : Nat → Nat → Int32) (E : Nat → Int64) (hg : 50 ≤ g ∧ g ≤ 500) (hl : 0 ≤ l ∧ l ≤ g) (hme : 1 ≤ e ∧ e ≤ 99) (hh : 0 ≤ w ∧ w ≤ 4) (hp : n 16 = 0) (q m : Nat) (h3 : o 3 = nI q) (h4 : o 4 = nI m) (hq : q < 6) (hm : m ≤ 6) (hb5 : z_isB (n 36) = true) (hb6 : z_isB (n 37) = true) : z_Mt xs L m_X4_rate [aR 0 16, aI (0 : Int32), aI g, aI l, aI e, aI w] (cm n t v ld sh o cd pl ka kb kc, D, E) (.inl (some (aI (n 0)))) (cm (upd (upd (upd (upd n 0 g) 4 l) 8 e) 12 w) t (svV v n q m) ld sh (svO o q m) cd pl ka kb kc, D, E) 0 := by
  refine z_Ev_blk 1 (c' := (1, [some (aR 0 16), some (aI (0 : Int32)), some (aI g), some (aI l), some (aI e), some (aI w), none], [aI (0 : Int32)], (cm n t v ld sh o cd pl ka kb kc, D, E))) rfl trivial ?_
  refine z_Ev_call0 (m' := m_X4_isSet) (as := [aI (0 : Int32)]) (r := []) ((by have q := e_isSet (xs := xs) (L := L) (0 : Int32) (cm n t v ld sh o cd pl ka kb kc) D E; rw [f_b_t (by decide)] at q; exact q)) rfl rfl ?_
  refine z_Ev_blk 1 (c' := ((if (1 : Int32) = 0 then 32 else 7), [some (aR 0 16), some (aI (0 : Int32)), some (aI g), some (aI l), some (aI e), some (aI w), none], [], (cm n t v ld sh o cd pl ka kb kc, D, E))) rfl trivial ?_
  refine z_Ev_else (by decide) ?_
  refine z_Ev_blk 3 (c' := (13, [some (aR 0 16), some (aI (0 : Int32)), some (aI g), some (aI l), some (aI e), some (aI w), none], [aI g, aI (500 : Int32), aI (50 : Int32)], (cm n t v ld sh o cd pl ka kb kc, D, E))) rfl trivial ?_
  refine z_Ev_call0 (m' := m_X4_isFrom) (as := [aI (50 : Int32), aI (500 : Int32), aI g]) (r := []) ((by have q := e_isFrom (xs := xs) (L := L) (50 : Int32) (500 : Int32) g (cm n t v ld sh o cd pl ka kb kc) D E; rw [f_b_t (hg)] at q; exact q)) rfl rfl ?_
  refine z_Ev_blk 1 (c' := ((if (1 : Int32) = 0 then 32 else 19), [some (aR 0 16), some (aI (0 : Int32)), some (aI g), some (aI l), some (aI e), some (aI w), none], [], (cm n t v ld sh o cd pl ka kb kc, D, E))) rfl trivial ?_
  refine z_Ev_else (by decide) ?_
  refine z_Ev_blk 3 (c' := (22, [some (aR 0 16), some (aI (0 : Int32)), some (aI g), some (aI l), some (aI e), some (aI w), none], [aI l, aI g, aI (0 : Int32)], (cm n t v ld sh o cd pl ka kb kc, D, E))) rfl trivial ?_
  refine z_Ev_call0 (m' := m_X4_isFrom) (as := [aI (0 : Int32), aI g, aI l]) (r := []) ((by have q := e_isFrom (xs := xs) (L := L) (0 : Int32) g l (cm n t v ld sh o cd pl ka kb kc) D E; rw [f_b_t (hl)] at q; exact q)) rfl rfl ?_
  refine z_Ev_blk 1 (c' := ((if (1 : Int32) = 0 then 32 else 28), [some (aR 0 16), some (aI (0 : Int32)), some (aI g), some (aI l), some (aI e), some (aI w), none], [], (cm n t v ld sh o cd pl ka kb kc, D, E))) rfl trivial ?_
  refine z_Ev_else (by decide) ?_
  refine z_Ev_blk 2 (c' := (33, [some (aR 0 16), some (aI (0 : Int32)), some (aI g), some (aI l), some (aI e), some (aI w), none], [aI (1 : Int32)], (cm n t v ld sh o cd pl ka kb kc, D, E))) rfl trivial ?_
  refine z_Ev_call0 (m' := m_X4_requireArgument) (as := [aI (1 : Int32)]) (r := []) (e_reqA1 (cm n t v ld sh o cd pl ka kb kc) D E) rfl rfl ?_
  refine z_Ev_blk 3 (c' := (41, [some (aR 0 16), some (aI (0 : Int32)), some (aI g), some (aI l), some (aI e), some (aI w), none], [aI e, aI (99 : Int32), aI (1 : Int32)], (cm n t v ld sh o cd pl ka kb kc, D, E))) rfl trivial ?_
  refine z_Ev_call0 (m' := m_X4_isFrom) (as := [aI (1 : Int32), aI (99 : Int32), aI e]) (r := []) ((by have q := e_isFrom (xs := xs) (L := L) (1 : Int32) (99 : Int32) e (cm n t v ld sh o cd pl ka kb kc) D E; rw [f_b_t (hme)] at q; exact q)) rfl rfl ?_
  refine z_Ev_blk 1 (c' := ((if (1 : Int32) = 0 then 61 else 47), [some (aR 0 16), some (aI (0 : Int32)), some (aI g), some (aI l), some (aI e), some (aI w), none], [], (cm n t v ld sh o cd pl ka kb kc, D, E))) rfl trivial ?_
  refine z_Ev_else (by decide) ?_
  refine z_Ev_blk 3 (c' := (51, [some (aR 0 16), some (aI (0 : Int32)), some (aI g), some (aI l), some (aI e), some (aI w), none], [aI w, aI (4 : Int32), aI (0 : Int32)], (cm n t v ld sh o cd pl ka kb kc, D, E))) rfl trivial ?_
  refine z_Ev_call0 (m' := m_X4_isFrom) (as := [aI (0 : Int32), aI (4 : Int32), aI w]) (r := []) ((by have q := e_isFrom (xs := xs) (L := L) (0 : Int32) (4 : Int32) w (cm n t v ld sh o cd pl ka kb kc) D E; rw [f_b_t (hh)] at q; exact q)) rfl rfl ?_
  refine z_Ev_blk 1 (c' := ((if (1 : Int32) = 0 then 61 else 57), [some (aR 0 16), some (aI (0 : Int32)), some (aI g), some (aI l), some (aI e), some (aI w), none], [], (cm n t v ld sh o cd pl ka kb kc, D, E))) rfl trivial ?_
  refine z_Ev_else (by decide) ?_
  refine z_Ev_blk 2 (c' := (62, [some (aR 0 16), some (aI (0 : Int32)), some (aI g), some (aI l), some (aI e), some (aI w), none], [aI (1 : Int32)], (cm n t v ld sh o cd pl ka kb kc, D, E))) rfl trivial ?_
  refine z_Ev_call0 (m' := m_X4_requireArgument) (as := [aI (1 : Int32)]) (r := []) (e_reqA1 (cm n t v ld sh o cd pl ka kb kc) D E) rfl rfl ?_
  refine z_Ev_blk 7 (c' := ((if (n 16) = 0 then 80 else 84), [some (aR 0 16), some (aI (0 : Int32)), some (aI g), some (aI l), some (aI e), some (aI w), none], [], (cm n t v ld sh o cd pl ka kb kc, D, E))) rfl ⟨rfl, trivial⟩ ?_
  refine z_Ev_if (hp) ?_
  refine z_Ev_blk 2 (c' := (85, [some (aR 0 16), some (aI (0 : Int32)), some (aI g), some (aI l), some (aI e), some (aI w), none], [aI (1 : Int32)], (cm n t v ld sh o cd pl ka kb kc, D, E))) rfl trivial ?_
  refine z_Ev_call0 (m' := m_X4_requireState) (as := [aI (1 : Int32)]) (r := []) (e_reqS1 (cm n t v ld sh o cd pl ka kb kc) D E) rfl rfl ?_
  refine z_Ev_blk 1 (c' := (89, [some (aR 0 16), some (aI (0 : Int32)), some (aI g), some (aI l), some (aI e), some (aI w), none], [aR 0 16], (cm n t v ld sh o cd pl ka kb kc, D, E))) rfl trivial ?_
  refine z_Ev_call0 (m' := m_X4_saveState) (as := [aR 0 16]) (r := []) (c_save q m n t v ld sh o cd pl ka kb kc D E h3 h4 hq hm hb5 hb6) rfl rfl ?_
  refine z_Ev_blk 14 (c' := (119, [some (aR 0 16), some (aI (0 : Int32)), some (aI g), some (aI l), some (aI e), some (aI w), some (aI (n 0))], [], (up3 (cm n t (svV v n q m) ld sh (svO o q m) cd pl ka kb kc) 0 2 0 g, D, E))) rfl ⟨rfl, rfl, trivial⟩ ?_
  rw [cmn_2_0]
  refine z_Ev_blk 7 (c' := (132, [some (aR 0 16), some (aI (0 : Int32)), some (aI g), some (aI l), some (aI e), some (aI w), some (aI (n 0))], [], (up3 (cm (upd n 0 g) t (svV v n q m) ld sh (svO o q m) cd pl ka kb kc) 0 3 0 l, D, E))) rfl ⟨rfl, trivial⟩ ?_
  rw [cmn_3_0]
  refine z_Ev_blk 7 (c' := (146, [some (aR 0 16), some (aI (0 : Int32)), some (aI g), some (aI l), some (aI e), some (aI w), some (aI (n 0))], [], (up3 (cm (upd (upd n 0 g) 4 l) t (svV v n q m) ld sh (svO o q m) cd pl ka kb kc) 0 4 0 e, D, E))) rfl ⟨rfl, trivial⟩ ?_
  rw [cmn_4_0]
  refine z_Ev_blk 7 (c' := (160, [some (aR 0 16), some (aI (0 : Int32)), some (aI g), some (aI l), some (aI e), some (aI w), some (aI (n 0))], [], (up3 (cm (upd (upd (upd n 0 g) 4 l) 8 e) t (svV v n q m) ld sh (svO o q m) cd pl ka kb kc) 0 5 0 w, D, E))) rfl ⟨rfl, trivial⟩ ?_
  rw [cmn_5_0]
  refine z_Ev_blk 1 (c' := (162, [some (aR 0 16), some (aI (0 : Int32)), some (aI g), some (aI l), some (aI e), some (aI w), some (aI (n 0))], [aI (n 0)], (cm (upd (upd (upd (upd n 0 g) 4 l) 8 e) 12 w) t (svV v n q m) ld sh (svO o q m) cd pl ka kb kc, D, E))) rfl trivial ?_
  exact z_Ev_iretE rfl rfl (by rfl) (by rfl)
theorem c_rateS_0 {xs : Nat → Int32} {L : Nat} (g l e w : Int32) (n t : Nat → Int32) (v : Nat → Nat → Int32) (ld sh o cd pl ka kb kc : Nat → Int32) (D : Nat → Nat → Int32) (E : Nat → Int64) (hg : 50 ≤ g ∧ g ≤ 500) (hl : 0 ≤ l ∧ l ≤ g) (hme : 1 ≤ e ∧ e ≤ 99) (hh : 0 ≤ w ∧ w ≤ 4) (hp : ¬ n 16 = 0) : z_Mt xs L m_X4_rate [aR 0 16, aI (0 : Int32), aI g, aI l, aI e, aI w] (cm n t v ld sh o cd pl ka kb kc, D, E) (.inr 1) (cm n t v ld sh o cd pl ka kb kc, D, E) 1 := by
  refine z_Ev_blk 1 (c' := (1, [some (aR 0 16), some (aI (0 : Int32)), some (aI g), some (aI l), some (aI e), some (aI w), none], [aI (0 : Int32)], (cm n t v ld sh o cd pl ka kb kc, D, E))) rfl trivial ?_
  refine z_Ev_call0 (m' := m_X4_isSet) (as := [aI (0 : Int32)]) (r := []) ((by have q := e_isSet (xs := xs) (L := L) (0 : Int32) (cm n t v ld sh o cd pl ka kb kc) D E; rw [f_b_t (by decide)] at q; exact q)) rfl rfl ?_
  refine z_Ev_blk 1 (c' := ((if (1 : Int32) = 0 then 32 else 7), [some (aR 0 16), some (aI (0 : Int32)), some (aI g), some (aI l), some (aI e), some (aI w), none], [], (cm n t v ld sh o cd pl ka kb kc, D, E))) rfl trivial ?_
  refine z_Ev_else (by decide) ?_
  refine z_Ev_blk 3 (c' := (13, [some (aR 0 16), some (aI (0 : Int32)), some (aI g), some (aI l), some (aI e), some (aI w), none], [aI g, aI (500 : Int32), aI (50 : Int32)], (cm n t v ld sh o cd pl ka kb kc, D, E))) rfl trivial ?_
  refine z_Ev_call0 (m' := m_X4_isFrom) (as := [aI (50 : Int32), aI (500 : Int32), aI g]) (r := []) ((by have q := e_isFrom (xs := xs) (L := L) (50 : Int32) (500 : Int32) g (cm n t v ld sh o cd pl ka kb kc) D E; rw [f_b_t (hg)] at q; exact q)) rfl rfl ?_
  refine z_Ev_blk 1 (c' := ((if (1 : Int32) = 0 then 32 else 19), [some (aR 0 16), some (aI (0 : Int32)), some (aI g), some (aI l), some (aI e), some (aI w), none], [], (cm n t v ld sh o cd pl ka kb kc, D, E))) rfl trivial ?_
  refine z_Ev_else (by decide) ?_
  refine z_Ev_blk 3 (c' := (22, [some (aR 0 16), some (aI (0 : Int32)), some (aI g), some (aI l), some (aI e), some (aI w), none], [aI l, aI g, aI (0 : Int32)], (cm n t v ld sh o cd pl ka kb kc, D, E))) rfl trivial ?_
  refine z_Ev_call0 (m' := m_X4_isFrom) (as := [aI (0 : Int32), aI g, aI l]) (r := []) ((by have q := e_isFrom (xs := xs) (L := L) (0 : Int32) g l (cm n t v ld sh o cd pl ka kb kc) D E; rw [f_b_t (hl)] at q; exact q)) rfl rfl ?_
  refine z_Ev_blk 1 (c' := ((if (1 : Int32) = 0 then 32 else 28), [some (aR 0 16), some (aI (0 : Int32)), some (aI g), some (aI l), some (aI e), some (aI w), none], [], (cm n t v ld sh o cd pl ka kb kc, D, E))) rfl trivial ?_
  refine z_Ev_else (by decide) ?_
  refine z_Ev_blk 2 (c' := (33, [some (aR 0 16), some (aI (0 : Int32)), some (aI g), some (aI l), some (aI e), some (aI w), none], [aI (1 : Int32)], (cm n t v ld sh o cd pl ka kb kc, D, E))) rfl trivial ?_
  refine z_Ev_call0 (m' := m_X4_requireArgument) (as := [aI (1 : Int32)]) (r := []) (e_reqA1 (cm n t v ld sh o cd pl ka kb kc) D E) rfl rfl ?_
  refine z_Ev_blk 3 (c' := (41, [some (aR 0 16), some (aI (0 : Int32)), some (aI g), some (aI l), some (aI e), some (aI w), none], [aI e, aI (99 : Int32), aI (1 : Int32)], (cm n t v ld sh o cd pl ka kb kc, D, E))) rfl trivial ?_
  refine z_Ev_call0 (m' := m_X4_isFrom) (as := [aI (1 : Int32), aI (99 : Int32), aI e]) (r := []) ((by have q := e_isFrom (xs := xs) (L := L) (1 : Int32) (99 : Int32) e (cm n t v ld sh o cd pl ka kb kc) D E; rw [f_b_t (hme)] at q; exact q)) rfl rfl ?_
  refine z_Ev_blk 1 (c' := ((if (1 : Int32) = 0 then 61 else 47), [some (aR 0 16), some (aI (0 : Int32)), some (aI g), some (aI l), some (aI e), some (aI w), none], [], (cm n t v ld sh o cd pl ka kb kc, D, E))) rfl trivial ?_
  refine z_Ev_else (by decide) ?_
  refine z_Ev_blk 3 (c' := (51, [some (aR 0 16), some (aI (0 : Int32)), some (aI g), some (aI l), some (aI e), some (aI w), none], [aI w, aI (4 : Int32), aI (0 : Int32)], (cm n t v ld sh o cd pl ka kb kc, D, E))) rfl trivial ?_
  refine z_Ev_call0 (m' := m_X4_isFrom) (as := [aI (0 : Int32), aI (4 : Int32), aI w]) (r := []) ((by have q := e_isFrom (xs := xs) (L := L) (0 : Int32) (4 : Int32) w (cm n t v ld sh o cd pl ka kb kc) D E; rw [f_b_t (hh)] at q; exact q)) rfl rfl ?_
  refine z_Ev_blk 1 (c' := ((if (1 : Int32) = 0 then 61 else 57), [some (aR 0 16), some (aI (0 : Int32)), some (aI g), some (aI l), some (aI e), some (aI w), none], [], (cm n t v ld sh o cd pl ka kb kc, D, E))) rfl trivial ?_
  refine z_Ev_else (by decide) ?_
  refine z_Ev_blk 2 (c' := (62, [some (aR 0 16), some (aI (0 : Int32)), some (aI g), some (aI l), some (aI e), some (aI w), none], [aI (1 : Int32)], (cm n t v ld sh o cd pl ka kb kc, D, E))) rfl trivial ?_
  refine z_Ev_call0 (m' := m_X4_requireArgument) (as := [aI (1 : Int32)]) (r := []) (e_reqA1 (cm n t v ld sh o cd pl ka kb kc) D E) rfl rfl ?_
  refine z_Ev_blk 7 (c' := ((if (n 16) = 0 then 80 else 84), [some (aR 0 16), some (aI (0 : Int32)), some (aI g), some (aI l), some (aI e), some (aI w), none], [], (cm n t v ld sh o cd pl ka kb kc, D, E))) rfl ⟨rfl, trivial⟩ ?_
  refine z_Ev_else (hp) ?_
  refine z_Ev_blk 1 (c' := (85, [some (aR 0 16), some (aI (0 : Int32)), some (aI g), some (aI l), some (aI e), some (aI w), none], [aI (0 : Int32)], (cm n t v ld sh o cd pl ka kb kc, D, E))) rfl trivial ?_
  exact z_Ev_thru (e_reqS0 (cm n t v ld sh o cd pl ka kb kc) D E) rfl rfl rfl
theorem c_rate_1 {xs : Nat → Int32} {L : Nat} (g l e w : Int32) (n t : Nat → Int32) (v : Nat → Nat → Int32) (ld sh o cd pl ka kb kc : Nat → Int32) (D : Nat → Nat → Int32) (E : Nat → Int64) (hg : 50 ≤ g ∧ g ≤ 500) (hl : 0 ≤ l ∧ l ≤ g) (hme : 1 ≤ e ∧ e ≤ 99) (hh : 0 ≤ w ∧ w ≤ 4) (hp : n 17 = 0) (q m : Nat) (h3 : o 3 = nI q) (h4 : o 4 = nI m) (hq : q < 6) (hm : m ≤ 6) (hb5 : z_isB (n 36) = true) (hb6 : z_isB (n 37) = true) : z_Mt xs L m_X4_rate [aR 0 16, aI (1 : Int32), aI g, aI l, aI e, aI w] (cm n t v ld sh o cd pl ka kb kc, D, E) (.inl (some (aI (n 1)))) (cm (upd (upd (upd (upd n 1 g) 5 l) 9 e) 13 w) t (svV v n q m) ld sh (svO o q m) cd pl ka kb kc, D, E) 0 := by
  refine z_Ev_blk 1 (c' := (1, [some (aR 0 16), some (aI (1 : Int32)), some (aI g), some (aI l), some (aI e), some (aI w), none], [aI (1 : Int32)], (cm n t v ld sh o cd pl ka kb kc, D, E))) rfl trivial ?_
  refine z_Ev_call0 (m' := m_X4_isSet) (as := [aI (1 : Int32)]) (r := []) ((by have q := e_isSet (xs := xs) (L := L) (1 : Int32) (cm n t v ld sh o cd pl ka kb kc) D E; rw [f_b_t (by decide)] at q; exact q)) rfl rfl ?_
  refine z_Ev_blk 1 (c' := ((if (1 : Int32) = 0 then 32 else 7), [some (aR 0 16), some (aI (1 : Int32)), some (aI g), some (aI l), some (aI e), some (aI w), none], [], (cm n t v ld sh o cd pl ka kb kc, D, E))) rfl trivial ?_
  refine z_Ev_else (by decide) ?_
  refine z_Ev_blk 3 (c' := (13, [some (aR 0 16), some (aI (1 : Int32)), some (aI g), some (aI l), some (aI e), some (aI w), none], [aI g, aI (500 : Int32), aI (50 : Int32)], (cm n t v ld sh o cd pl ka kb kc, D, E))) rfl trivial ?_
  refine z_Ev_call0 (m' := m_X4_isFrom) (as := [aI (50 : Int32), aI (500 : Int32), aI g]) (r := []) ((by have q := e_isFrom (xs := xs) (L := L) (50 : Int32) (500 : Int32) g (cm n t v ld sh o cd pl ka kb kc) D E; rw [f_b_t (hg)] at q; exact q)) rfl rfl ?_
  refine z_Ev_blk 1 (c' := ((if (1 : Int32) = 0 then 32 else 19), [some (aR 0 16), some (aI (1 : Int32)), some (aI g), some (aI l), some (aI e), some (aI w), none], [], (cm n t v ld sh o cd pl ka kb kc, D, E))) rfl trivial ?_
  refine z_Ev_else (by decide) ?_
  refine z_Ev_blk 3 (c' := (22, [some (aR 0 16), some (aI (1 : Int32)), some (aI g), some (aI l), some (aI e), some (aI w), none], [aI l, aI g, aI (0 : Int32)], (cm n t v ld sh o cd pl ka kb kc, D, E))) rfl trivial ?_
  refine z_Ev_call0 (m' := m_X4_isFrom) (as := [aI (0 : Int32), aI g, aI l]) (r := []) ((by have q := e_isFrom (xs := xs) (L := L) (0 : Int32) g l (cm n t v ld sh o cd pl ka kb kc) D E; rw [f_b_t (hl)] at q; exact q)) rfl rfl ?_
  refine z_Ev_blk 1 (c' := ((if (1 : Int32) = 0 then 32 else 28), [some (aR 0 16), some (aI (1 : Int32)), some (aI g), some (aI l), some (aI e), some (aI w), none], [], (cm n t v ld sh o cd pl ka kb kc, D, E))) rfl trivial ?_
  refine z_Ev_else (by decide) ?_
  refine z_Ev_blk 2 (c' := (33, [some (aR 0 16), some (aI (1 : Int32)), some (aI g), some (aI l), some (aI e), some (aI w), none], [aI (1 : Int32)], (cm n t v ld sh o cd pl ka kb kc, D, E))) rfl trivial ?_
  refine z_Ev_call0 (m' := m_X4_requireArgument) (as := [aI (1 : Int32)]) (r := []) (e_reqA1 (cm n t v ld sh o cd pl ka kb kc) D E) rfl rfl ?_
  refine z_Ev_blk 3 (c' := (41, [some (aR 0 16), some (aI (1 : Int32)), some (aI g), some (aI l), some (aI e), some (aI w), none], [aI e, aI (99 : Int32), aI (1 : Int32)], (cm n t v ld sh o cd pl ka kb kc, D, E))) rfl trivial ?_
  refine z_Ev_call0 (m' := m_X4_isFrom) (as := [aI (1 : Int32), aI (99 : Int32), aI e]) (r := []) ((by have q := e_isFrom (xs := xs) (L := L) (1 : Int32) (99 : Int32) e (cm n t v ld sh o cd pl ka kb kc) D E; rw [f_b_t (hme)] at q; exact q)) rfl rfl ?_
  refine z_Ev_blk 1 (c' := ((if (1 : Int32) = 0 then 61 else 47), [some (aR 0 16), some (aI (1 : Int32)), some (aI g), some (aI l), some (aI e), some (aI w), none], [], (cm n t v ld sh o cd pl ka kb kc, D, E))) rfl trivial ?_
  refine z_Ev_else (by decide) ?_
  refine z_Ev_blk 3 (c' := (51, [some (aR 0 16), some (aI (1 : Int32)), some (aI g), some (aI l), some (aI e), some (aI w), none], [aI w, aI (4 : Int32), aI (0 : Int32)], (cm n t v ld sh o cd pl ka kb kc, D, E))) rfl trivial ?_
  refine z_Ev_call0 (m' := m_X4_isFrom) (as := [aI (0 : Int32), aI (4 : Int32), aI w]) (r := []) ((by have q := e_isFrom (xs := xs) (L := L) (0 : Int32) (4 : Int32) w (cm n t v ld sh o cd pl ka kb kc) D E; rw [f_b_t (hh)] at q; exact q)) rfl rfl ?_
  refine z_Ev_blk 1 (c' := ((if (1 : Int32) = 0 then 61 else 57), [some (aR 0 16), some (aI (1 : Int32)), some (aI g), some (aI l), some (aI e), some (aI w), none], [], (cm n t v ld sh o cd pl ka kb kc, D, E))) rfl trivial ?_
  refine z_Ev_else (by decide) ?_
  refine z_Ev_blk 2 (c' := (62, [some (aR 0 16), some (aI (1 : Int32)), some (aI g), some (aI l), some (aI e), some (aI w), none], [aI (1 : Int32)], (cm n t v ld sh o cd pl ka kb kc, D, E))) rfl trivial ?_
  refine z_Ev_call0 (m' := m_X4_requireArgument) (as := [aI (1 : Int32)]) (r := []) (e_reqA1 (cm n t v ld sh o cd pl ka kb kc) D E) rfl rfl ?_
  refine z_Ev_blk 7 (c' := ((if (n 17) = 0 then 80 else 84), [some (aR 0 16), some (aI (1 : Int32)), some (aI g), some (aI l), some (aI e), some (aI w), none], [], (cm n t v ld sh o cd pl ka kb kc, D, E))) rfl ⟨rfl, trivial⟩ ?_
  refine z_Ev_if (hp) ?_
  refine z_Ev_blk 2 (c' := (85, [some (aR 0 16), some (aI (1 : Int32)), some (aI g), some (aI l), some (aI e), some (aI w), none], [aI (1 : Int32)], (cm n t v ld sh o cd pl ka kb kc, D, E))) rfl trivial ?_
  refine z_Ev_call0 (m' := m_X4_requireState) (as := [aI (1 : Int32)]) (r := []) (e_reqS1 (cm n t v ld sh o cd pl ka kb kc) D E) rfl rfl ?_
  refine z_Ev_blk 1 (c' := (89, [some (aR 0 16), some (aI (1 : Int32)), some (aI g), some (aI l), some (aI e), some (aI w), none], [aR 0 16], (cm n t v ld sh o cd pl ka kb kc, D, E))) rfl trivial ?_
  refine z_Ev_call0 (m' := m_X4_saveState) (as := [aR 0 16]) (r := []) (c_save q m n t v ld sh o cd pl ka kb kc D E h3 h4 hq hm hb5 hb6) rfl rfl ?_
  refine z_Ev_blk 14 (c' := (119, [some (aR 0 16), some (aI (1 : Int32)), some (aI g), some (aI l), some (aI e), some (aI w), some (aI (n 1))], [], (up3 (cm n t (svV v n q m) ld sh (svO o q m) cd pl ka kb kc) 0 2 1 g, D, E))) rfl ⟨rfl, rfl, trivial⟩ ?_
  rw [cmn_2_1]
  refine z_Ev_blk 7 (c' := (132, [some (aR 0 16), some (aI (1 : Int32)), some (aI g), some (aI l), some (aI e), some (aI w), some (aI (n 1))], [], (up3 (cm (upd n 1 g) t (svV v n q m) ld sh (svO o q m) cd pl ka kb kc) 0 3 1 l, D, E))) rfl ⟨rfl, trivial⟩ ?_
  rw [cmn_3_1]
  refine z_Ev_blk 7 (c' := (146, [some (aR 0 16), some (aI (1 : Int32)), some (aI g), some (aI l), some (aI e), some (aI w), some (aI (n 1))], [], (up3 (cm (upd (upd n 1 g) 5 l) t (svV v n q m) ld sh (svO o q m) cd pl ka kb kc) 0 4 1 e, D, E))) rfl ⟨rfl, trivial⟩ ?_
  rw [cmn_4_1]
  refine z_Ev_blk 7 (c' := (160, [some (aR 0 16), some (aI (1 : Int32)), some (aI g), some (aI l), some (aI e), some (aI w), some (aI (n 1))], [], (up3 (cm (upd (upd (upd n 1 g) 5 l) 9 e) t (svV v n q m) ld sh (svO o q m) cd pl ka kb kc) 0 5 1 w, D, E))) rfl ⟨rfl, trivial⟩ ?_
  rw [cmn_5_1]
  refine z_Ev_blk 1 (c' := (162, [some (aR 0 16), some (aI (1 : Int32)), some (aI g), some (aI l), some (aI e), some (aI w), some (aI (n 1))], [aI (n 1)], (cm (upd (upd (upd (upd n 1 g) 5 l) 9 e) 13 w) t (svV v n q m) ld sh (svO o q m) cd pl ka kb kc, D, E))) rfl trivial ?_
  exact z_Ev_iretE rfl rfl (by rfl) (by rfl)
theorem c_rateS_1 {xs : Nat → Int32} {L : Nat} (g l e w : Int32) (n t : Nat → Int32) (v : Nat → Nat → Int32) (ld sh o cd pl ka kb kc : Nat → Int32) (D : Nat → Nat → Int32) (E : Nat → Int64) (hg : 50 ≤ g ∧ g ≤ 500) (hl : 0 ≤ l ∧ l ≤ g) (hme : 1 ≤ e ∧ e ≤ 99) (hh : 0 ≤ w ∧ w ≤ 4) (hp : ¬ n 17 = 0) : z_Mt xs L m_X4_rate [aR 0 16, aI (1 : Int32), aI g, aI l, aI e, aI w] (cm n t v ld sh o cd pl ka kb kc, D, E) (.inr 1) (cm n t v ld sh o cd pl ka kb kc, D, E) 1 := by
  refine z_Ev_blk 1 (c' := (1, [some (aR 0 16), some (aI (1 : Int32)), some (aI g), some (aI l), some (aI e), some (aI w), none], [aI (1 : Int32)], (cm n t v ld sh o cd pl ka kb kc, D, E))) rfl trivial ?_
  refine z_Ev_call0 (m' := m_X4_isSet) (as := [aI (1 : Int32)]) (r := []) ((by have q := e_isSet (xs := xs) (L := L) (1 : Int32) (cm n t v ld sh o cd pl ka kb kc) D E; rw [f_b_t (by decide)] at q; exact q)) rfl rfl ?_
  refine z_Ev_blk 1 (c' := ((if (1 : Int32) = 0 then 32 else 7), [some (aR 0 16), some (aI (1 : Int32)), some (aI g), some (aI l), some (aI e), some (aI w), none], [], (cm n t v ld sh o cd pl ka kb kc, D, E))) rfl trivial ?_
  refine z_Ev_else (by decide) ?_
  refine z_Ev_blk 3 (c' := (13, [some (aR 0 16), some (aI (1 : Int32)), some (aI g), some (aI l), some (aI e), some (aI w), none], [aI g, aI (500 : Int32), aI (50 : Int32)], (cm n t v ld sh o cd pl ka kb kc, D, E))) rfl trivial ?_
  refine z_Ev_call0 (m' := m_X4_isFrom) (as := [aI (50 : Int32), aI (500 : Int32), aI g]) (r := []) ((by have q := e_isFrom (xs := xs) (L := L) (50 : Int32) (500 : Int32) g (cm n t v ld sh o cd pl ka kb kc) D E; rw [f_b_t (hg)] at q; exact q)) rfl rfl ?_
  refine z_Ev_blk 1 (c' := ((if (1 : Int32) = 0 then 32 else 19), [some (aR 0 16), some (aI (1 : Int32)), some (aI g), some (aI l), some (aI e), some (aI w), none], [], (cm n t v ld sh o cd pl ka kb kc, D, E))) rfl trivial ?_
  refine z_Ev_else (by decide) ?_
  refine z_Ev_blk 3 (c' := (22, [some (aR 0 16), some (aI (1 : Int32)), some (aI g), some (aI l), some (aI e), some (aI w), none], [aI l, aI g, aI (0 : Int32)], (cm n t v ld sh o cd pl ka kb kc, D, E))) rfl trivial ?_
  refine z_Ev_call0 (m' := m_X4_isFrom) (as := [aI (0 : Int32), aI g, aI l]) (r := []) ((by have q := e_isFrom (xs := xs) (L := L) (0 : Int32) g l (cm n t v ld sh o cd pl ka kb kc) D E; rw [f_b_t (hl)] at q; exact q)) rfl rfl ?_
  refine z_Ev_blk 1 (c' := ((if (1 : Int32) = 0 then 32 else 28), [some (aR 0 16), some (aI (1 : Int32)), some (aI g), some (aI l), some (aI e), some (aI w), none], [], (cm n t v ld sh o cd pl ka kb kc, D, E))) rfl trivial ?_
  refine z_Ev_else (by decide) ?_
  refine z_Ev_blk 2 (c' := (33, [some (aR 0 16), some (aI (1 : Int32)), some (aI g), some (aI l), some (aI e), some (aI w), none], [aI (1 : Int32)], (cm n t v ld sh o cd pl ka kb kc, D, E))) rfl trivial ?_
  refine z_Ev_call0 (m' := m_X4_requireArgument) (as := [aI (1 : Int32)]) (r := []) (e_reqA1 (cm n t v ld sh o cd pl ka kb kc) D E) rfl rfl ?_
  refine z_Ev_blk 3 (c' := (41, [some (aR 0 16), some (aI (1 : Int32)), some (aI g), some (aI l), some (aI e), some (aI w), none], [aI e, aI (99 : Int32), aI (1 : Int32)], (cm n t v ld sh o cd pl ka kb kc, D, E))) rfl trivial ?_
  refine z_Ev_call0 (m' := m_X4_isFrom) (as := [aI (1 : Int32), aI (99 : Int32), aI e]) (r := []) ((by have q := e_isFrom (xs := xs) (L := L) (1 : Int32) (99 : Int32) e (cm n t v ld sh o cd pl ka kb kc) D E; rw [f_b_t (hme)] at q; exact q)) rfl rfl ?_
  refine z_Ev_blk 1 (c' := ((if (1 : Int32) = 0 then 61 else 47), [some (aR 0 16), some (aI (1 : Int32)), some (aI g), some (aI l), some (aI e), some (aI w), none], [], (cm n t v ld sh o cd pl ka kb kc, D, E))) rfl trivial ?_
  refine z_Ev_else (by decide) ?_
  refine z_Ev_blk 3 (c' := (51, [some (aR 0 16), some (aI (1 : Int32)), some (aI g), some (aI l), some (aI e), some (aI w), none], [aI w, aI (4 : Int32), aI (0 : Int32)], (cm n t v ld sh o cd pl ka kb kc, D, E))) rfl trivial ?_
  refine z_Ev_call0 (m' := m_X4_isFrom) (as := [aI (0 : Int32), aI (4 : Int32), aI w]) (r := []) ((by have q := e_isFrom (xs := xs) (L := L) (0 : Int32) (4 : Int32) w (cm n t v ld sh o cd pl ka kb kc) D E; rw [f_b_t (hh)] at q; exact q)) rfl rfl ?_
  refine z_Ev_blk 1 (c' := ((if (1 : Int32) = 0 then 61 else 57), [some (aR 0 16), some (aI (1 : Int32)), some (aI g), some (aI l), some (aI e), some (aI w), none], [], (cm n t v ld sh o cd pl ka kb kc, D, E))) rfl trivial ?_
  refine z_Ev_else (by decide) ?_
  refine z_Ev_blk 2 (c' := (62, [some (aR 0 16), some (aI (1 : Int32)), some (aI g), some (aI l), some (aI e), some (aI w), none], [aI (1 : Int32)], (cm n t v ld sh o cd pl ka kb kc, D, E))) rfl trivial ?_
  refine z_Ev_call0 (m' := m_X4_requireArgument) (as := [aI (1 : Int32)]) (r := []) (e_reqA1 (cm n t v ld sh o cd pl ka kb kc) D E) rfl rfl ?_
  refine z_Ev_blk 7 (c' := ((if (n 17) = 0 then 80 else 84), [some (aR 0 16), some (aI (1 : Int32)), some (aI g), some (aI l), some (aI e), some (aI w), none], [], (cm n t v ld sh o cd pl ka kb kc, D, E))) rfl ⟨rfl, trivial⟩ ?_
  refine z_Ev_else (hp) ?_
  refine z_Ev_blk 1 (c' := (85, [some (aR 0 16), some (aI (1 : Int32)), some (aI g), some (aI l), some (aI e), some (aI w), none], [aI (0 : Int32)], (cm n t v ld sh o cd pl ka kb kc, D, E))) rfl trivial ?_
  exact z_Ev_thru (e_reqS0 (cm n t v ld sh o cd pl ka kb kc) D E) rfl rfl rfl
theorem c_rate_2 {xs : Nat → Int32} {L : Nat} (g l e w : Int32) (n t : Nat → Int32) (v : Nat → Nat → Int32) (ld sh o cd pl ka kb kc : Nat → Int32) (D : Nat → Nat → Int32) (E : Nat → Int64) (hg : 50 ≤ g ∧ g ≤ 500) (hl : 0 ≤ l ∧ l ≤ g) (hme : 1 ≤ e ∧ e ≤ 99) (hh : 0 ≤ w ∧ w ≤ 4) (hp : n 18 = 0) (q m : Nat) (h3 : o 3 = nI q) (h4 : o 4 = nI m) (hq : q < 6) (hm : m ≤ 6) (hb5 : z_isB (n 36) = true) (hb6 : z_isB (n 37) = true) : z_Mt xs L m_X4_rate [aR 0 16, aI (2 : Int32), aI g, aI l, aI e, aI w] (cm n t v ld sh o cd pl ka kb kc, D, E) (.inl (some (aI (n 2)))) (cm (upd (upd (upd (upd n 2 g) 6 l) 10 e) 14 w) t (svV v n q m) ld sh (svO o q m) cd pl ka kb kc, D, E) 0 := by
  refine z_Ev_blk 1 (c' := (1, [some (aR 0 16), some (aI (2 : Int32)), some (aI g), some (aI l), some (aI e), some (aI w), none], [aI (2 : Int32)], (cm n t v ld sh o cd pl ka kb kc, D, E))) rfl trivial ?_
  refine z_Ev_call0 (m' := m_X4_isSet) (as := [aI (2 : Int32)]) (r := []) ((by have q := e_isSet (xs := xs) (L := L) (2 : Int32) (cm n t v ld sh o cd pl ka kb kc) D E; rw [f_b_t (by decide)] at q; exact q)) rfl rfl ?_
  refine z_Ev_blk 1 (c' := ((if (1 : Int32) = 0 then 32 else 7), [some (aR 0 16), some (aI (2 : Int32)), some (aI g), some (aI l), some (aI e), some (aI w), none], [], (cm n t v ld sh o cd pl ka kb kc, D, E))) rfl trivial ?_
  refine z_Ev_else (by decide) ?_
  refine z_Ev_blk 3 (c' := (13, [some (aR 0 16), some (aI (2 : Int32)), some (aI g), some (aI l), some (aI e), some (aI w), none], [aI g, aI (500 : Int32), aI (50 : Int32)], (cm n t v ld sh o cd pl ka kb kc, D, E))) rfl trivial ?_
  refine z_Ev_call0 (m' := m_X4_isFrom) (as := [aI (50 : Int32), aI (500 : Int32), aI g]) (r := []) ((by have q := e_isFrom (xs := xs) (L := L) (50 : Int32) (500 : Int32) g (cm n t v ld sh o cd pl ka kb kc) D E; rw [f_b_t (hg)] at q; exact q)) rfl rfl ?_
  refine z_Ev_blk 1 (c' := ((if (1 : Int32) = 0 then 32 else 19), [some (aR 0 16), some (aI (2 : Int32)), some (aI g), some (aI l), some (aI e), some (aI w), none], [], (cm n t v ld sh o cd pl ka kb kc, D, E))) rfl trivial ?_
  refine z_Ev_else (by decide) ?_
  refine z_Ev_blk 3 (c' := (22, [some (aR 0 16), some (aI (2 : Int32)), some (aI g), some (aI l), some (aI e), some (aI w), none], [aI l, aI g, aI (0 : Int32)], (cm n t v ld sh o cd pl ka kb kc, D, E))) rfl trivial ?_
  refine z_Ev_call0 (m' := m_X4_isFrom) (as := [aI (0 : Int32), aI g, aI l]) (r := []) ((by have q := e_isFrom (xs := xs) (L := L) (0 : Int32) g l (cm n t v ld sh o cd pl ka kb kc) D E; rw [f_b_t (hl)] at q; exact q)) rfl rfl ?_
  refine z_Ev_blk 1 (c' := ((if (1 : Int32) = 0 then 32 else 28), [some (aR 0 16), some (aI (2 : Int32)), some (aI g), some (aI l), some (aI e), some (aI w), none], [], (cm n t v ld sh o cd pl ka kb kc, D, E))) rfl trivial ?_
  refine z_Ev_else (by decide) ?_
  refine z_Ev_blk 2 (c' := (33, [some (aR 0 16), some (aI (2 : Int32)), some (aI g), some (aI l), some (aI e), some (aI w), none], [aI (1 : Int32)], (cm n t v ld sh o cd pl ka kb kc, D, E))) rfl trivial ?_
  refine z_Ev_call0 (m' := m_X4_requireArgument) (as := [aI (1 : Int32)]) (r := []) (e_reqA1 (cm n t v ld sh o cd pl ka kb kc) D E) rfl rfl ?_
  refine z_Ev_blk 3 (c' := (41, [some (aR 0 16), some (aI (2 : Int32)), some (aI g), some (aI l), some (aI e), some (aI w), none], [aI e, aI (99 : Int32), aI (1 : Int32)], (cm n t v ld sh o cd pl ka kb kc, D, E))) rfl trivial ?_
  refine z_Ev_call0 (m' := m_X4_isFrom) (as := [aI (1 : Int32), aI (99 : Int32), aI e]) (r := []) ((by have q := e_isFrom (xs := xs) (L := L) (1 : Int32) (99 : Int32) e (cm n t v ld sh o cd pl ka kb kc) D E; rw [f_b_t (hme)] at q; exact q)) rfl rfl ?_
  refine z_Ev_blk 1 (c' := ((if (1 : Int32) = 0 then 61 else 47), [some (aR 0 16), some (aI (2 : Int32)), some (aI g), some (aI l), some (aI e), some (aI w), none], [], (cm n t v ld sh o cd pl ka kb kc, D, E))) rfl trivial ?_
  refine z_Ev_else (by decide) ?_
  refine z_Ev_blk 3 (c' := (51, [some (aR 0 16), some (aI (2 : Int32)), some (aI g), some (aI l), some (aI e), some (aI w), none], [aI w, aI (4 : Int32), aI (0 : Int32)], (cm n t v ld sh o cd pl ka kb kc, D, E))) rfl trivial ?_
  refine z_Ev_call0 (m' := m_X4_isFrom) (as := [aI (0 : Int32), aI (4 : Int32), aI w]) (r := []) ((by have q := e_isFrom (xs := xs) (L := L) (0 : Int32) (4 : Int32) w (cm n t v ld sh o cd pl ka kb kc) D E; rw [f_b_t (hh)] at q; exact q)) rfl rfl ?_
  refine z_Ev_blk 1 (c' := ((if (1 : Int32) = 0 then 61 else 57), [some (aR 0 16), some (aI (2 : Int32)), some (aI g), some (aI l), some (aI e), some (aI w), none], [], (cm n t v ld sh o cd pl ka kb kc, D, E))) rfl trivial ?_
  refine z_Ev_else (by decide) ?_
  refine z_Ev_blk 2 (c' := (62, [some (aR 0 16), some (aI (2 : Int32)), some (aI g), some (aI l), some (aI e), some (aI w), none], [aI (1 : Int32)], (cm n t v ld sh o cd pl ka kb kc, D, E))) rfl trivial ?_
  refine z_Ev_call0 (m' := m_X4_requireArgument) (as := [aI (1 : Int32)]) (r := []) (e_reqA1 (cm n t v ld sh o cd pl ka kb kc) D E) rfl rfl ?_
  refine z_Ev_blk 7 (c' := ((if (n 18) = 0 then 80 else 84), [some (aR 0 16), some (aI (2 : Int32)), some (aI g), some (aI l), some (aI e), some (aI w), none], [], (cm n t v ld sh o cd pl ka kb kc, D, E))) rfl ⟨rfl, trivial⟩ ?_
  refine z_Ev_if (hp) ?_
  refine z_Ev_blk 2 (c' := (85, [some (aR 0 16), some (aI (2 : Int32)), some (aI g), some (aI l), some (aI e), some (aI w), none], [aI (1 : Int32)], (cm n t v ld sh o cd pl ka kb kc, D, E))) rfl trivial ?_
  refine z_Ev_call0 (m' := m_X4_requireState) (as := [aI (1 : Int32)]) (r := []) (e_reqS1 (cm n t v ld sh o cd pl ka kb kc) D E) rfl rfl ?_
  refine z_Ev_blk 1 (c' := (89, [some (aR 0 16), some (aI (2 : Int32)), some (aI g), some (aI l), some (aI e), some (aI w), none], [aR 0 16], (cm n t v ld sh o cd pl ka kb kc, D, E))) rfl trivial ?_
  refine z_Ev_call0 (m' := m_X4_saveState) (as := [aR 0 16]) (r := []) (c_save q m n t v ld sh o cd pl ka kb kc D E h3 h4 hq hm hb5 hb6) rfl rfl ?_
  refine z_Ev_blk 14 (c' := (119, [some (aR 0 16), some (aI (2 : Int32)), some (aI g), some (aI l), some (aI e), some (aI w), some (aI (n 2))], [], (up3 (cm n t (svV v n q m) ld sh (svO o q m) cd pl ka kb kc) 0 2 2 g, D, E))) rfl ⟨rfl, rfl, trivial⟩ ?_
  rw [cmn_2_2]
  refine z_Ev_blk 7 (c' := (132, [some (aR 0 16), some (aI (2 : Int32)), some (aI g), some (aI l), some (aI e), some (aI w), some (aI (n 2))], [], (up3 (cm (upd n 2 g) t (svV v n q m) ld sh (svO o q m) cd pl ka kb kc) 0 3 2 l, D, E))) rfl ⟨rfl, trivial⟩ ?_
  rw [cmn_3_2]
  refine z_Ev_blk 7 (c' := (146, [some (aR 0 16), some (aI (2 : Int32)), some (aI g), some (aI l), some (aI e), some (aI w), some (aI (n 2))], [], (up3 (cm (upd (upd n 2 g) 6 l) t (svV v n q m) ld sh (svO o q m) cd pl ka kb kc) 0 4 2 e, D, E))) rfl ⟨rfl, trivial⟩ ?_
  rw [cmn_4_2]
  refine z_Ev_blk 7 (c' := (160, [some (aR 0 16), some (aI (2 : Int32)), some (aI g), some (aI l), some (aI e), some (aI w), some (aI (n 2))], [], (up3 (cm (upd (upd (upd n 2 g) 6 l) 10 e) t (svV v n q m) ld sh (svO o q m) cd pl ka kb kc) 0 5 2 w, D, E))) rfl ⟨rfl, trivial⟩ ?_
  rw [cmn_5_2]
  refine z_Ev_blk 1 (c' := (162, [some (aR 0 16), some (aI (2 : Int32)), some (aI g), some (aI l), some (aI e), some (aI w), some (aI (n 2))], [aI (n 2)], (cm (upd (upd (upd (upd n 2 g) 6 l) 10 e) 14 w) t (svV v n q m) ld sh (svO o q m) cd pl ka kb kc, D, E))) rfl trivial ?_
  exact z_Ev_iretE rfl rfl (by rfl) (by rfl)
theorem c_rateS_2 {xs : Nat → Int32} {L : Nat} (g l e w : Int32) (n t : Nat → Int32) (v : Nat → Nat → Int32) (ld sh o cd pl ka kb kc : Nat → Int32) (D : Nat → Nat → Int32) (E : Nat → Int64) (hg : 50 ≤ g ∧ g ≤ 500) (hl : 0 ≤ l ∧ l ≤ g) (hme : 1 ≤ e ∧ e ≤ 99) (hh : 0 ≤ w ∧ w ≤ 4) (hp : ¬ n 18 = 0) : z_Mt xs L m_X4_rate [aR 0 16, aI (2 : Int32), aI g, aI l, aI e, aI w] (cm n t v ld sh o cd pl ka kb kc, D, E) (.inr 1) (cm n t v ld sh o cd pl ka kb kc, D, E) 1 := by
  refine z_Ev_blk 1 (c' := (1, [some (aR 0 16), some (aI (2 : Int32)), some (aI g), some (aI l), some (aI e), some (aI w), none], [aI (2 : Int32)], (cm n t v ld sh o cd pl ka kb kc, D, E))) rfl trivial ?_
  refine z_Ev_call0 (m' := m_X4_isSet) (as := [aI (2 : Int32)]) (r := []) ((by have q := e_isSet (xs := xs) (L := L) (2 : Int32) (cm n t v ld sh o cd pl ka kb kc) D E; rw [f_b_t (by decide)] at q; exact q)) rfl rfl ?_
  refine z_Ev_blk 1 (c' := ((if (1 : Int32) = 0 then 32 else 7), [some (aR 0 16), some (aI (2 : Int32)), some (aI g), some (aI l), some (aI e), some (aI w), none], [], (cm n t v ld sh o cd pl ka kb kc, D, E))) rfl trivial ?_
  refine z_Ev_else (by decide) ?_
  refine z_Ev_blk 3 (c' := (13, [some (aR 0 16), some (aI (2 : Int32)), some (aI g), some (aI l), some (aI e), some (aI w), none], [aI g, aI (500 : Int32), aI (50 : Int32)], (cm n t v ld sh o cd pl ka kb kc, D, E))) rfl trivial ?_
  refine z_Ev_call0 (m' := m_X4_isFrom) (as := [aI (50 : Int32), aI (500 : Int32), aI g]) (r := []) ((by have q := e_isFrom (xs := xs) (L := L) (50 : Int32) (500 : Int32) g (cm n t v ld sh o cd pl ka kb kc) D E; rw [f_b_t (hg)] at q; exact q)) rfl rfl ?_
  refine z_Ev_blk 1 (c' := ((if (1 : Int32) = 0 then 32 else 19), [some (aR 0 16), some (aI (2 : Int32)), some (aI g), some (aI l), some (aI e), some (aI w), none], [], (cm n t v ld sh o cd pl ka kb kc, D, E))) rfl trivial ?_
  refine z_Ev_else (by decide) ?_
  refine z_Ev_blk 3 (c' := (22, [some (aR 0 16), some (aI (2 : Int32)), some (aI g), some (aI l), some (aI e), some (aI w), none], [aI l, aI g, aI (0 : Int32)], (cm n t v ld sh o cd pl ka kb kc, D, E))) rfl trivial ?_
  refine z_Ev_call0 (m' := m_X4_isFrom) (as := [aI (0 : Int32), aI g, aI l]) (r := []) ((by have q := e_isFrom (xs := xs) (L := L) (0 : Int32) g l (cm n t v ld sh o cd pl ka kb kc) D E; rw [f_b_t (hl)] at q; exact q)) rfl rfl ?_
  refine z_Ev_blk 1 (c' := ((if (1 : Int32) = 0 then 32 else 28), [some (aR 0 16), some (aI (2 : Int32)), some (aI g), some (aI l), some (aI e), some (aI w), none], [], (cm n t v ld sh o cd pl ka kb kc, D, E))) rfl trivial ?_
  refine z_Ev_else (by decide) ?_
  refine z_Ev_blk 2 (c' := (33, [some (aR 0 16), some (aI (2 : Int32)), some (aI g), some (aI l), some (aI e), some (aI w), none], [aI (1 : Int32)], (cm n t v ld sh o cd pl ka kb kc, D, E))) rfl trivial ?_
  refine z_Ev_call0 (m' := m_X4_requireArgument) (as := [aI (1 : Int32)]) (r := []) (e_reqA1 (cm n t v ld sh o cd pl ka kb kc) D E) rfl rfl ?_
  refine z_Ev_blk 3 (c' := (41, [some (aR 0 16), some (aI (2 : Int32)), some (aI g), some (aI l), some (aI e), some (aI w), none], [aI e, aI (99 : Int32), aI (1 : Int32)], (cm n t v ld sh o cd pl ka kb kc, D, E))) rfl trivial ?_
  refine z_Ev_call0 (m' := m_X4_isFrom) (as := [aI (1 : Int32), aI (99 : Int32), aI e]) (r := []) ((by have q := e_isFrom (xs := xs) (L := L) (1 : Int32) (99 : Int32) e (cm n t v ld sh o cd pl ka kb kc) D E; rw [f_b_t (hme)] at q; exact q)) rfl rfl ?_
  refine z_Ev_blk 1 (c' := ((if (1 : Int32) = 0 then 61 else 47), [some (aR 0 16), some (aI (2 : Int32)), some (aI g), some (aI l), some (aI e), some (aI w), none], [], (cm n t v ld sh o cd pl ka kb kc, D, E))) rfl trivial ?_
  refine z_Ev_else (by decide) ?_
  refine z_Ev_blk 3 (c' := (51, [some (aR 0 16), some (aI (2 : Int32)), some (aI g), some (aI l), some (aI e), some (aI w), none], [aI w, aI (4 : Int32), aI (0 : Int32)], (cm n t v ld sh o cd pl ka kb kc, D, E))) rfl trivial ?_
  refine z_Ev_call0 (m' := m_X4_isFrom) (as := [aI (0 : Int32), aI (4 : Int32), aI w]) (r := []) ((by have q := e_isFrom (xs := xs) (L := L) (0 : Int32) (4 : Int32) w (cm n t v ld sh o cd pl ka kb kc) D E; rw [f_b_t (hh)] at q; exact q)) rfl rfl ?_
  refine z_Ev_blk 1 (c' := ((if (1 : Int32) = 0 then 61 else 57), [some (aR 0 16), some (aI (2 : Int32)), some (aI g), some (aI l), some (aI e), some (aI w), none], [], (cm n t v ld sh o cd pl ka kb kc, D, E))) rfl trivial ?_
  refine z_Ev_else (by decide) ?_
  refine z_Ev_blk 2 (c' := (62, [some (aR 0 16), some (aI (2 : Int32)), some (aI g), some (aI l), some (aI e), some (aI w), none], [aI (1 : Int32)], (cm n t v ld sh o cd pl ka kb kc, D, E))) rfl trivial ?_
  refine z_Ev_call0 (m' := m_X4_requireArgument) (as := [aI (1 : Int32)]) (r := []) (e_reqA1 (cm n t v ld sh o cd pl ka kb kc) D E) rfl rfl ?_
  refine z_Ev_blk 7 (c' := ((if (n 18) = 0 then 80 else 84), [some (aR 0 16), some (aI (2 : Int32)), some (aI g), some (aI l), some (aI e), some (aI w), none], [], (cm n t v ld sh o cd pl ka kb kc, D, E))) rfl ⟨rfl, trivial⟩ ?_
  refine z_Ev_else (hp) ?_
  refine z_Ev_blk 1 (c' := (85, [some (aR 0 16), some (aI (2 : Int32)), some (aI g), some (aI l), some (aI e), some (aI w), none], [aI (0 : Int32)], (cm n t v ld sh o cd pl ka kb kc, D, E))) rfl trivial ?_
  exact z_Ev_thru (e_reqS0 (cm n t v ld sh o cd pl ka kb kc) D E) rfl rfl rfl
theorem c_rate_3 {xs : Nat → Int32} {L : Nat} (g l e w : Int32) (n t : Nat → Int32) (v : Nat → Nat → Int32) (ld sh o cd pl ka kb kc : Nat → Int32) (D : Nat → Nat → Int32) (E : Nat → Int64) (hg : 50 ≤ g ∧ g ≤ 500) (hl : 0 ≤ l ∧ l ≤ g) (hme : 1 ≤ e ∧ e ≤ 99) (hh : 0 ≤ w ∧ w ≤ 4) (hp : n 19 = 0) (q m : Nat) (h3 : o 3 = nI q) (h4 : o 4 = nI m) (hq : q < 6) (hm : m ≤ 6) (hb5 : z_isB (n 36) = true) (hb6 : z_isB (n 37) = true) : z_Mt xs L m_X4_rate [aR 0 16, aI (3 : Int32), aI g, aI l, aI e, aI w] (cm n t v ld sh o cd pl ka kb kc, D, E) (.inl (some (aI (n 3)))) (cm (upd (upd (upd (upd n 3 g) 7 l) 11 e) 15 w) t (svV v n q m) ld sh (svO o q m) cd pl ka kb kc, D, E) 0 := by
  refine z_Ev_blk 1 (c' := (1, [some (aR 0 16), some (aI (3 : Int32)), some (aI g), some (aI l), some (aI e), some (aI w), none], [aI (3 : Int32)], (cm n t v ld sh o cd pl ka kb kc, D, E))) rfl trivial ?_
  refine z_Ev_call0 (m' := m_X4_isSet) (as := [aI (3 : Int32)]) (r := []) ((by have q := e_isSet (xs := xs) (L := L) (3 : Int32) (cm n t v ld sh o cd pl ka kb kc) D E; rw [f_b_t (by decide)] at q; exact q)) rfl rfl ?_
  refine z_Ev_blk 1 (c' := ((if (1 : Int32) = 0 then 32 else 7), [some (aR 0 16), some (aI (3 : Int32)), some (aI g), some (aI l), some (aI e), some (aI w), none], [], (cm n t v ld sh o cd pl ka kb kc, D, E))) rfl trivial ?_
  refine z_Ev_else (by decide) ?_
  refine z_Ev_blk 3 (c' := (13, [some (aR 0 16), some (aI (3 : Int32)), some (aI g), some (aI l), some (aI e), some (aI w), none], [aI g, aI (500 : Int32), aI (50 : Int32)], (cm n t v ld sh o cd pl ka kb kc, D, E))) rfl trivial ?_
  refine z_Ev_call0 (m' := m_X4_isFrom) (as := [aI (50 : Int32), aI (500 : Int32), aI g]) (r := []) ((by have q := e_isFrom (xs := xs) (L := L) (50 : Int32) (500 : Int32) g (cm n t v ld sh o cd pl ka kb kc) D E; rw [f_b_t (hg)] at q; exact q)) rfl rfl ?_
  refine z_Ev_blk 1 (c' := ((if (1 : Int32) = 0 then 32 else 19), [some (aR 0 16), some (aI (3 : Int32)), some (aI g), some (aI l), some (aI e), some (aI w), none], [], (cm n t v ld sh o cd pl ka kb kc, D, E))) rfl trivial ?_
  refine z_Ev_else (by decide) ?_
  refine z_Ev_blk 3 (c' := (22, [some (aR 0 16), some (aI (3 : Int32)), some (aI g), some (aI l), some (aI e), some (aI w), none], [aI l, aI g, aI (0 : Int32)], (cm n t v ld sh o cd pl ka kb kc, D, E))) rfl trivial ?_
  refine z_Ev_call0 (m' := m_X4_isFrom) (as := [aI (0 : Int32), aI g, aI l]) (r := []) ((by have q := e_isFrom (xs := xs) (L := L) (0 : Int32) g l (cm n t v ld sh o cd pl ka kb kc) D E; rw [f_b_t (hl)] at q; exact q)) rfl rfl ?_
  refine z_Ev_blk 1 (c' := ((if (1 : Int32) = 0 then 32 else 28), [some (aR 0 16), some (aI (3 : Int32)), some (aI g), some (aI l), some (aI e), some (aI w), none], [], (cm n t v ld sh o cd pl ka kb kc, D, E))) rfl trivial ?_
  refine z_Ev_else (by decide) ?_
  refine z_Ev_blk 2 (c' := (33, [some (aR 0 16), some (aI (3 : Int32)), some (aI g), some (aI l), some (aI e), some (aI w), none], [aI (1 : Int32)], (cm n t v ld sh o cd pl ka kb kc, D, E))) rfl trivial ?_
  refine z_Ev_call0 (m' := m_X4_requireArgument) (as := [aI (1 : Int32)]) (r := []) (e_reqA1 (cm n t v ld sh o cd pl ka kb kc) D E) rfl rfl ?_
  refine z_Ev_blk 3 (c' := (41, [some (aR 0 16), some (aI (3 : Int32)), some (aI g), some (aI l), some (aI e), some (aI w), none], [aI e, aI (99 : Int32), aI (1 : Int32)], (cm n t v ld sh o cd pl ka kb kc, D, E))) rfl trivial ?_
  refine z_Ev_call0 (m' := m_X4_isFrom) (as := [aI (1 : Int32), aI (99 : Int32), aI e]) (r := []) ((by have q := e_isFrom (xs := xs) (L := L) (1 : Int32) (99 : Int32) e (cm n t v ld sh o cd pl ka kb kc) D E; rw [f_b_t (hme)] at q; exact q)) rfl rfl ?_
  refine z_Ev_blk 1 (c' := ((if (1 : Int32) = 0 then 61 else 47), [some (aR 0 16), some (aI (3 : Int32)), some (aI g), some (aI l), some (aI e), some (aI w), none], [], (cm n t v ld sh o cd pl ka kb kc, D, E))) rfl trivial ?_
  refine z_Ev_else (by decide) ?_
  refine z_Ev_blk 3 (c' := (51, [some (aR 0 16), some (aI (3 : Int32)), some (aI g), some (aI l), some (aI e), some (aI w), none], [aI w, aI (4 : Int32), aI (0 : Int32)], (cm n t v ld sh o cd pl ka kb kc, D, E))) rfl trivial ?_
  refine z_Ev_call0 (m' := m_X4_isFrom) (as := [aI (0 : Int32), aI (4 : Int32), aI w]) (r := []) ((by have q := e_isFrom (xs := xs) (L := L) (0 : Int32) (4 : Int32) w (cm n t v ld sh o cd pl ka kb kc) D E; rw [f_b_t (hh)] at q; exact q)) rfl rfl ?_
  refine z_Ev_blk 1 (c' := ((if (1 : Int32) = 0 then 61 else 57), [some (aR 0 16), some (aI (3 : Int32)), some (aI g), some (aI l), some (aI e), some (aI w), none], [], (cm n t v ld sh o cd pl ka kb kc, D, E))) rfl trivial ?_
  refine z_Ev_else (by decide) ?_
  refine z_Ev_blk 2 (c' := (62, [some (aR 0 16), some (aI (3 : Int32)), some (aI g), some (aI l), some (aI e), some (aI w), none], [aI (1 : Int32)], (cm n t v ld sh o cd pl ka kb kc, D, E))) rfl trivial ?_
  refine z_Ev_call0 (m' := m_X4_requireArgument) (as := [aI (1 : Int32)]) (r := []) (e_reqA1 (cm n t v ld sh o cd pl ka kb kc) D E) rfl rfl ?_
  refine z_Ev_blk 7 (c' := ((if (n 19) = 0 then 80 else 84), [some (aR 0 16), some (aI (3 : Int32)), some (aI g), some (aI l), some (aI e), some (aI w), none], [], (cm n t v ld sh o cd pl ka kb kc, D, E))) rfl ⟨rfl, trivial⟩ ?_
  refine z_Ev_if (hp) ?_
  refine z_Ev_blk 2 (c' := (85, [some (aR 0 16), some (aI (3 : Int32)), some (aI g), some (aI l), some (aI e), some (aI w), none], [aI (1 : Int32)], (cm n t v ld sh o cd pl ka kb kc, D, E))) rfl trivial ?_
  refine z_Ev_call0 (m' := m_X4_requireState) (as := [aI (1 : Int32)]) (r := []) (e_reqS1 (cm n t v ld sh o cd pl ka kb kc) D E) rfl rfl ?_
  refine z_Ev_blk 1 (c' := (89, [some (aR 0 16), some (aI (3 : Int32)), some (aI g), some (aI l), some (aI e), some (aI w), none], [aR 0 16], (cm n t v ld sh o cd pl ka kb kc, D, E))) rfl trivial ?_
  refine z_Ev_call0 (m' := m_X4_saveState) (as := [aR 0 16]) (r := []) (c_save q m n t v ld sh o cd pl ka kb kc D E h3 h4 hq hm hb5 hb6) rfl rfl ?_
  refine z_Ev_blk 14 (c' := (119, [some (aR 0 16), some (aI (3 : Int32)), some (aI g), some (aI l), some (aI e), some (aI w), some (aI (n 3))], [], (up3 (cm n t (svV v n q m) ld sh (svO o q m) cd pl ka kb kc) 0 2 3 g, D, E))) rfl ⟨rfl, rfl, trivial⟩ ?_
  rw [cmn_2_3]
  refine z_Ev_blk 7 (c' := (132, [some (aR 0 16), some (aI (3 : Int32)), some (aI g), some (aI l), some (aI e), some (aI w), some (aI (n 3))], [], (up3 (cm (upd n 3 g) t (svV v n q m) ld sh (svO o q m) cd pl ka kb kc) 0 3 3 l, D, E))) rfl ⟨rfl, trivial⟩ ?_
  rw [cmn_3_3]
  refine z_Ev_blk 7 (c' := (146, [some (aR 0 16), some (aI (3 : Int32)), some (aI g), some (aI l), some (aI e), some (aI w), some (aI (n 3))], [], (up3 (cm (upd (upd n 3 g) 7 l) t (svV v n q m) ld sh (svO o q m) cd pl ka kb kc) 0 4 3 e, D, E))) rfl ⟨rfl, trivial⟩ ?_
  rw [cmn_4_3]
  refine z_Ev_blk 7 (c' := (160, [some (aR 0 16), some (aI (3 : Int32)), some (aI g), some (aI l), some (aI e), some (aI w), some (aI (n 3))], [], (up3 (cm (upd (upd (upd n 3 g) 7 l) 11 e) t (svV v n q m) ld sh (svO o q m) cd pl ka kb kc) 0 5 3 w, D, E))) rfl ⟨rfl, trivial⟩ ?_
  rw [cmn_5_3]
  refine z_Ev_blk 1 (c' := (162, [some (aR 0 16), some (aI (3 : Int32)), some (aI g), some (aI l), some (aI e), some (aI w), some (aI (n 3))], [aI (n 3)], (cm (upd (upd (upd (upd n 3 g) 7 l) 11 e) 15 w) t (svV v n q m) ld sh (svO o q m) cd pl ka kb kc, D, E))) rfl trivial ?_
  exact z_Ev_iretE rfl rfl (by rfl) (by rfl)
theorem c_rateS_3 {xs : Nat → Int32} {L : Nat} (g l e w : Int32) (n t : Nat → Int32) (v : Nat → Nat → Int32) (ld sh o cd pl ka kb kc : Nat → Int32) (D : Nat → Nat → Int32) (E : Nat → Int64) (hg : 50 ≤ g ∧ g ≤ 500) (hl : 0 ≤ l ∧ l ≤ g) (hme : 1 ≤ e ∧ e ≤ 99) (hh : 0 ≤ w ∧ w ≤ 4) (hp : ¬ n 19 = 0) : z_Mt xs L m_X4_rate [aR 0 16, aI (3 : Int32), aI g, aI l, aI e, aI w] (cm n t v ld sh o cd pl ka kb kc, D, E) (.inr 1) (cm n t v ld sh o cd pl ka kb kc, D, E) 1 := by
  refine z_Ev_blk 1 (c' := (1, [some (aR 0 16), some (aI (3 : Int32)), some (aI g), some (aI l), some (aI e), some (aI w), none], [aI (3 : Int32)], (cm n t v ld sh o cd pl ka kb kc, D, E))) rfl trivial ?_
  refine z_Ev_call0 (m' := m_X4_isSet) (as := [aI (3 : Int32)]) (r := []) ((by have q := e_isSet (xs := xs) (L := L) (3 : Int32) (cm n t v ld sh o cd pl ka kb kc) D E; rw [f_b_t (by decide)] at q; exact q)) rfl rfl ?_
  refine z_Ev_blk 1 (c' := ((if (1 : Int32) = 0 then 32 else 7), [some (aR 0 16), some (aI (3 : Int32)), some (aI g), some (aI l), some (aI e), some (aI w), none], [], (cm n t v ld sh o cd pl ka kb kc, D, E))) rfl trivial ?_
  refine z_Ev_else (by decide) ?_
  refine z_Ev_blk 3 (c' := (13, [some (aR 0 16), some (aI (3 : Int32)), some (aI g), some (aI l), some (aI e), some (aI w), none], [aI g, aI (500 : Int32), aI (50 : Int32)], (cm n t v ld sh o cd pl ka kb kc, D, E))) rfl trivial ?_
  refine z_Ev_call0 (m' := m_X4_isFrom) (as := [aI (50 : Int32), aI (500 : Int32), aI g]) (r := []) ((by have q := e_isFrom (xs := xs) (L := L) (50 : Int32) (500 : Int32) g (cm n t v ld sh o cd pl ka kb kc) D E; rw [f_b_t (hg)] at q; exact q)) rfl rfl ?_
  refine z_Ev_blk 1 (c' := ((if (1 : Int32) = 0 then 32 else 19), [some (aR 0 16), some (aI (3 : Int32)), some (aI g), some (aI l), some (aI e), some (aI w), none], [], (cm n t v ld sh o cd pl ka kb kc, D, E))) rfl trivial ?_
  refine z_Ev_else (by decide) ?_
  refine z_Ev_blk 3 (c' := (22, [some (aR 0 16), some (aI (3 : Int32)), some (aI g), some (aI l), some (aI e), some (aI w), none], [aI l, aI g, aI (0 : Int32)], (cm n t v ld sh o cd pl ka kb kc, D, E))) rfl trivial ?_
  refine z_Ev_call0 (m' := m_X4_isFrom) (as := [aI (0 : Int32), aI g, aI l]) (r := []) ((by have q := e_isFrom (xs := xs) (L := L) (0 : Int32) g l (cm n t v ld sh o cd pl ka kb kc) D E; rw [f_b_t (hl)] at q; exact q)) rfl rfl ?_
  refine z_Ev_blk 1 (c' := ((if (1 : Int32) = 0 then 32 else 28), [some (aR 0 16), some (aI (3 : Int32)), some (aI g), some (aI l), some (aI e), some (aI w), none], [], (cm n t v ld sh o cd pl ka kb kc, D, E))) rfl trivial ?_
  refine z_Ev_else (by decide) ?_
  refine z_Ev_blk 2 (c' := (33, [some (aR 0 16), some (aI (3 : Int32)), some (aI g), some (aI l), some (aI e), some (aI w), none], [aI (1 : Int32)], (cm n t v ld sh o cd pl ka kb kc, D, E))) rfl trivial ?_
  refine z_Ev_call0 (m' := m_X4_requireArgument) (as := [aI (1 : Int32)]) (r := []) (e_reqA1 (cm n t v ld sh o cd pl ka kb kc) D E) rfl rfl ?_
  refine z_Ev_blk 3 (c' := (41, [some (aR 0 16), some (aI (3 : Int32)), some (aI g), some (aI l), some (aI e), some (aI w), none], [aI e, aI (99 : Int32), aI (1 : Int32)], (cm n t v ld sh o cd pl ka kb kc, D, E))) rfl trivial ?_
  refine z_Ev_call0 (m' := m_X4_isFrom) (as := [aI (1 : Int32), aI (99 : Int32), aI e]) (r := []) ((by have q := e_isFrom (xs := xs) (L := L) (1 : Int32) (99 : Int32) e (cm n t v ld sh o cd pl ka kb kc) D E; rw [f_b_t (hme)] at q; exact q)) rfl rfl ?_
  refine z_Ev_blk 1 (c' := ((if (1 : Int32) = 0 then 61 else 47), [some (aR 0 16), some (aI (3 : Int32)), some (aI g), some (aI l), some (aI e), some (aI w), none], [], (cm n t v ld sh o cd pl ka kb kc, D, E))) rfl trivial ?_
  refine z_Ev_else (by decide) ?_
  refine z_Ev_blk 3 (c' := (51, [some (aR 0 16), some (aI (3 : Int32)), some (aI g), some (aI l), some (aI e), some (aI w), none], [aI w, aI (4 : Int32), aI (0 : Int32)], (cm n t v ld sh o cd pl ka kb kc, D, E))) rfl trivial ?_
  refine z_Ev_call0 (m' := m_X4_isFrom) (as := [aI (0 : Int32), aI (4 : Int32), aI w]) (r := []) ((by have q := e_isFrom (xs := xs) (L := L) (0 : Int32) (4 : Int32) w (cm n t v ld sh o cd pl ka kb kc) D E; rw [f_b_t (hh)] at q; exact q)) rfl rfl ?_
  refine z_Ev_blk 1 (c' := ((if (1 : Int32) = 0 then 61 else 57), [some (aR 0 16), some (aI (3 : Int32)), some (aI g), some (aI l), some (aI e), some (aI w), none], [], (cm n t v ld sh o cd pl ka kb kc, D, E))) rfl trivial ?_
  refine z_Ev_else (by decide) ?_
  refine z_Ev_blk 2 (c' := (62, [some (aR 0 16), some (aI (3 : Int32)), some (aI g), some (aI l), some (aI e), some (aI w), none], [aI (1 : Int32)], (cm n t v ld sh o cd pl ka kb kc, D, E))) rfl trivial ?_
  refine z_Ev_call0 (m' := m_X4_requireArgument) (as := [aI (1 : Int32)]) (r := []) (e_reqA1 (cm n t v ld sh o cd pl ka kb kc) D E) rfl rfl ?_
  refine z_Ev_blk 7 (c' := ((if (n 19) = 0 then 80 else 84), [some (aR 0 16), some (aI (3 : Int32)), some (aI g), some (aI l), some (aI e), some (aI w), none], [], (cm n t v ld sh o cd pl ka kb kc, D, E))) rfl ⟨rfl, trivial⟩ ?_
  refine z_Ev_else (hp) ?_
  refine z_Ev_blk 1 (c' := (85, [some (aR 0 16), some (aI (3 : Int32)), some (aI g), some (aI l), some (aI e), some (aI w), none], [aI (0 : Int32)], (cm n t v ld sh o cd pl ka kb kc, D, E))) rfl trivial ?_
  exact z_Ev_thru (e_reqS0 (cm n t v ld sh o cd pl ka kb kc) D E) rfl rfl rfl
theorem c_start_0 {xs : Nat → Int32} {L : Nat}  (n t : Nat → Int32) (v : Nat → Nat → Int32) (ld sh o cd pl ka kb kc : Nat → Int32) (D : Nat → Nat → Int32) (E : Nat → Int64) (hp : n 16 = 0) (q m : Nat) (h3 : o 3 = nI q) (h4 : o 4 = nI m) (hq : q < 6) (hm : m ≤ 6) (hb5 : z_isB (n 36) = true) (hb6 : z_isB (n 37) = true) : z_Mt xs L m_X4_start [aR 0 16, aI (0 : Int32)] (cm n t v ld sh o cd pl ka kb kc, D, E) (.inl (some (aI (n 12)))) (cm (upd (upd n 20 (n 12)) 16 (if n 12 = 0 then 2 else 1)) t (svV v n q m) ld sh (svO o q m) cd pl ka kb kc, D, E) 0 := by
  refine z_Ev_blk 1 (c' := (1, [some (aR 0 16), some (aI (0 : Int32))], [aI (0 : Int32)], (cm n t v ld sh o cd pl ka kb kc, D, E))) rfl trivial ?_
  refine z_Ev_call0 (m' := m_X4_isSet) (as := [aI (0 : Int32)]) (r := []) ((by have q := e_isSet (xs := xs) (L := L) (0 : Int32) (cm n t v ld sh o cd pl ka kb kc) D E; rw [f_b_t (by decide)] at q; exact q)) rfl rfl ?_
  refine z_Ev_call0 (m' := m_X4_requireArgument) (as := [aI (1 : Int32)]) (r := []) (e_reqA1 (cm n t v ld sh o cd pl ka kb kc) D E) rfl rfl ?_
  refine z_Ev_blk 7 (c' := ((if (n 16) = 0 then 22 else 26), [some (aR 0 16), some (aI (0 : Int32))], [], (cm n t v ld sh o cd pl ka kb kc, D, E))) rfl ⟨rfl, trivial⟩ ?_
  refine z_Ev_if (hp) ?_
  refine z_Ev_blk 2 (c' := (27, [some (aR 0 16), some (aI (0 : Int32))], [aI (1 : Int32)], (cm n t v ld sh o cd pl ka kb kc, D, E))) rfl trivial ?_
  refine z_Ev_call0 (m' := m_X4_requireState) (as := [aI (1 : Int32)]) (r := []) (e_reqS1 (cm n t v ld sh o cd pl ka kb kc) D E) rfl rfl ?_
  refine z_Ev_blk 1 (c' := (31, [some (aR 0 16), some (aI (0 : Int32))], [aR 0 16], (cm n t v ld sh o cd pl ka kb kc, D, E))) rfl trivial ?_
  refine z_Ev_call0 (m' := m_X4_saveState) (as := [aR 0 16]) (r := []) (c_save q m n t v ld sh o cd pl ka kb kc D E h3 h4 hq hm hb5 hb6) rfl rfl ?_
  refine z_Ev_blk 4 (c' := (42, [some (aR 0 16), some (aI (0 : Int32))], [aI (0 : Int32), aR 0 1], (cm n t (svV v n q m) ld sh (svO o q m) cd pl ka kb kc, D, E))) rfl trivial ?_
  refine z_Ev_call0 (m' := m_X0_begin) (as := [aR 0 1, aI (0 : Int32)]) (r := []) (c_begin_0_0 n t (svV v n q m) ld sh (svO o q m) cd pl ka kb kc D E) rfl rfl ?_
  refine z_Ev_blk 6 (c' := (57, [some (aR 0 16), some (aI (0 : Int32))], [aI (n 12)], (cm (upd (upd n 20 (n 12)) 16 (if n 12 = 0 then 2 else 1)) t (svV v n q m) ld sh (svO o q m) cd pl ka kb kc, D, E))) rfl ⟨rfl, trivial⟩ ?_
  exact z_Ev_iretE rfl rfl (by rfl) (by rfl)
theorem c_startS_0 {xs : Nat → Int32} {L : Nat}  (n t : Nat → Int32) (v : Nat → Nat → Int32) (ld sh o cd pl ka kb kc : Nat → Int32) (D : Nat → Nat → Int32) (E : Nat → Int64) (hp : ¬ n 16 = 0) : z_Mt xs L m_X4_start [aR 0 16, aI (0 : Int32)] (cm n t v ld sh o cd pl ka kb kc, D, E) (.inr 1) (cm n t v ld sh o cd pl ka kb kc, D, E) 1 := by
  refine z_Ev_blk 1 (c' := (1, [some (aR 0 16), some (aI (0 : Int32))], [aI (0 : Int32)], (cm n t v ld sh o cd pl ka kb kc, D, E))) rfl trivial ?_
  refine z_Ev_call0 (m' := m_X4_isSet) (as := [aI (0 : Int32)]) (r := []) ((by have q := e_isSet (xs := xs) (L := L) (0 : Int32) (cm n t v ld sh o cd pl ka kb kc) D E; rw [f_b_t (by decide)] at q; exact q)) rfl rfl ?_
  refine z_Ev_call0 (m' := m_X4_requireArgument) (as := [aI (1 : Int32)]) (r := []) (e_reqA1 (cm n t v ld sh o cd pl ka kb kc) D E) rfl rfl ?_
  refine z_Ev_blk 7 (c' := ((if (n 16) = 0 then 22 else 26), [some (aR 0 16), some (aI (0 : Int32))], [], (cm n t v ld sh o cd pl ka kb kc, D, E))) rfl ⟨rfl, trivial⟩ ?_
  refine z_Ev_else (hp) ?_
  refine z_Ev_blk 1 (c' := (27, [some (aR 0 16), some (aI (0 : Int32))], [aI (0 : Int32)], (cm n t v ld sh o cd pl ka kb kc, D, E))) rfl trivial ?_
  exact z_Ev_thru (e_reqS0 (cm n t v ld sh o cd pl ka kb kc) D E) rfl rfl rfl
theorem c_stop_0 {xs : Nat → Int32} {L : Nat}  (n t : Nat → Int32) (v : Nat → Nat → Int32) (ld sh o cd pl ka kb kc : Nat → Int32) (D : Nat → Nat → Int32) (E : Nat → Int64) (hp : n 16 = 1 ∨ n 16 = 2) (q m : Nat) (h3 : o 3 = nI q) (h4 : o 4 = nI m) (hq : q < 6) (hm : m ≤ 6) (hb5 : z_isB (n 36) = true) (hb6 : z_isB (n 37) = true) : z_Mt xs L m_X4_stop [aR 0 16, aI (0 : Int32)] (cm n t v ld sh o cd pl ka kb kc, D, E) (.inl (some (aI (bcF (mkF (fun j => (upd (upd n 20 0) 16 0) (16 + j)) 2))))) (cm (upd (upd n 20 0) 16 0) t (svV v n q m) ld sh (svO o q m) cd pl ka kb kc, D, E) 0 := by
  refine z_Ev_blk 1 (c' := (1, [some (aR 0 16), some (aI (0 : Int32))], [aI (0 : Int32)], (cm n t v ld sh o cd pl ka kb kc, D, E))) rfl trivial ?_
  refine z_Ev_call0 (m' := m_X4_isSet) (as := [aI (0 : Int32)]) (r := []) ((by have q := e_isSet (xs := xs) (L := L) (0 : Int32) (cm n t v ld sh o cd pl ka kb kc) D E; rw [f_b_t (by decide)] at q; exact q)) rfl rfl ?_
  refine z_Ev_call0 (m' := m_X4_requireArgument) (as := [aI (1 : Int32)]) (r := []) (e_reqA1 (cm n t v ld sh o cd pl ka kb kc) D E) rfl rfl ?_
  refine z_Ev_blk 4 (c' := (15, [some (aR 0 16), some (aI (0 : Int32))], [aI (0 : Int32), aR 0 1], (cm n t v ld sh o cd pl ka kb kc, D, E))) rfl trivial ?_
  refine z_Ev_call0 (m' := m_X0_isInUse) (as := [aR 0 1, aI (0 : Int32)]) (r := []) ((by have q := c_isInUse_0 (xs := xs) (L := L) n t v ld sh o cd pl ka kb kc D E; rw [f_b_t hp] at q; exact q)) rfl rfl ?_
  refine z_Ev_call0 (m' := m_X4_requireState) (as := [aI (1 : Int32)]) (r := []) (e_reqS1 (cm n t v ld sh o cd pl ka kb kc) D E) rfl rfl ?_
  refine z_Ev_blk 1 (c' := (22, [some (aR 0 16), some (aI (0 : Int32))], [aR 0 16], (cm n t v ld sh o cd pl ka kb kc, D, E))) rfl trivial ?_
  refine z_Ev_call0 (m' := m_X4_saveState) (as := [aR 0 16]) (r := []) (c_save q m n t v ld sh o cd pl ka kb kc D E h3 h4 hq hm hb5 hb6) rfl rfl ?_
  refine z_Ev_blk 5 (c' := (34, [some (aR 0 16), some (aI (0 : Int32))], [aI (0 : Int32), aI (0 : Int32), aR 0 1], (cm n t (svV v n q m) ld sh (svO o q m) cd pl ka kb kc, D, E))) rfl trivial ?_
  refine z_Ev_call0 (m' := m_X0_become) (as := [aR 0 1, aI (0 : Int32), aI (0 : Int32)]) (r := []) (c_become_0_0 (0 : Int32) n t (svV v n q m) ld sh (svO o q m) cd pl ka kb kc D E) rfl rfl ?_
  refine z_Ev_blk 4 (c' := (45, [some (aR 0 16), some (aI (0 : Int32))], [aI (2 : Int32), aR 0 1], (cm (upd (upd n 20 0) 16 (0 : Int32)) t (svV v n q m) ld sh (svO o q m) cd pl ka kb kc, D, E))) rfl trivial ?_
  refine z_Ev_call0 (m' := m_X0_sizeOf) (as := [aR 0 1, aI (2 : Int32)]) (r := []) (c_sizeOf (2 : Int32) (upd (upd n 20 0) 16 (0 : Int32)) t (svV v n q m) ld sh (svO o q m) cd pl ka kb kc D E) rfl rfl ?_
  exact z_Ev_iretE rfl rfl (by rfl) (by rfl)
theorem c_stopS_0 {xs : Nat → Int32} {L : Nat}  (n t : Nat → Int32) (v : Nat → Nat → Int32) (ld sh o cd pl ka kb kc : Nat → Int32) (D : Nat → Nat → Int32) (E : Nat → Int64) (hp : ¬ (n 16 = 1 ∨ n 16 = 2)) : z_Mt xs L m_X4_stop [aR 0 16, aI (0 : Int32)] (cm n t v ld sh o cd pl ka kb kc, D, E) (.inr 1) (cm n t v ld sh o cd pl ka kb kc, D, E) 1 := by
  refine z_Ev_blk 1 (c' := (1, [some (aR 0 16), some (aI (0 : Int32))], [aI (0 : Int32)], (cm n t v ld sh o cd pl ka kb kc, D, E))) rfl trivial ?_
  refine z_Ev_call0 (m' := m_X4_isSet) (as := [aI (0 : Int32)]) (r := []) ((by have q := e_isSet (xs := xs) (L := L) (0 : Int32) (cm n t v ld sh o cd pl ka kb kc) D E; rw [f_b_t (by decide)] at q; exact q)) rfl rfl ?_
  refine z_Ev_call0 (m' := m_X4_requireArgument) (as := [aI (1 : Int32)]) (r := []) (e_reqA1 (cm n t v ld sh o cd pl ka kb kc) D E) rfl rfl ?_
  refine z_Ev_blk 4 (c' := (15, [some (aR 0 16), some (aI (0 : Int32))], [aI (0 : Int32), aR 0 1], (cm n t v ld sh o cd pl ka kb kc, D, E))) rfl trivial ?_
  refine z_Ev_call0 (m' := m_X0_isInUse) (as := [aR 0 1, aI (0 : Int32)]) (r := []) ((by have q := c_isInUse_0 (xs := xs) (L := L) n t v ld sh o cd pl ka kb kc D E; rw [f_b_f hp] at q; exact q)) rfl rfl ?_
  exact z_Ev_thru (e_reqS0 (cm n t v ld sh o cd pl ka kb kc) D E) rfl rfl rfl
theorem c_lose_0 {xs : Nat → Int32} {L : Nat}  (n t : Nat → Int32) (v : Nat → Nat → Int32) (ld sh o cd pl ka kb kc : Nat → Int32) (D : Nat → Nat → Int32) (E : Nat → Int64) (q m : Nat) (h3 : o 3 = nI q) (h4 : o 4 = nI m) (hq : q < 6) (hm : m ≤ 6) (hb5 : z_isB (n 36) = true) (hb6 : z_isB (n 37) = true) : z_Mt xs L m_X4_lose [aR 0 16, aI (0 : Int32)] (cm n t v ld sh o cd pl ka kb kc, D, E) (.inl (some (aI (if n 16 = 3 then 0 else 1)))) (cm (upd (upd n 20 0) 16 (if n 16 = 3 then 0 else 3)) t (svV v n q m) ld sh (svO o q m) cd pl ka kb kc, D, E) 0 := by
  refine z_Ev_blk 1 (c' := (1, [some (aR 0 16), some (aI (0 : Int32)), none], [aI (0 : Int32)], (cm n t v ld sh o cd pl ka kb kc, D, E))) rfl trivial ?_
  refine z_Ev_call0 (m' := m_X4_isSet) (as := [aI (0 : Int32)]) (r := []) ((by have q := e_isSet (xs := xs) (L := L) (0 : Int32) (cm n t v ld sh o cd pl ka kb kc) D E; rw [f_b_t (by decide)] at q; exact q)) rfl rfl ?_
  refine z_Ev_call0 (m' := m_X4_requireArgument) (as := [aI (1 : Int32)]) (r := []) (e_reqA1 (cm n t v ld sh o cd pl ka kb kc) D E) rfl rfl ?_
  refine z_Ev_blk 1 (c' := (8, [some (aR 0 16), some (aI (0 : Int32)), none], [aR 0 16], (cm n t v ld sh o cd pl ka kb kc, D, E))) rfl trivial ?_
  refine z_Ev_call0 (m' := m_X4_saveState) (as := [aR 0 16]) (r := []) (c_save q m n t v ld sh o cd pl ka kb kc D E h3 h4 hq hm hb5 hb6) rfl rfl ?_
  refine z_Ev_blk 8 (c' := ((if (n 16) = (3 : Int32) then 27 else 31), [some (aR 0 16), some (aI (0 : Int32)), none], [], (cm n t (svV v n q m) ld sh (svO o q m) cd pl ka kb kc, D, E))) rfl ⟨rfl, trivial⟩ ?_
  refine z_Ev_ite (fun h1 => ?_) (fun h1 => ?_)
  · skip
    refine z_Ev_blk 9 (c' := ((if (1 : Int32) = 0 then 49 else 45), [some (aR 0 16), some (aI (0 : Int32)), some (aI (1 : Int32))], [aI (0 : Int32), aR 0 1], (cm n t (svV v n q m) ld sh (svO o q m) cd pl ka kb kc, D, E))) rfl trivial ?_
    refine z_Ev_else (by decide) ?_
    refine z_Ev_blk 2 (c' := (50, [some (aR 0 16), some (aI (0 : Int32)), some (aI (1 : Int32))], [aI (0 : Int32), aI (0 : Int32), aR 0 1], (cm n t (svV v n q m) ld sh (svO o q m) cd pl ka kb kc, D, E))) rfl trivial ?_
    refine z_Ev_call0 (m' := m_X0_become) (as := [aR 0 1, aI (0 : Int32), aI (0 : Int32)]) (r := []) (c_become_0_0 (0 : Int32) n t (svV v n q m) ld sh (svO o q m) cd pl ka kb kc D E) rfl rfl ?_
    refine z_Ev_blk 2 (c' := ((if (1 : Int32) = 0 then 61 else 57), [some (aR 0 16), some (aI (0 : Int32)), some (aI (1 : Int32))], [], (cm (upd (upd n 20 0) 16 (0 : Int32)) t (svV v n q m) ld sh (svO o q m) cd pl ka kb kc, D, E))) rfl trivial ?_
    refine z_Ev_else (by decide) ?_
    refine z_Ev_blk 2 (c' := (62, [some (aR 0 16), some (aI (0 : Int32)), some (aI (1 : Int32))], [aI (0 : Int32)], (cm (upd (upd n 20 0) 16 (0 : Int32)) t (svV v n q m) ld sh (svO o q m) cd pl ka kb kc, D, E))) rfl trivial ?_
    exact z_Ev_iretE rfl rfl (by first | rfl | simp [*]) (by first | rfl | simp [*])
  · skip
    refine z_Ev_blk 8 (c' := ((if (0 : Int32) = 0 then 49 else 45), [some (aR 0 16), some (aI (0 : Int32)), some (aI (0 : Int32))], [aI (0 : Int32), aR 0 1], (cm n t (svV v n q m) ld sh (svO o q m) cd pl ka kb kc, D, E))) rfl trivial ?_
    refine z_Ev_if (by decide) ?_
    refine z_Ev_blk 1 (c' := (50, [some (aR 0 16), some (aI (0 : Int32)), some (aI (0 : Int32))], [aI (3 : Int32), aI (0 : Int32), aR 0 1], (cm n t (svV v n q m) ld sh (svO o q m) cd pl ka kb kc, D, E))) rfl trivial ?_
    refine z_Ev_call0 (m' := m_X0_become) (as := [aR 0 1, aI (0 : Int32), aI (3 : Int32)]) (r := []) (c_become_0_0 (3 : Int32) n t (svV v n q m) ld sh (svO o q m) cd pl ka kb kc D E) rfl rfl ?_
    refine z_Ev_blk 2 (c' := ((if (0 : Int32) = 0 then 61 else 57), [some (aR 0 16), some (aI (0 : Int32)), some (aI (0 : Int32))], [], (cm (upd (upd n 20 0) 16 (3 : Int32)) t (svV v n q m) ld sh (svO o q m) cd pl ka kb kc, D, E))) rfl trivial ?_
    refine z_Ev_if (by decide) ?_
    refine z_Ev_blk 1 (c' := (62, [some (aR 0 16), some (aI (0 : Int32)), some (aI (0 : Int32))], [aI (1 : Int32)], (cm (upd (upd n 20 0) 16 (3 : Int32)) t (svV v n q m) ld sh (svO o q m) cd pl ka kb kc, D, E))) rfl trivial ?_
    exact z_Ev_iretE rfl rfl (by first | rfl | simp [*]) (by first | rfl | simp [*])
theorem c_start_1 {xs : Nat → Int32} {L : Nat}  (n t : Nat → Int32) (v : Nat → Nat → Int32) (ld sh o cd pl ka kb kc : Nat → Int32) (D : Nat → Nat → Int32) (E : Nat → Int64) (hp : n 17 = 0) (q m : Nat) (h3 : o 3 = nI q) (h4 : o 4 = nI m) (hq : q < 6) (hm : m ≤ 6) (hb5 : z_isB (n 36) = true) (hb6 : z_isB (n 37) = true) : z_Mt xs L m_X4_start [aR 0 16, aI (1 : Int32)] (cm n t v ld sh o cd pl ka kb kc, D, E) (.inl (some (aI (n 13)))) (cm (upd (upd n 21 (n 13)) 17 (if n 13 = 0 then 2 else 1)) t (svV v n q m) ld sh (svO o q m) cd pl ka kb kc, D, E) 0 := by
  refine z_Ev_blk 1 (c' := (1, [some (aR 0 16), some (aI (1 : Int32))], [aI (1 : Int32)], (cm n t v ld sh o cd pl ka kb kc, D, E))) rfl trivial ?_
  refine z_Ev_call0 (m' := m_X4_isSet) (as := [aI (1 : Int32)]) (r := []) ((by have q := e_isSet (xs := xs) (L := L) (1 : Int32) (cm n t v ld sh o cd pl ka kb kc) D E; rw [f_b_t (by decide)] at q; exact q)) rfl rfl ?_
  refine z_Ev_call0 (m' := m_X4_requireArgument) (as := [aI (1 : Int32)]) (r := []) (e_reqA1 (cm n t v ld sh o cd pl ka kb kc) D E) rfl rfl ?_
  refine z_Ev_blk 7 (c' := ((if (n 17) = 0 then 22 else 26), [some (aR 0 16), some (aI (1 : Int32))], [], (cm n t v ld sh o cd pl ka kb kc, D, E))) rfl ⟨rfl, trivial⟩ ?_
  refine z_Ev_if (hp) ?_
  refine z_Ev_blk 2 (c' := (27, [some (aR 0 16), some (aI (1 : Int32))], [aI (1 : Int32)], (cm n t v ld sh o cd pl ka kb kc, D, E))) rfl trivial ?_
  refine z_Ev_call0 (m' := m_X4_requireState) (as := [aI (1 : Int32)]) (r := []) (e_reqS1 (cm n t v ld sh o cd pl ka kb kc) D E) rfl rfl ?_
  refine z_Ev_blk 1 (c' := (31, [some (aR 0 16), some (aI (1 : Int32))], [aR 0 16], (cm n t v ld sh o cd pl ka kb kc, D, E))) rfl trivial ?_
  refine z_Ev_call0 (m' := m_X4_saveState) (as := [aR 0 16]) (r := []) (c_save q m n t v ld sh o cd pl ka kb kc D E h3 h4 hq hm hb5 hb6) rfl rfl ?_
  refine z_Ev_blk 4 (c' := (42, [some (aR 0 16), some (aI (1 : Int32))], [aI (1 : Int32), aR 0 1], (cm n t (svV v n q m) ld sh (svO o q m) cd pl ka kb kc, D, E))) rfl trivial ?_
  refine z_Ev_call0 (m' := m_X0_begin) (as := [aR 0 1, aI (1 : Int32)]) (r := []) (c_begin_0_1 n t (svV v n q m) ld sh (svO o q m) cd pl ka kb kc D E) rfl rfl ?_
  refine z_Ev_blk 6 (c' := (57, [some (aR 0 16), some (aI (1 : Int32))], [aI (n 13)], (cm (upd (upd n 21 (n 13)) 17 (if n 13 = 0 then 2 else 1)) t (svV v n q m) ld sh (svO o q m) cd pl ka kb kc, D, E))) rfl ⟨rfl, trivial⟩ ?_
  exact z_Ev_iretE rfl rfl (by rfl) (by rfl)
theorem c_startS_1 {xs : Nat → Int32} {L : Nat}  (n t : Nat → Int32) (v : Nat → Nat → Int32) (ld sh o cd pl ka kb kc : Nat → Int32) (D : Nat → Nat → Int32) (E : Nat → Int64) (hp : ¬ n 17 = 0) : z_Mt xs L m_X4_start [aR 0 16, aI (1 : Int32)] (cm n t v ld sh o cd pl ka kb kc, D, E) (.inr 1) (cm n t v ld sh o cd pl ka kb kc, D, E) 1 := by
  refine z_Ev_blk 1 (c' := (1, [some (aR 0 16), some (aI (1 : Int32))], [aI (1 : Int32)], (cm n t v ld sh o cd pl ka kb kc, D, E))) rfl trivial ?_
  refine z_Ev_call0 (m' := m_X4_isSet) (as := [aI (1 : Int32)]) (r := []) ((by have q := e_isSet (xs := xs) (L := L) (1 : Int32) (cm n t v ld sh o cd pl ka kb kc) D E; rw [f_b_t (by decide)] at q; exact q)) rfl rfl ?_
  refine z_Ev_call0 (m' := m_X4_requireArgument) (as := [aI (1 : Int32)]) (r := []) (e_reqA1 (cm n t v ld sh o cd pl ka kb kc) D E) rfl rfl ?_
  refine z_Ev_blk 7 (c' := ((if (n 17) = 0 then 22 else 26), [some (aR 0 16), some (aI (1 : Int32))], [], (cm n t v ld sh o cd pl ka kb kc, D, E))) rfl ⟨rfl, trivial⟩ ?_
  refine z_Ev_else (hp) ?_
  refine z_Ev_blk 1 (c' := (27, [some (aR 0 16), some (aI (1 : Int32))], [aI (0 : Int32)], (cm n t v ld sh o cd pl ka kb kc, D, E))) rfl trivial ?_
  exact z_Ev_thru (e_reqS0 (cm n t v ld sh o cd pl ka kb kc) D E) rfl rfl rfl
theorem c_stop_1 {xs : Nat → Int32} {L : Nat}  (n t : Nat → Int32) (v : Nat → Nat → Int32) (ld sh o cd pl ka kb kc : Nat → Int32) (D : Nat → Nat → Int32) (E : Nat → Int64) (hp : n 17 = 1 ∨ n 17 = 2) (q m : Nat) (h3 : o 3 = nI q) (h4 : o 4 = nI m) (hq : q < 6) (hm : m ≤ 6) (hb5 : z_isB (n 36) = true) (hb6 : z_isB (n 37) = true) : z_Mt xs L m_X4_stop [aR 0 16, aI (1 : Int32)] (cm n t v ld sh o cd pl ka kb kc, D, E) (.inl (some (aI (bcF (mkF (fun j => (upd (upd n 21 0) 17 0) (16 + j)) 2))))) (cm (upd (upd n 21 0) 17 0) t (svV v n q m) ld sh (svO o q m) cd pl ka kb kc, D, E) 0 := by
  refine z_Ev_blk 1 (c' := (1, [some (aR 0 16), some (aI (1 : Int32))], [aI (1 : Int32)], (cm n t v ld sh o cd pl ka kb kc, D, E))) rfl trivial ?_
  refine z_Ev_call0 (m' := m_X4_isSet) (as := [aI (1 : Int32)]) (r := []) ((by have q := e_isSet (xs := xs) (L := L) (1 : Int32) (cm n t v ld sh o cd pl ka kb kc) D E; rw [f_b_t (by decide)] at q; exact q)) rfl rfl ?_
  refine z_Ev_call0 (m' := m_X4_requireArgument) (as := [aI (1 : Int32)]) (r := []) (e_reqA1 (cm n t v ld sh o cd pl ka kb kc) D E) rfl rfl ?_
  refine z_Ev_blk 4 (c' := (15, [some (aR 0 16), some (aI (1 : Int32))], [aI (1 : Int32), aR 0 1], (cm n t v ld sh o cd pl ka kb kc, D, E))) rfl trivial ?_
  refine z_Ev_call0 (m' := m_X0_isInUse) (as := [aR 0 1, aI (1 : Int32)]) (r := []) ((by have q := c_isInUse_1 (xs := xs) (L := L) n t v ld sh o cd pl ka kb kc D E; rw [f_b_t hp] at q; exact q)) rfl rfl ?_
  refine z_Ev_call0 (m' := m_X4_requireState) (as := [aI (1 : Int32)]) (r := []) (e_reqS1 (cm n t v ld sh o cd pl ka kb kc) D E) rfl rfl ?_
  refine z_Ev_blk 1 (c' := (22, [some (aR 0 16), some (aI (1 : Int32))], [aR 0 16], (cm n t v ld sh o cd pl ka kb kc, D, E))) rfl trivial ?_
  refine z_Ev_call0 (m' := m_X4_saveState) (as := [aR 0 16]) (r := []) (c_save q m n t v ld sh o cd pl ka kb kc D E h3 h4 hq hm hb5 hb6) rfl rfl ?_
  refine z_Ev_blk 5 (c' := (34, [some (aR 0 16), some (aI (1 : Int32))], [aI (0 : Int32), aI (1 : Int32), aR 0 1], (cm n t (svV v n q m) ld sh (svO o q m) cd pl ka kb kc, D, E))) rfl trivial ?_
  refine z_Ev_call0 (m' := m_X0_become) (as := [aR 0 1, aI (1 : Int32), aI (0 : Int32)]) (r := []) (c_become_0_1 (0 : Int32) n t (svV v n q m) ld sh (svO o q m) cd pl ka kb kc D E) rfl rfl ?_
  refine z_Ev_blk 4 (c' := (45, [some (aR 0 16), some (aI (1 : Int32))], [aI (2 : Int32), aR 0 1], (cm (upd (upd n 21 0) 17 (0 : Int32)) t (svV v n q m) ld sh (svO o q m) cd pl ka kb kc, D, E))) rfl trivial ?_
  refine z_Ev_call0 (m' := m_X0_sizeOf) (as := [aR 0 1, aI (2 : Int32)]) (r := []) (c_sizeOf (2 : Int32) (upd (upd n 21 0) 17 (0 : Int32)) t (svV v n q m) ld sh (svO o q m) cd pl ka kb kc D E) rfl rfl ?_
  exact z_Ev_iretE rfl rfl (by rfl) (by rfl)
theorem c_stopS_1 {xs : Nat → Int32} {L : Nat}  (n t : Nat → Int32) (v : Nat → Nat → Int32) (ld sh o cd pl ka kb kc : Nat → Int32) (D : Nat → Nat → Int32) (E : Nat → Int64) (hp : ¬ (n 17 = 1 ∨ n 17 = 2)) : z_Mt xs L m_X4_stop [aR 0 16, aI (1 : Int32)] (cm n t v ld sh o cd pl ka kb kc, D, E) (.inr 1) (cm n t v ld sh o cd pl ka kb kc, D, E) 1 := by
  refine z_Ev_blk 1 (c' := (1, [some (aR 0 16), some (aI (1 : Int32))], [aI (1 : Int32)], (cm n t v ld sh o cd pl ka kb kc, D, E))) rfl trivial ?_
  refine z_Ev_call0 (m' := m_X4_isSet) (as := [aI (1 : Int32)]) (r := []) ((by have q := e_isSet (xs := xs) (L := L) (1 : Int32) (cm n t v ld sh o cd pl ka kb kc) D E; rw [f_b_t (by decide)] at q; exact q)) rfl rfl ?_
  refine z_Ev_call0 (m' := m_X4_requireArgument) (as := [aI (1 : Int32)]) (r := []) (e_reqA1 (cm n t v ld sh o cd pl ka kb kc) D E) rfl rfl ?_
  refine z_Ev_blk 4 (c' := (15, [some (aR 0 16), some (aI (1 : Int32))], [aI (1 : Int32), aR 0 1], (cm n t v ld sh o cd pl ka kb kc, D, E))) rfl trivial ?_
  refine z_Ev_call0 (m' := m_X0_isInUse) (as := [aR 0 1, aI (1 : Int32)]) (r := []) ((by have q := c_isInUse_1 (xs := xs) (L := L) n t v ld sh o cd pl ka kb kc D E; rw [f_b_f hp] at q; exact q)) rfl rfl ?_
  exact z_Ev_thru (e_reqS0 (cm n t v ld sh o cd pl ka kb kc) D E) rfl rfl rfl
theorem c_lose_1 {xs : Nat → Int32} {L : Nat}  (n t : Nat → Int32) (v : Nat → Nat → Int32) (ld sh o cd pl ka kb kc : Nat → Int32) (D : Nat → Nat → Int32) (E : Nat → Int64) (q m : Nat) (h3 : o 3 = nI q) (h4 : o 4 = nI m) (hq : q < 6) (hm : m ≤ 6) (hb5 : z_isB (n 36) = true) (hb6 : z_isB (n 37) = true) : z_Mt xs L m_X4_lose [aR 0 16, aI (1 : Int32)] (cm n t v ld sh o cd pl ka kb kc, D, E) (.inl (some (aI (if n 17 = 3 then 0 else 1)))) (cm (upd (upd n 21 0) 17 (if n 17 = 3 then 0 else 3)) t (svV v n q m) ld sh (svO o q m) cd pl ka kb kc, D, E) 0 := by
  refine z_Ev_blk 1 (c' := (1, [some (aR 0 16), some (aI (1 : Int32)), none], [aI (1 : Int32)], (cm n t v ld sh o cd pl ka kb kc, D, E))) rfl trivial ?_
  refine z_Ev_call0 (m' := m_X4_isSet) (as := [aI (1 : Int32)]) (r := []) ((by have q := e_isSet (xs := xs) (L := L) (1 : Int32) (cm n t v ld sh o cd pl ka kb kc) D E; rw [f_b_t (by decide)] at q; exact q)) rfl rfl ?_
  refine z_Ev_call0 (m' := m_X4_requireArgument) (as := [aI (1 : Int32)]) (r := []) (e_reqA1 (cm n t v ld sh o cd pl ka kb kc) D E) rfl rfl ?_
  refine z_Ev_blk 1 (c' := (8, [some (aR 0 16), some (aI (1 : Int32)), none], [aR 0 16], (cm n t v ld sh o cd pl ka kb kc, D, E))) rfl trivial ?_
  refine z_Ev_call0 (m' := m_X4_saveState) (as := [aR 0 16]) (r := []) (c_save q m n t v ld sh o cd pl ka kb kc D E h3 h4 hq hm hb5 hb6) rfl rfl ?_
  refine z_Ev_blk 8 (c' := ((if (n 17) = (3 : Int32) then 27 else 31), [some (aR 0 16), some (aI (1 : Int32)), none], [], (cm n t (svV v n q m) ld sh (svO o q m) cd pl ka kb kc, D, E))) rfl ⟨rfl, trivial⟩ ?_
  refine z_Ev_ite (fun h1 => ?_) (fun h1 => ?_)
  · skip
    refine z_Ev_blk 9 (c' := ((if (1 : Int32) = 0 then 49 else 45), [some (aR 0 16), some (aI (1 : Int32)), some (aI (1 : Int32))], [aI (1 : Int32), aR 0 1], (cm n t (svV v n q m) ld sh (svO o q m) cd pl ka kb kc, D, E))) rfl trivial ?_
    refine z_Ev_else (by decide) ?_
    refine z_Ev_blk 2 (c' := (50, [some (aR 0 16), some (aI (1 : Int32)), some (aI (1 : Int32))], [aI (0 : Int32), aI (1 : Int32), aR 0 1], (cm n t (svV v n q m) ld sh (svO o q m) cd pl ka kb kc, D, E))) rfl trivial ?_
    refine z_Ev_call0 (m' := m_X0_become) (as := [aR 0 1, aI (1 : Int32), aI (0 : Int32)]) (r := []) (c_become_0_1 (0 : Int32) n t (svV v n q m) ld sh (svO o q m) cd pl ka kb kc D E) rfl rfl ?_
    refine z_Ev_blk 2 (c' := ((if (1 : Int32) = 0 then 61 else 57), [some (aR 0 16), some (aI (1 : Int32)), some (aI (1 : Int32))], [], (cm (upd (upd n 21 0) 17 (0 : Int32)) t (svV v n q m) ld sh (svO o q m) cd pl ka kb kc, D, E))) rfl trivial ?_
    refine z_Ev_else (by decide) ?_
    refine z_Ev_blk 2 (c' := (62, [some (aR 0 16), some (aI (1 : Int32)), some (aI (1 : Int32))], [aI (0 : Int32)], (cm (upd (upd n 21 0) 17 (0 : Int32)) t (svV v n q m) ld sh (svO o q m) cd pl ka kb kc, D, E))) rfl trivial ?_
    exact z_Ev_iretE rfl rfl (by first | rfl | simp [*]) (by first | rfl | simp [*])
  · skip
    refine z_Ev_blk 8 (c' := ((if (0 : Int32) = 0 then 49 else 45), [some (aR 0 16), some (aI (1 : Int32)), some (aI (0 : Int32))], [aI (1 : Int32), aR 0 1], (cm n t (svV v n q m) ld sh (svO o q m) cd pl ka kb kc, D, E))) rfl trivial ?_
    refine z_Ev_if (by decide) ?_
    refine z_Ev_blk 1 (c' := (50, [some (aR 0 16), some (aI (1 : Int32)), some (aI (0 : Int32))], [aI (3 : Int32), aI (1 : Int32), aR 0 1], (cm n t (svV v n q m) ld sh (svO o q m) cd pl ka kb kc, D, E))) rfl trivial ?_
    refine z_Ev_call0 (m' := m_X0_become) (as := [aR 0 1, aI (1 : Int32), aI (3 : Int32)]) (r := []) (c_become_0_1 (3 : Int32) n t (svV v n q m) ld sh (svO o q m) cd pl ka kb kc D E) rfl rfl ?_
    refine z_Ev_blk 2 (c' := ((if (0 : Int32) = 0 then 61 else 57), [some (aR 0 16), some (aI (1 : Int32)), some (aI (0 : Int32))], [], (cm (upd (upd n 21 0) 17 (3 : Int32)) t (svV v n q m) ld sh (svO o q m) cd pl ka kb kc, D, E))) rfl trivial ?_
    refine z_Ev_if (by decide) ?_
    refine z_Ev_blk 1 (c' := (62, [some (aR 0 16), some (aI (1 : Int32)), some (aI (0 : Int32))], [aI (1 : Int32)], (cm (upd (upd n 21 0) 17 (3 : Int32)) t (svV v n q m) ld sh (svO o q m) cd pl ka kb kc, D, E))) rfl trivial ?_
    exact z_Ev_iretE rfl rfl (by first | rfl | simp [*]) (by first | rfl | simp [*])
theorem c_start_2 {xs : Nat → Int32} {L : Nat}  (n t : Nat → Int32) (v : Nat → Nat → Int32) (ld sh o cd pl ka kb kc : Nat → Int32) (D : Nat → Nat → Int32) (E : Nat → Int64) (hp : n 18 = 0) (q m : Nat) (h3 : o 3 = nI q) (h4 : o 4 = nI m) (hq : q < 6) (hm : m ≤ 6) (hb5 : z_isB (n 36) = true) (hb6 : z_isB (n 37) = true) : z_Mt xs L m_X4_start [aR 0 16, aI (2 : Int32)] (cm n t v ld sh o cd pl ka kb kc, D, E) (.inl (some (aI (n 14)))) (cm (upd (upd n 22 (n 14)) 18 (if n 14 = 0 then 2 else 1)) t (svV v n q m) ld sh (svO o q m) cd pl ka kb kc, D, E) 0 := by
  refine z_Ev_blk 1 (c' := (1, [some (aR 0 16), some (aI (2 : Int32))], [aI (2 : Int32)], (cm n t v ld sh o cd pl ka kb kc, D, E))) rfl trivial ?_
  refine z_Ev_call0 (m' := m_X4_isSet) (as := [aI (2 : Int32)]) (r := []) ((by have q := e_isSet (xs := xs) (L := L) (2 : Int32) (cm n t v ld sh o cd pl ka kb kc) D E; rw [f_b_t (by decide)] at q; exact q)) rfl rfl ?_
  refine z_Ev_call0 (m' := m_X4_requireArgument) (as := [aI (1 : Int32)]) (r := []) (e_reqA1 (cm n t v ld sh o cd pl ka kb kc) D E) rfl rfl ?_
  refine z_Ev_blk 7 (c' := ((if (n 18) = 0 then 22 else 26), [some (aR 0 16), some (aI (2 : Int32))], [], (cm n t v ld sh o cd pl ka kb kc, D, E))) rfl ⟨rfl, trivial⟩ ?_
  refine z_Ev_if (hp) ?_
  refine z_Ev_blk 2 (c' := (27, [some (aR 0 16), some (aI (2 : Int32))], [aI (1 : Int32)], (cm n t v ld sh o cd pl ka kb kc, D, E))) rfl trivial ?_
  refine z_Ev_call0 (m' := m_X4_requireState) (as := [aI (1 : Int32)]) (r := []) (e_reqS1 (cm n t v ld sh o cd pl ka kb kc) D E) rfl rfl ?_
  refine z_Ev_blk 1 (c' := (31, [some (aR 0 16), some (aI (2 : Int32))], [aR 0 16], (cm n t v ld sh o cd pl ka kb kc, D, E))) rfl trivial ?_
  refine z_Ev_call0 (m' := m_X4_saveState) (as := [aR 0 16]) (r := []) (c_save q m n t v ld sh o cd pl ka kb kc D E h3 h4 hq hm hb5 hb6) rfl rfl ?_
  refine z_Ev_blk 4 (c' := (42, [some (aR 0 16), some (aI (2 : Int32))], [aI (2 : Int32), aR 0 1], (cm n t (svV v n q m) ld sh (svO o q m) cd pl ka kb kc, D, E))) rfl trivial ?_
  refine z_Ev_call0 (m' := m_X0_begin) (as := [aR 0 1, aI (2 : Int32)]) (r := []) (c_begin_0_2 n t (svV v n q m) ld sh (svO o q m) cd pl ka kb kc D E) rfl rfl ?_
  refine z_Ev_blk 6 (c' := (57, [some (aR 0 16), some (aI (2 : Int32))], [aI (n 14)], (cm (upd (upd n 22 (n 14)) 18 (if n 14 = 0 then 2 else 1)) t (svV v n q m) ld sh (svO o q m) cd pl ka kb kc, D, E))) rfl ⟨rfl, trivial⟩ ?_
  exact z_Ev_iretE rfl rfl (by rfl) (by rfl)
theorem c_startS_2 {xs : Nat → Int32} {L : Nat}  (n t : Nat → Int32) (v : Nat → Nat → Int32) (ld sh o cd pl ka kb kc : Nat → Int32) (D : Nat → Nat → Int32) (E : Nat → Int64) (hp : ¬ n 18 = 0) : z_Mt xs L m_X4_start [aR 0 16, aI (2 : Int32)] (cm n t v ld sh o cd pl ka kb kc, D, E) (.inr 1) (cm n t v ld sh o cd pl ka kb kc, D, E) 1 := by
  refine z_Ev_blk 1 (c' := (1, [some (aR 0 16), some (aI (2 : Int32))], [aI (2 : Int32)], (cm n t v ld sh o cd pl ka kb kc, D, E))) rfl trivial ?_
  refine z_Ev_call0 (m' := m_X4_isSet) (as := [aI (2 : Int32)]) (r := []) ((by have q := e_isSet (xs := xs) (L := L) (2 : Int32) (cm n t v ld sh o cd pl ka kb kc) D E; rw [f_b_t (by decide)] at q; exact q)) rfl rfl ?_
  refine z_Ev_call0 (m' := m_X4_requireArgument) (as := [aI (1 : Int32)]) (r := []) (e_reqA1 (cm n t v ld sh o cd pl ka kb kc) D E) rfl rfl ?_
  refine z_Ev_blk 7 (c' := ((if (n 18) = 0 then 22 else 26), [some (aR 0 16), some (aI (2 : Int32))], [], (cm n t v ld sh o cd pl ka kb kc, D, E))) rfl ⟨rfl, trivial⟩ ?_
  refine z_Ev_else (hp) ?_
  refine z_Ev_blk 1 (c' := (27, [some (aR 0 16), some (aI (2 : Int32))], [aI (0 : Int32)], (cm n t v ld sh o cd pl ka kb kc, D, E))) rfl trivial ?_
  exact z_Ev_thru (e_reqS0 (cm n t v ld sh o cd pl ka kb kc) D E) rfl rfl rfl
theorem c_stop_2 {xs : Nat → Int32} {L : Nat}  (n t : Nat → Int32) (v : Nat → Nat → Int32) (ld sh o cd pl ka kb kc : Nat → Int32) (D : Nat → Nat → Int32) (E : Nat → Int64) (hp : n 18 = 1 ∨ n 18 = 2) (q m : Nat) (h3 : o 3 = nI q) (h4 : o 4 = nI m) (hq : q < 6) (hm : m ≤ 6) (hb5 : z_isB (n 36) = true) (hb6 : z_isB (n 37) = true) : z_Mt xs L m_X4_stop [aR 0 16, aI (2 : Int32)] (cm n t v ld sh o cd pl ka kb kc, D, E) (.inl (some (aI (bcF (mkF (fun j => (upd (upd n 22 0) 18 0) (16 + j)) 2))))) (cm (upd (upd n 22 0) 18 0) t (svV v n q m) ld sh (svO o q m) cd pl ka kb kc, D, E) 0 := by
  refine z_Ev_blk 1 (c' := (1, [some (aR 0 16), some (aI (2 : Int32))], [aI (2 : Int32)], (cm n t v ld sh o cd pl ka kb kc, D, E))) rfl trivial ?_
  refine z_Ev_call0 (m' := m_X4_isSet) (as := [aI (2 : Int32)]) (r := []) ((by have q := e_isSet (xs := xs) (L := L) (2 : Int32) (cm n t v ld sh o cd pl ka kb kc) D E; rw [f_b_t (by decide)] at q; exact q)) rfl rfl ?_
  refine z_Ev_call0 (m' := m_X4_requireArgument) (as := [aI (1 : Int32)]) (r := []) (e_reqA1 (cm n t v ld sh o cd pl ka kb kc) D E) rfl rfl ?_
  refine z_Ev_blk 4 (c' := (15, [some (aR 0 16), some (aI (2 : Int32))], [aI (2 : Int32), aR 0 1], (cm n t v ld sh o cd pl ka kb kc, D, E))) rfl trivial ?_
  refine z_Ev_call0 (m' := m_X0_isInUse) (as := [aR 0 1, aI (2 : Int32)]) (r := []) ((by have q := c_isInUse_2 (xs := xs) (L := L) n t v ld sh o cd pl ka kb kc D E; rw [f_b_t hp] at q; exact q)) rfl rfl ?_
  refine z_Ev_call0 (m' := m_X4_requireState) (as := [aI (1 : Int32)]) (r := []) (e_reqS1 (cm n t v ld sh o cd pl ka kb kc) D E) rfl rfl ?_
  refine z_Ev_blk 1 (c' := (22, [some (aR 0 16), some (aI (2 : Int32))], [aR 0 16], (cm n t v ld sh o cd pl ka kb kc, D, E))) rfl trivial ?_
  refine z_Ev_call0 (m' := m_X4_saveState) (as := [aR 0 16]) (r := []) (c_save q m n t v ld sh o cd pl ka kb kc D E h3 h4 hq hm hb5 hb6) rfl rfl ?_
  refine z_Ev_blk 5 (c' := (34, [some (aR 0 16), some (aI (2 : Int32))], [aI (0 : Int32), aI (2 : Int32), aR 0 1], (cm n t (svV v n q m) ld sh (svO o q m) cd pl ka kb kc, D, E))) rfl trivial ?_
  refine z_Ev_call0 (m' := m_X0_become) (as := [aR 0 1, aI (2 : Int32), aI (0 : Int32)]) (r := []) (c_become_0_2 (0 : Int32) n t (svV v n q m) ld sh (svO o q m) cd pl ka kb kc D E) rfl rfl ?_
  refine z_Ev_blk 4 (c' := (45, [some (aR 0 16), some (aI (2 : Int32))], [aI (2 : Int32), aR 0 1], (cm (upd (upd n 22 0) 18 (0 : Int32)) t (svV v n q m) ld sh (svO o q m) cd pl ka kb kc, D, E))) rfl trivial ?_
  refine z_Ev_call0 (m' := m_X0_sizeOf) (as := [aR 0 1, aI (2 : Int32)]) (r := []) (c_sizeOf (2 : Int32) (upd (upd n 22 0) 18 (0 : Int32)) t (svV v n q m) ld sh (svO o q m) cd pl ka kb kc D E) rfl rfl ?_
  exact z_Ev_iretE rfl rfl (by rfl) (by rfl)
theorem c_stopS_2 {xs : Nat → Int32} {L : Nat}  (n t : Nat → Int32) (v : Nat → Nat → Int32) (ld sh o cd pl ka kb kc : Nat → Int32) (D : Nat → Nat → Int32) (E : Nat → Int64) (hp : ¬ (n 18 = 1 ∨ n 18 = 2)) : z_Mt xs L m_X4_stop [aR 0 16, aI (2 : Int32)] (cm n t v ld sh o cd pl ka kb kc, D, E) (.inr 1) (cm n t v ld sh o cd pl ka kb kc, D, E) 1 := by
  refine z_Ev_blk 1 (c' := (1, [some (aR 0 16), some (aI (2 : Int32))], [aI (2 : Int32)], (cm n t v ld sh o cd pl ka kb kc, D, E))) rfl trivial ?_
  refine z_Ev_call0 (m' := m_X4_isSet) (as := [aI (2 : Int32)]) (r := []) ((by have q := e_isSet (xs := xs) (L := L) (2 : Int32) (cm n t v ld sh o cd pl ka kb kc) D E; rw [f_b_t (by decide)] at q; exact q)) rfl rfl ?_
  refine z_Ev_call0 (m' := m_X4_requireArgument) (as := [aI (1 : Int32)]) (r := []) (e_reqA1 (cm n t v ld sh o cd pl ka kb kc) D E) rfl rfl ?_
  refine z_Ev_blk 4 (c' := (15, [some (aR 0 16), some (aI (2 : Int32))], [aI (2 : Int32), aR 0 1], (cm n t v ld sh o cd pl ka kb kc, D, E))) rfl trivial ?_
  refine z_Ev_call0 (m' := m_X0_isInUse) (as := [aR 0 1, aI (2 : Int32)]) (r := []) ((by have q := c_isInUse_2 (xs := xs) (L := L) n t v ld sh o cd pl ka kb kc D E; rw [f_b_f hp] at q; exact q)) rfl rfl ?_
  exact z_Ev_thru (e_reqS0 (cm n t v ld sh o cd pl ka kb kc) D E) rfl rfl rfl
theorem c_lose_2 {xs : Nat → Int32} {L : Nat}  (n t : Nat → Int32) (v : Nat → Nat → Int32) (ld sh o cd pl ka kb kc : Nat → Int32) (D : Nat → Nat → Int32) (E : Nat → Int64) (q m : Nat) (h3 : o 3 = nI q) (h4 : o 4 = nI m) (hq : q < 6) (hm : m ≤ 6) (hb5 : z_isB (n 36) = true) (hb6 : z_isB (n 37) = true) : z_Mt xs L m_X4_lose [aR 0 16, aI (2 : Int32)] (cm n t v ld sh o cd pl ka kb kc, D, E) (.inl (some (aI (if n 18 = 3 then 0 else 1)))) (cm (upd (upd n 22 0) 18 (if n 18 = 3 then 0 else 3)) t (svV v n q m) ld sh (svO o q m) cd pl ka kb kc, D, E) 0 := by
  refine z_Ev_blk 1 (c' := (1, [some (aR 0 16), some (aI (2 : Int32)), none], [aI (2 : Int32)], (cm n t v ld sh o cd pl ka kb kc, D, E))) rfl trivial ?_
  refine z_Ev_call0 (m' := m_X4_isSet) (as := [aI (2 : Int32)]) (r := []) ((by have q := e_isSet (xs := xs) (L := L) (2 : Int32) (cm n t v ld sh o cd pl ka kb kc) D E; rw [f_b_t (by decide)] at q; exact q)) rfl rfl ?_
  refine z_Ev_call0 (m' := m_X4_requireArgument) (as := [aI (1 : Int32)]) (r := []) (e_reqA1 (cm n t v ld sh o cd pl ka kb kc) D E) rfl rfl ?_
  refine z_Ev_blk 1 (c' := (8, [some (aR 0 16), some (aI (2 : Int32)), none], [aR 0 16], (cm n t v ld sh o cd pl ka kb kc, D, E))) rfl trivial ?_
  refine z_Ev_call0 (m' := m_X4_saveState) (as := [aR 0 16]) (r := []) (c_save q m n t v ld sh o cd pl ka kb kc D E h3 h4 hq hm hb5 hb6) rfl rfl ?_
  refine z_Ev_blk 8 (c' := ((if (n 18) = (3 : Int32) then 27 else 31), [some (aR 0 16), some (aI (2 : Int32)), none], [], (cm n t (svV v n q m) ld sh (svO o q m) cd pl ka kb kc, D, E))) rfl ⟨rfl, trivial⟩ ?_
  refine z_Ev_ite (fun h1 => ?_) (fun h1 => ?_)
  · skip
    refine z_Ev_blk 9 (c' := ((if (1 : Int32) = 0 then 49 else 45), [some (aR 0 16), some (aI (2 : Int32)), some (aI (1 : Int32))], [aI (2 : Int32), aR 0 1], (cm n t (svV v n q m) ld sh (svO o q m) cd pl ka kb kc, D, E))) rfl trivial ?_
    refine z_Ev_else (by decide) ?_
    refine z_Ev_blk 2 (c' := (50, [some (aR 0 16), some (aI (2 : Int32)), some (aI (1 : Int32))], [aI (0 : Int32), aI (2 : Int32), aR 0 1], (cm n t (svV v n q m) ld sh (svO o q m) cd pl ka kb kc, D, E))) rfl trivial ?_
    refine z_Ev_call0 (m' := m_X0_become) (as := [aR 0 1, aI (2 : Int32), aI (0 : Int32)]) (r := []) (c_become_0_2 (0 : Int32) n t (svV v n q m) ld sh (svO o q m) cd pl ka kb kc D E) rfl rfl ?_
    refine z_Ev_blk 2 (c' := ((if (1 : Int32) = 0 then 61 else 57), [some (aR 0 16), some (aI (2 : Int32)), some (aI (1 : Int32))], [], (cm (upd (upd n 22 0) 18 (0 : Int32)) t (svV v n q m) ld sh (svO o q m) cd pl ka kb kc, D, E))) rfl trivial ?_
    refine z_Ev_else (by decide) ?_
    refine z_Ev_blk 2 (c' := (62, [some (aR 0 16), some (aI (2 : Int32)), some (aI (1 : Int32))], [aI (0 : Int32)], (cm (upd (upd n 22 0) 18 (0 : Int32)) t (svV v n q m) ld sh (svO o q m) cd pl ka kb kc, D, E))) rfl trivial ?_
    exact z_Ev_iretE rfl rfl (by first | rfl | simp [*]) (by first | rfl | simp [*])
  · skip
    refine z_Ev_blk 8 (c' := ((if (0 : Int32) = 0 then 49 else 45), [some (aR 0 16), some (aI (2 : Int32)), some (aI (0 : Int32))], [aI (2 : Int32), aR 0 1], (cm n t (svV v n q m) ld sh (svO o q m) cd pl ka kb kc, D, E))) rfl trivial ?_
    refine z_Ev_if (by decide) ?_
    refine z_Ev_blk 1 (c' := (50, [some (aR 0 16), some (aI (2 : Int32)), some (aI (0 : Int32))], [aI (3 : Int32), aI (2 : Int32), aR 0 1], (cm n t (svV v n q m) ld sh (svO o q m) cd pl ka kb kc, D, E))) rfl trivial ?_
    refine z_Ev_call0 (m' := m_X0_become) (as := [aR 0 1, aI (2 : Int32), aI (3 : Int32)]) (r := []) (c_become_0_2 (3 : Int32) n t (svV v n q m) ld sh (svO o q m) cd pl ka kb kc D E) rfl rfl ?_
    refine z_Ev_blk 2 (c' := ((if (0 : Int32) = 0 then 61 else 57), [some (aR 0 16), some (aI (2 : Int32)), some (aI (0 : Int32))], [], (cm (upd (upd n 22 0) 18 (3 : Int32)) t (svV v n q m) ld sh (svO o q m) cd pl ka kb kc, D, E))) rfl trivial ?_
    refine z_Ev_if (by decide) ?_
    refine z_Ev_blk 1 (c' := (62, [some (aR 0 16), some (aI (2 : Int32)), some (aI (0 : Int32))], [aI (1 : Int32)], (cm (upd (upd n 22 0) 18 (3 : Int32)) t (svV v n q m) ld sh (svO o q m) cd pl ka kb kc, D, E))) rfl trivial ?_
    exact z_Ev_iretE rfl rfl (by first | rfl | simp [*]) (by first | rfl | simp [*])
theorem c_start_3 {xs : Nat → Int32} {L : Nat}  (n t : Nat → Int32) (v : Nat → Nat → Int32) (ld sh o cd pl ka kb kc : Nat → Int32) (D : Nat → Nat → Int32) (E : Nat → Int64) (hp : n 19 = 0) (q m : Nat) (h3 : o 3 = nI q) (h4 : o 4 = nI m) (hq : q < 6) (hm : m ≤ 6) (hb5 : z_isB (n 36) = true) (hb6 : z_isB (n 37) = true) : z_Mt xs L m_X4_start [aR 0 16, aI (3 : Int32)] (cm n t v ld sh o cd pl ka kb kc, D, E) (.inl (some (aI (n 15)))) (cm (upd (upd n 23 (n 15)) 19 (if n 15 = 0 then 2 else 1)) t (svV v n q m) ld sh (svO o q m) cd pl ka kb kc, D, E) 0 := by
  refine z_Ev_blk 1 (c' := (1, [some (aR 0 16), some (aI (3 : Int32))], [aI (3 : Int32)], (cm n t v ld sh o cd pl ka kb kc, D, E))) rfl trivial ?_
  refine z_Ev_call0 (m' := m_X4_isSet) (as := [aI (3 : Int32)]) (r := []) ((by have q := e_isSet (xs := xs) (L := L) (3 : Int32) (cm n t v ld sh o cd pl ka kb kc) D E; rw [f_b_t (by decide)] at q; exact q)) rfl rfl ?_
  refine z_Ev_call0 (m' := m_X4_requireArgument) (as := [aI (1 : Int32)]) (r := []) (e_reqA1 (cm n t v ld sh o cd pl ka kb kc) D E) rfl rfl ?_
  refine z_Ev_blk 7 (c' := ((if (n 19) = 0 then 22 else 26), [some (aR 0 16), some (aI (3 : Int32))], [], (cm n t v ld sh o cd pl ka kb kc, D, E))) rfl ⟨rfl, trivial⟩ ?_
  refine z_Ev_if (hp) ?_
  refine z_Ev_blk 2 (c' := (27, [some (aR 0 16), some (aI (3 : Int32))], [aI (1 : Int32)], (cm n t v ld sh o cd pl ka kb kc, D, E))) rfl trivial ?_
  refine z_Ev_call0 (m' := m_X4_requireState) (as := [aI (1 : Int32)]) (r := []) (e_reqS1 (cm n t v ld sh o cd pl ka kb kc) D E) rfl rfl ?_
  refine z_Ev_blk 1 (c' := (31, [some (aR 0 16), some (aI (3 : Int32))], [aR 0 16], (cm n t v ld sh o cd pl ka kb kc, D, E))) rfl trivial ?_
  refine z_Ev_call0 (m' := m_X4_saveState) (as := [aR 0 16]) (r := []) (c_save q m n t v ld sh o cd pl ka kb kc D E h3 h4 hq hm hb5 hb6) rfl rfl ?_
  refine z_Ev_blk 4 (c' := (42, [some (aR 0 16), some (aI (3 : Int32))], [aI (3 : Int32), aR 0 1], (cm n t (svV v n q m) ld sh (svO o q m) cd pl ka kb kc, D, E))) rfl trivial ?_
  refine z_Ev_call0 (m' := m_X0_begin) (as := [aR 0 1, aI (3 : Int32)]) (r := []) (c_begin_0_3 n t (svV v n q m) ld sh (svO o q m) cd pl ka kb kc D E) rfl rfl ?_
  refine z_Ev_blk 6 (c' := (57, [some (aR 0 16), some (aI (3 : Int32))], [aI (n 15)], (cm (upd (upd n 23 (n 15)) 19 (if n 15 = 0 then 2 else 1)) t (svV v n q m) ld sh (svO o q m) cd pl ka kb kc, D, E))) rfl ⟨rfl, trivial⟩ ?_
  exact z_Ev_iretE rfl rfl (by rfl) (by rfl)
theorem c_startS_3 {xs : Nat → Int32} {L : Nat}  (n t : Nat → Int32) (v : Nat → Nat → Int32) (ld sh o cd pl ka kb kc : Nat → Int32) (D : Nat → Nat → Int32) (E : Nat → Int64) (hp : ¬ n 19 = 0) : z_Mt xs L m_X4_start [aR 0 16, aI (3 : Int32)] (cm n t v ld sh o cd pl ka kb kc, D, E) (.inr 1) (cm n t v ld sh o cd pl ka kb kc, D, E) 1 := by
  refine z_Ev_blk 1 (c' := (1, [some (aR 0 16), some (aI (3 : Int32))], [aI (3 : Int32)], (cm n t v ld sh o cd pl ka kb kc, D, E))) rfl trivial ?_
  refine z_Ev_call0 (m' := m_X4_isSet) (as := [aI (3 : Int32)]) (r := []) ((by have q := e_isSet (xs := xs) (L := L) (3 : Int32) (cm n t v ld sh o cd pl ka kb kc) D E; rw [f_b_t (by decide)] at q; exact q)) rfl rfl ?_
  refine z_Ev_call0 (m' := m_X4_requireArgument) (as := [aI (1 : Int32)]) (r := []) (e_reqA1 (cm n t v ld sh o cd pl ka kb kc) D E) rfl rfl ?_
  refine z_Ev_blk 7 (c' := ((if (n 19) = 0 then 22 else 26), [some (aR 0 16), some (aI (3 : Int32))], [], (cm n t v ld sh o cd pl ka kb kc, D, E))) rfl ⟨rfl, trivial⟩ ?_
  refine z_Ev_else (hp) ?_
  refine z_Ev_blk 1 (c' := (27, [some (aR 0 16), some (aI (3 : Int32))], [aI (0 : Int32)], (cm n t v ld sh o cd pl ka kb kc, D, E))) rfl trivial ?_
  exact z_Ev_thru (e_reqS0 (cm n t v ld sh o cd pl ka kb kc) D E) rfl rfl rfl
theorem c_stop_3 {xs : Nat → Int32} {L : Nat}  (n t : Nat → Int32) (v : Nat → Nat → Int32) (ld sh o cd pl ka kb kc : Nat → Int32) (D : Nat → Nat → Int32) (E : Nat → Int64) (hp : n 19 = 1 ∨ n 19 = 2) (q m : Nat) (h3 : o 3 = nI q) (h4 : o 4 = nI m) (hq : q < 6) (hm : m ≤ 6) (hb5 : z_isB (n 36) = true) (hb6 : z_isB (n 37) = true) : z_Mt xs L m_X4_stop [aR 0 16, aI (3 : Int32)] (cm n t v ld sh o cd pl ka kb kc, D, E) (.inl (some (aI (bcF (mkF (fun j => (upd (upd n 23 0) 19 0) (16 + j)) 2))))) (cm (upd (upd n 23 0) 19 0) t (svV v n q m) ld sh (svO o q m) cd pl ka kb kc, D, E) 0 := by
  refine z_Ev_blk 1 (c' := (1, [some (aR 0 16), some (aI (3 : Int32))], [aI (3 : Int32)], (cm n t v ld sh o cd pl ka kb kc, D, E))) rfl trivial ?_
  refine z_Ev_call0 (m' := m_X4_isSet) (as := [aI (3 : Int32)]) (r := []) ((by have q := e_isSet (xs := xs) (L := L) (3 : Int32) (cm n t v ld sh o cd pl ka kb kc) D E; rw [f_b_t (by decide)] at q; exact q)) rfl rfl ?_
  refine z_Ev_call0 (m' := m_X4_requireArgument) (as := [aI (1 : Int32)]) (r := []) (e_reqA1 (cm n t v ld sh o cd pl ka kb kc) D E) rfl rfl ?_
  refine z_Ev_blk 4 (c' := (15, [some (aR 0 16), some (aI (3 : Int32))], [aI (3 : Int32), aR 0 1], (cm n t v ld sh o cd pl ka kb kc, D, E))) rfl trivial ?_
  refine z_Ev_call0 (m' := m_X0_isInUse) (as := [aR 0 1, aI (3 : Int32)]) (r := []) ((by have q := c_isInUse_3 (xs := xs) (L := L) n t v ld sh o cd pl ka kb kc D E; rw [f_b_t hp] at q; exact q)) rfl rfl ?_
  refine z_Ev_call0 (m' := m_X4_requireState) (as := [aI (1 : Int32)]) (r := []) (e_reqS1 (cm n t v ld sh o cd pl ka kb kc) D E) rfl rfl ?_
  refine z_Ev_blk 1 (c' := (22, [some (aR 0 16), some (aI (3 : Int32))], [aR 0 16], (cm n t v ld sh o cd pl ka kb kc, D, E))) rfl trivial ?_
  refine z_Ev_call0 (m' := m_X4_saveState) (as := [aR 0 16]) (r := []) (c_save q m n t v ld sh o cd pl ka kb kc D E h3 h4 hq hm hb5 hb6) rfl rfl ?_
  refine z_Ev_blk 5 (c' := (34, [some (aR 0 16), some (aI (3 : Int32))], [aI (0 : Int32), aI (3 : Int32), aR 0 1], (cm n t (svV v n q m) ld sh (svO o q m) cd pl ka kb kc, D, E))) rfl trivial ?_
  refine z_Ev_call0 (m' := m_X0_become) (as := [aR 0 1, aI (3 : Int32), aI (0 : Int32)]) (r := []) (c_become_0_3 (0 : Int32) n t (svV v n q m) ld sh (svO o q m) cd pl ka kb kc D E) rfl rfl ?_
  refine z_Ev_blk 4 (c' := (45, [some (aR 0 16), some (aI (3 : Int32))], [aI (2 : Int32), aR 0 1], (cm (upd (upd n 23 0) 19 (0 : Int32)) t (svV v n q m) ld sh (svO o q m) cd pl ka kb kc, D, E))) rfl trivial ?_
  refine z_Ev_call0 (m' := m_X0_sizeOf) (as := [aR 0 1, aI (2 : Int32)]) (r := []) (c_sizeOf (2 : Int32) (upd (upd n 23 0) 19 (0 : Int32)) t (svV v n q m) ld sh (svO o q m) cd pl ka kb kc D E) rfl rfl ?_
  exact z_Ev_iretE rfl rfl (by rfl) (by rfl)
theorem c_stopS_3 {xs : Nat → Int32} {L : Nat}  (n t : Nat → Int32) (v : Nat → Nat → Int32) (ld sh o cd pl ka kb kc : Nat → Int32) (D : Nat → Nat → Int32) (E : Nat → Int64) (hp : ¬ (n 19 = 1 ∨ n 19 = 2)) : z_Mt xs L m_X4_stop [aR 0 16, aI (3 : Int32)] (cm n t v ld sh o cd pl ka kb kc, D, E) (.inr 1) (cm n t v ld sh o cd pl ka kb kc, D, E) 1 := by
  refine z_Ev_blk 1 (c' := (1, [some (aR 0 16), some (aI (3 : Int32))], [aI (3 : Int32)], (cm n t v ld sh o cd pl ka kb kc, D, E))) rfl trivial ?_
  refine z_Ev_call0 (m' := m_X4_isSet) (as := [aI (3 : Int32)]) (r := []) ((by have q := e_isSet (xs := xs) (L := L) (3 : Int32) (cm n t v ld sh o cd pl ka kb kc) D E; rw [f_b_t (by decide)] at q; exact q)) rfl rfl ?_
  refine z_Ev_call0 (m' := m_X4_requireArgument) (as := [aI (1 : Int32)]) (r := []) (e_reqA1 (cm n t v ld sh o cd pl ka kb kc) D E) rfl rfl ?_
  refine z_Ev_blk 4 (c' := (15, [some (aR 0 16), some (aI (3 : Int32))], [aI (3 : Int32), aR 0 1], (cm n t v ld sh o cd pl ka kb kc, D, E))) rfl trivial ?_
  refine z_Ev_call0 (m' := m_X0_isInUse) (as := [aR 0 1, aI (3 : Int32)]) (r := []) ((by have q := c_isInUse_3 (xs := xs) (L := L) n t v ld sh o cd pl ka kb kc D E; rw [f_b_f hp] at q; exact q)) rfl rfl ?_
  exact z_Ev_thru (e_reqS0 (cm n t v ld sh o cd pl ka kb kc) D E) rfl rfl rfl
theorem c_lose_3 {xs : Nat → Int32} {L : Nat}  (n t : Nat → Int32) (v : Nat → Nat → Int32) (ld sh o cd pl ka kb kc : Nat → Int32) (D : Nat → Nat → Int32) (E : Nat → Int64) (q m : Nat) (h3 : o 3 = nI q) (h4 : o 4 = nI m) (hq : q < 6) (hm : m ≤ 6) (hb5 : z_isB (n 36) = true) (hb6 : z_isB (n 37) = true) : z_Mt xs L m_X4_lose [aR 0 16, aI (3 : Int32)] (cm n t v ld sh o cd pl ka kb kc, D, E) (.inl (some (aI (if n 19 = 3 then 0 else 1)))) (cm (upd (upd n 23 0) 19 (if n 19 = 3 then 0 else 3)) t (svV v n q m) ld sh (svO o q m) cd pl ka kb kc, D, E) 0 := by
  refine z_Ev_blk 1 (c' := (1, [some (aR 0 16), some (aI (3 : Int32)), none], [aI (3 : Int32)], (cm n t v ld sh o cd pl ka kb kc, D, E))) rfl trivial ?_
  refine z_Ev_call0 (m' := m_X4_isSet) (as := [aI (3 : Int32)]) (r := []) ((by have q := e_isSet (xs := xs) (L := L) (3 : Int32) (cm n t v ld sh o cd pl ka kb kc) D E; rw [f_b_t (by decide)] at q; exact q)) rfl rfl ?_
  refine z_Ev_call0 (m' := m_X4_requireArgument) (as := [aI (1 : Int32)]) (r := []) (e_reqA1 (cm n t v ld sh o cd pl ka kb kc) D E) rfl rfl ?_
  refine z_Ev_blk 1 (c' := (8, [some (aR 0 16), some (aI (3 : Int32)), none], [aR 0 16], (cm n t v ld sh o cd pl ka kb kc, D, E))) rfl trivial ?_
  refine z_Ev_call0 (m' := m_X4_saveState) (as := [aR 0 16]) (r := []) (c_save q m n t v ld sh o cd pl ka kb kc D E h3 h4 hq hm hb5 hb6) rfl rfl ?_
  refine z_Ev_blk 8 (c' := ((if (n 19) = (3 : Int32) then 27 else 31), [some (aR 0 16), some (aI (3 : Int32)), none], [], (cm n t (svV v n q m) ld sh (svO o q m) cd pl ka kb kc, D, E))) rfl ⟨rfl, trivial⟩ ?_
  refine z_Ev_ite (fun h1 => ?_) (fun h1 => ?_)
  · skip
    refine z_Ev_blk 9 (c' := ((if (1 : Int32) = 0 then 49 else 45), [some (aR 0 16), some (aI (3 : Int32)), some (aI (1 : Int32))], [aI (3 : Int32), aR 0 1], (cm n t (svV v n q m) ld sh (svO o q m) cd pl ka kb kc, D, E))) rfl trivial ?_
    refine z_Ev_else (by decide) ?_
    refine z_Ev_blk 2 (c' := (50, [some (aR 0 16), some (aI (3 : Int32)), some (aI (1 : Int32))], [aI (0 : Int32), aI (3 : Int32), aR 0 1], (cm n t (svV v n q m) ld sh (svO o q m) cd pl ka kb kc, D, E))) rfl trivial ?_
    refine z_Ev_call0 (m' := m_X0_become) (as := [aR 0 1, aI (3 : Int32), aI (0 : Int32)]) (r := []) (c_become_0_3 (0 : Int32) n t (svV v n q m) ld sh (svO o q m) cd pl ka kb kc D E) rfl rfl ?_
    refine z_Ev_blk 2 (c' := ((if (1 : Int32) = 0 then 61 else 57), [some (aR 0 16), some (aI (3 : Int32)), some (aI (1 : Int32))], [], (cm (upd (upd n 23 0) 19 (0 : Int32)) t (svV v n q m) ld sh (svO o q m) cd pl ka kb kc, D, E))) rfl trivial ?_
    refine z_Ev_else (by decide) ?_
    refine z_Ev_blk 2 (c' := (62, [some (aR 0 16), some (aI (3 : Int32)), some (aI (1 : Int32))], [aI (0 : Int32)], (cm (upd (upd n 23 0) 19 (0 : Int32)) t (svV v n q m) ld sh (svO o q m) cd pl ka kb kc, D, E))) rfl trivial ?_
    exact z_Ev_iretE rfl rfl (by first | rfl | simp [*]) (by first | rfl | simp [*])
  · skip
    refine z_Ev_blk 8 (c' := ((if (0 : Int32) = 0 then 49 else 45), [some (aR 0 16), some (aI (3 : Int32)), some (aI (0 : Int32))], [aI (3 : Int32), aR 0 1], (cm n t (svV v n q m) ld sh (svO o q m) cd pl ka kb kc, D, E))) rfl trivial ?_
    refine z_Ev_if (by decide) ?_
    refine z_Ev_blk 1 (c' := (50, [some (aR 0 16), some (aI (3 : Int32)), some (aI (0 : Int32))], [aI (3 : Int32), aI (3 : Int32), aR 0 1], (cm n t (svV v n q m) ld sh (svO o q m) cd pl ka kb kc, D, E))) rfl trivial ?_
    refine z_Ev_call0 (m' := m_X0_become) (as := [aR 0 1, aI (3 : Int32), aI (3 : Int32)]) (r := []) (c_become_0_3 (3 : Int32) n t (svV v n q m) ld sh (svO o q m) cd pl ka kb kc D E) rfl rfl ?_
    refine z_Ev_blk 2 (c' := ((if (0 : Int32) = 0 then 61 else 57), [some (aR 0 16), some (aI (3 : Int32)), some (aI (0 : Int32))], [], (cm (upd (upd n 23 0) 19 (3 : Int32)) t (svV v n q m) ld sh (svO o q m) cd pl ka kb kc, D, E))) rfl trivial ?_
    refine z_Ev_if (by decide) ?_
    refine z_Ev_blk 1 (c' := (62, [some (aR 0 16), some (aI (3 : Int32)), some (aI (0 : Int32))], [aI (1 : Int32)], (cm (upd (upd n 23 0) 19 (3 : Int32)) t (svV v n q m) ld sh (svO o q m) cd pl ka kb kc, D, E))) rfl trivial ?_
    exact z_Ev_iretE rfl rfl (by first | rfl | simp [*]) (by first | rfl | simp [*])
theorem c_startA {xs : Nat → Int32} {L : Nat} (x : Int32) (n t : Nat → Int32) (v : Nat → Nat → Int32) (ld sh o cd pl ka kb kc : Nat → Int32) (D : Nat → Nat → Int32) (E : Nat → Int64) (hbad : ¬ (0 ≤ x ∧ x ≤ 3)) : z_Mt xs L m_X4_start [aR 0 16, aI x] (cm n t v ld sh o cd pl ka kb kc, D, E) (.inr 0) (cm n t v ld sh o cd pl ka kb kc, D, E) 1 := by
  refine z_Ev_blk 1 (c' := (1, [some (aR 0 16), some (aI x)], [aI x], (cm n t v ld sh o cd pl ka kb kc, D, E))) rfl trivial ?_
  refine z_Ev_call0 (m' := m_X4_isSet) (as := [aI x]) (r := []) ((by have q := e_isSet (xs := xs) (L := L) x (cm n t v ld sh o cd pl ka kb kc) D E; rw [f_b_f (hbad)] at q; exact q)) rfl rfl ?_
  exact z_Ev_thru (e_reqA0 (cm n t v ld sh o cd pl ka kb kc) D E) rfl rfl rfl
theorem c_stopA {xs : Nat → Int32} {L : Nat} (x : Int32) (n t : Nat → Int32) (v : Nat → Nat → Int32) (ld sh o cd pl ka kb kc : Nat → Int32) (D : Nat → Nat → Int32) (E : Nat → Int64) (hbad : ¬ (0 ≤ x ∧ x ≤ 3)) : z_Mt xs L m_X4_stop [aR 0 16, aI x] (cm n t v ld sh o cd pl ka kb kc, D, E) (.inr 0) (cm n t v ld sh o cd pl ka kb kc, D, E) 1 := by
  refine z_Ev_blk 1 (c' := (1, [some (aR 0 16), some (aI x)], [aI x], (cm n t v ld sh o cd pl ka kb kc, D, E))) rfl trivial ?_
  refine z_Ev_call0 (m' := m_X4_isSet) (as := [aI x]) (r := []) ((by have q := e_isSet (xs := xs) (L := L) x (cm n t v ld sh o cd pl ka kb kc) D E; rw [f_b_f (hbad)] at q; exact q)) rfl rfl ?_
  exact z_Ev_thru (e_reqA0 (cm n t v ld sh o cd pl ka kb kc) D E) rfl rfl rfl
theorem c_loseA {xs : Nat → Int32} {L : Nat} (x : Int32) (n t : Nat → Int32) (v : Nat → Nat → Int32) (ld sh o cd pl ka kb kc : Nat → Int32) (D : Nat → Nat → Int32) (E : Nat → Int64) (hbad : ¬ (0 ≤ x ∧ x ≤ 3)) : z_Mt xs L m_X4_lose [aR 0 16, aI x] (cm n t v ld sh o cd pl ka kb kc, D, E) (.inr 0) (cm n t v ld sh o cd pl ka kb kc, D, E) 1 := by
  refine z_Ev_blk 1 (c' := (1, [some (aR 0 16), some (aI x), none], [aI x], (cm n t v ld sh o cd pl ka kb kc, D, E))) rfl trivial ?_
  refine z_Ev_call0 (m' := m_X4_isSet) (as := [aI x]) (r := []) ((by have q := e_isSet (xs := xs) (L := L) x (cm n t v ld sh o cd pl ka kb kc) D E; rw [f_b_f (hbad)] at q; exact q)) rfl rfl ?_
  exact z_Ev_thru (e_reqA0 (cm n t v ld sh o cd pl ka kb kc) D E) rfl rfl rfl
theorem c_shed {xs : Nat → Int32} {L : Nat}  (n t : Nat → Int32) (v : Nat → Nat → Int32) (ld sh o cd pl ka kb kc : Nat → Int32) (D : Nat → Nat → Int32) (E : Nat → Int64) (q m : Nat) (h3 : o 3 = nI q) (h4 : o 4 = nI m) (hq : q < 6) (hm : m ≤ 6) (hb5 : z_isB (n 36) = true) (hb6 : z_isB (n 37) = true) : z_Mt xs L m_X4_shed [aR 0 16] (cm n t v ld sh o cd pl ka kb kc, D, E) (.inl (some (aI (if n 37 = 0 then 1 else 0)))) (cm (upd n 37 (if n 37 = 0 then 1 else 0)) t (svV v n q m) ld sh (svO o q m) cd pl ka kb kc, D, E) 0 := by
  refine z_Ev_blk 1 (c' := (1, [some (aR 0 16)], [aR 0 16], (cm n t v ld sh o cd pl ka kb kc, D, E))) rfl trivial ?_
  refine z_Ev_call0 (m' := m_X4_saveState) (as := [aR 0 16]) (r := []) (c_save q m n t v ld sh o cd pl ka kb kc D E h3 h4 hq hm hb5 hb6) rfl rfl ?_
  refine z_Ev_blk 6 (c' := ((if (n 37) = 0 then 18 else 22), [some (aR 0 16)], [aR 0 0], (cm n t (svV v n q m) ld sh (svO o q m) cd pl ka kb kc, D, E))) rfl trivial ?_
  refine z_Ev_ite (fun h1 => ?_) (fun h1 => ?_)
  · skip
    refine z_Ev_blk 3 (c' := (26, [some (aR 0 16)], [], (up3 (cm n t (svV v n q m) ld sh (svO o q m) cd pl ka kb kc) 0 0 6 (1 : Int32), D, E))) rfl ⟨rfl, trivial⟩ ?_
    rw [cmn_0_6]
    refine z_Ev_blk 3 (c' := (33, [some (aR 0 16)], [aI (1 : Int32)], (cm (upd n 37 (1 : Int32)) t (svV v n q m) ld sh (svO o q m) cd pl ka kb kc, D, E))) rfl trivial ?_
    refine z_Ev_call0 (m' := m_X4_oneIf) (as := [aI (1 : Int32)]) (r := []) (e_oneIf (1 : Int32) (cm (upd n 37 (1 : Int32)) t (svV v n q m) ld sh (svO o q m) cd pl ka kb kc) D E) rfl rfl ?_
    exact z_Ev_iretE rfl rfl (by first | rfl | simp [*]) (by first | rfl | simp [*])
  · skip
    refine z_Ev_blk 2 (c' := (26, [some (aR 0 16)], [], (up3 (cm n t (svV v n q m) ld sh (svO o q m) cd pl ka kb kc) 0 0 6 (0 : Int32), D, E))) rfl ⟨rfl, trivial⟩ ?_
    rw [cmn_0_6]
    refine z_Ev_blk 3 (c' := (33, [some (aR 0 16)], [aI (0 : Int32)], (cm (upd n 37 (0 : Int32)) t (svV v n q m) ld sh (svO o q m) cd pl ka kb kc, D, E))) rfl trivial ?_
    refine z_Ev_call0 (m' := m_X4_oneIf) (as := [aI (0 : Int32)]) (r := []) (e_oneIf (0 : Int32) (cm (upd n 37 (0 : Int32)) t (svV v n q m) ld sh (svO o q m) cd pl ka kb kc) D E) rfl rfl ?_
    exact z_Ev_iretE rfl rfl (by first | rfl | simp [*]) (by first | rfl | simp [*])
theorem nI47 {H : Nat} (h : H < 48) : 0 ≤ nI H ∧ nI H ≤ 47 := ⟨nI_pos' (by omega), nI_le (b := 47) (by omega) (by decide)⟩
theorem c_forecast {xs : Nat → Int32} {L : Nat} (H : Nat) (x : Int32) (n t : Nat → Int32) (v : Nat → Nat → Int32) (ld sh o cd pl ka kb kc : Nat → Int32) (D : Nat → Nat → Int32) (E : Nat → Int64) (hH : H < 48) (hx : 0 ≤ x ∧ x ≤ 1500) (q m : Nat) (h3 : o 3 = nI q) (h4 : o 4 = nI m) (hq : q < 6) (hm : m ≤ 6) (hb5 : z_isB (n 36) = true) (hb6 : z_isB (n 37) = true) : z_Mt xs L m_X4_forecast [aR 0 16, aI (nI H), aI x] (cm n t v ld sh o cd pl ka kb kc, D, E) (.inl (some (aI (n (40 + H))))) (cm (upd n (40 + H) x) t (svV v n q m) ld sh (svO o q m) cd pl ka kb kc, D, E) 0 := by
  refine z_Ev_blk 1 (c' := (1, [some (aR 0 16), some (aI (nI H)), some (aI x), none], [aI (nI H)], (cm n t v ld sh o cd pl ka kb kc, D, E))) rfl trivial ?_
  refine z_Ev_call0 (m' := m_X4_isHour) (as := [aI (nI H)]) (r := []) ((by have q := e_isHour (xs := xs) (L := L) (nI H) (cm n t v ld sh o cd pl ka kb kc) D E; rw [f_b_t (nI47 hH)] at q; exact q)) rfl rfl ?_
  refine z_Ev_blk 1 (c' := ((if (1 : Int32) = 0 then 22 else 7), [some (aR 0 16), some (aI (nI H)), some (aI x), none], [], (cm n t v ld sh o cd pl ka kb kc, D, E))) rfl trivial ?_
  refine z_Ev_else (by decide) ?_
  refine z_Ev_blk 3 (c' := (12, [some (aR 0 16), some (aI (nI H)), some (aI x), none], [aI x, aI (1500 : Int32), aI (0 : Int32)], (cm n t v ld sh o cd pl ka kb kc, D, E))) rfl trivial ?_
  refine z_Ev_call0 (m' := m_X4_isFrom) (as := [aI (0 : Int32), aI (1500 : Int32), aI x]) (r := []) ((by have q := e_isFrom (xs := xs) (L := L) (0 : Int32) (1500 : Int32) x (cm n t v ld sh o cd pl ka kb kc) D E; rw [f_b_t (hx)] at q; exact q)) rfl rfl ?_
  refine z_Ev_blk 1 (c' := ((if (1 : Int32) = 0 then 22 else 18), [some (aR 0 16), some (aI (nI H)), some (aI x), none], [], (cm n t v ld sh o cd pl ka kb kc, D, E))) rfl trivial ?_
  refine z_Ev_else (by decide) ?_
  refine z_Ev_blk 2 (c' := (23, [some (aR 0 16), some (aI (nI H)), some (aI x), none], [aI (1 : Int32)], (cm n t v ld sh o cd pl ka kb kc, D, E))) rfl trivial ?_
  refine z_Ev_call0 (m' := m_X4_requireArgument) (as := [aI (1 : Int32)]) (r := []) (e_reqA1 (cm n t v ld sh o cd pl ka kb kc) D E) rfl rfl ?_
  refine z_Ev_blk 1 (c' := (27, [some (aR 0 16), some (aI (nI H)), some (aI x), none], [aR 0 16], (cm n t v ld sh o cd pl ka kb kc, D, E))) rfl trivial ?_
  refine z_Ev_call0 (m' := m_X4_saveState) (as := [aR 0 16]) (r := []) (c_save q m n t v ld sh o cd pl ka kb kc D E h3 h4 hq hm hb5 hb6) rfl rfl ?_
  refine z_Ev_blk 7 (c' := (41, [some (aR 0 16), some (aI (nI H)), some (aI x), none], [aI ((cm n t (svV v n q m) ld sh (svO o q m) cd pl ka kb kc) 0 11 ((nI H).toNatClampNeg))], (cm n t (svV v n q m) ld sh (svO o q m) cd pl ka kb kc, D, E))) rfl ⟨rfl, (inb_nI (show H < 48 by omega) (by decide)), trivial⟩ ?_
  rw [nI_clamp (show H < 2 ^ 31 by omega), cmn_r11_0 (show H < 48 by omega)]
  refine z_Ev_blk 9 (c' := (54, [some (aR 0 16), some (aI (nI H)), some (aI x), some (aI (n (40 + H)))], [], (up3 (cm n t (svV v n q m) ld sh (svO o q m) cd pl ka kb kc) 0 11 ((nI H).toNatClampNeg) x, D, E))) rfl ⟨rfl, (inb_nI (show H < 48 by omega) (by decide)), trivial⟩ ?_
  rw [nI_clamp (show H < 2 ^ 31 by omega)]
  rw [cmn_11_0 (hH)]
  refine z_Ev_blk 1 (c' := (55, [some (aR 0 16), some (aI (nI H)), some (aI x), some (aI (n (40 + H)))], [aI (n (40 + H))], (cm (upd n (40 + H) x) t (svV v n q m) ld sh (svO o q m) cd pl ka kb kc, D, E))) rfl trivial ?_
  exact z_Ev_iretE rfl rfl (by rfl) (by rfl)
theorem c_set_0 {xs : Nat → Int32} {L : Nat} (x : Int32) (n t : Nat → Int32) (v : Nat → Nat → Int32) (ld sh o cd pl ka kb kc : Nat → Int32) (D : Nat → Nat → Int32) (E : Nat → Int64) (hx : 0 ≤ x ∧ x ≤ 300) (q m : Nat) (h3 : o 3 = nI q) (h4 : o 4 = nI m) (hq : q < 6) (hm : m ≤ 6) (hb5 : z_isB (n 36) = true) (hb6 : z_isB (n 37) = true) : z_Mt xs L m_X4_set [aR 0 16, aI (0 : Int32), aI x] (cm n t v ld sh o cd pl ka kb kc, D, E) (.inl (some (aI (n 32)))) (cm (upd n 32 x) t (svV v n q m) ld sh (svO o q m) cd pl ka kb kc, D, E) 0 := by
  refine z_Ev_blk 1 (c' := (1, [some (aR 0 16), some (aI (0 : Int32)), some (aI x), none, none], [aI (0 : Int32)], (cm n t v ld sh o cd pl ka kb kc, D, E))) rfl trivial ?_
  refine z_Ev_call0 (m' := m_X4_requireSetting) (as := [aI (0 : Int32)]) (r := []) (e_reqX1 (0 : Int32) (cm n t v ld sh o cd pl ka kb kc) D E (by decide)) rfl rfl ?_
  refine z_Ev_blk 2 (c' := ((if (0 : Int32) = 0 then 8 else 14), [some (aR 0 16), some (aI (0 : Int32)), some (aI x), none, none], [], (cm n t v ld sh o cd pl ka kb kc, D, E))) rfl trivial ?_
  refine z_Ev_if (by decide) ?_
  refine z_Ev_blk 6 (c' := (20, [some (aR 0 16), some (aI (0 : Int32)), some (aI x), some (aI (300 : Int32)), none], [aI x, aI (300 : Int32), aI (0 : Int32)], (cm n t v ld sh o cd pl ka kb kc, D, E))) rfl trivial ?_
  refine z_Ev_call0 (m' := m_X4_isFrom) (as := [aI (0 : Int32), aI (300 : Int32), aI x]) (r := []) ((by have q := e_isFrom (xs := xs) (L := L) (0 : Int32) (300 : Int32) x (cm n t v ld sh o cd pl ka kb kc) D E; rw [f_b_t (hx)] at q; exact q)) rfl rfl ?_
  refine z_Ev_call0 (m' := m_X4_requireArgument) (as := [aI (1 : Int32)]) (r := []) (e_reqA1 (cm n t v ld sh o cd pl ka kb kc) D E) rfl rfl ?_
  refine z_Ev_blk 1 (c' := (27, [some (aR 0 16), some (aI (0 : Int32)), some (aI x), some (aI (300 : Int32)), none], [aR 0 16], (cm n t v ld sh o cd pl ka kb kc, D, E))) rfl trivial ?_
  refine z_Ev_call0 (m' := m_X4_saveState) (as := [aR 0 16]) (r := []) (c_save q m n t v ld sh o cd pl ka kb kc D E h3 h4 hq hm hb5 hb6) rfl rfl ?_
  refine z_Ev_blk 12 (c' := (51, [some (aR 0 16), some (aI (0 : Int32)), some (aI x), some (aI (300 : Int32)), some (aI (n 32))], [], (up3 (cm n t (svV v n q m) ld sh (svO o q m) cd pl ka kb kc) 0 12 0 x, D, E))) rfl ⟨rfl, rfl, trivial⟩ ?_
  rw [cmn_12_0]
  refine z_Ev_blk 1 (c' := (53, [some (aR 0 16), some (aI (0 : Int32)), some (aI x), some (aI (300 : Int32)), some (aI (n 32))], [aI (n 32)], (cm (upd n 32 x) t (svV v n q m) ld sh (svO o q m) cd pl ka kb kc, D, E))) rfl trivial ?_
  exact z_Ev_iretE rfl rfl (by rfl) (by rfl)
theorem c_setA_0 {xs : Nat → Int32} {L : Nat} (x : Int32) (n t : Nat → Int32) (v : Nat → Nat → Int32) (ld sh o cd pl ka kb kc : Nat → Int32) (D : Nat → Nat → Int32) (E : Nat → Int64) (hx : ¬ (0 ≤ x ∧ x ≤ 300)) : z_Mt xs L m_X4_set [aR 0 16, aI (0 : Int32), aI x] (cm n t v ld sh o cd pl ka kb kc, D, E) (.inr 0) (cm n t v ld sh o cd pl ka kb kc, D, E) 1 := by
  refine z_Ev_blk 1 (c' := (1, [some (aR 0 16), some (aI (0 : Int32)), some (aI x), none, none], [aI (0 : Int32)], (cm n t v ld sh o cd pl ka kb kc, D, E))) rfl trivial ?_
  refine z_Ev_call0 (m' := m_X4_requireSetting) (as := [aI (0 : Int32)]) (r := []) (e_reqX1 (0 : Int32) (cm n t v ld sh o cd pl ka kb kc) D E (by decide)) rfl rfl ?_
  refine z_Ev_blk 2 (c' := ((if (0 : Int32) = 0 then 8 else 14), [some (aR 0 16), some (aI (0 : Int32)), some (aI x), none, none], [], (cm n t v ld sh o cd pl ka kb kc, D, E))) rfl trivial ?_
  refine z_Ev_if (by decide) ?_
  refine z_Ev_blk 6 (c' := (20, [some (aR 0 16), some (aI (0 : Int32)), some (aI x), some (aI (300 : Int32)), none], [aI x, aI (300 : Int32), aI (0 : Int32)], (cm n t v ld sh o cd pl ka kb kc, D, E))) rfl trivial ?_
  refine z_Ev_call0 (m' := m_X4_isFrom) (as := [aI (0 : Int32), aI (300 : Int32), aI x]) (r := []) ((by have q := e_isFrom (xs := xs) (L := L) (0 : Int32) (300 : Int32) x (cm n t v ld sh o cd pl ka kb kc) D E; rw [f_b_f (hx)] at q; exact q)) rfl rfl ?_
  exact z_Ev_thru (e_reqA0 (cm n t v ld sh o cd pl ka kb kc) D E) rfl rfl rfl
theorem c_set_1 {xs : Nat → Int32} {L : Nat} (x : Int32) (n t : Nat → Int32) (v : Nat → Nat → Int32) (ld sh o cd pl ka kb kc : Nat → Int32) (D : Nat → Nat → Int32) (E : Nat → Int64) (hx : 0 ≤ x ∧ x ≤ 48) (q m : Nat) (h3 : o 3 = nI q) (h4 : o 4 = nI m) (hq : q < 6) (hm : m ≤ 6) (hb5 : z_isB (n 36) = true) (hb6 : z_isB (n 37) = true) : z_Mt xs L m_X4_set [aR 0 16, aI (1 : Int32), aI x] (cm n t v ld sh o cd pl ka kb kc, D, E) (.inl (some (aI (n 33)))) (cm (upd n 33 x) t (svV v n q m) ld sh (svO o q m) cd pl ka kb kc, D, E) 0 := by
  refine z_Ev_blk 1 (c' := (1, [some (aR 0 16), some (aI (1 : Int32)), some (aI x), none, none], [aI (1 : Int32)], (cm n t v ld sh o cd pl ka kb kc, D, E))) rfl trivial ?_
  refine z_Ev_call0 (m' := m_X4_requireSetting) (as := [aI (1 : Int32)]) (r := []) (e_reqX1 (1 : Int32) (cm n t v ld sh o cd pl ka kb kc) D E (by decide)) rfl rfl ?_
  refine z_Ev_blk 2 (c' := ((if (1 : Int32) = 0 then 8 else 14), [some (aR 0 16), some (aI (1 : Int32)), some (aI x), none, none], [], (cm n t v ld sh o cd pl ka kb kc, D, E))) rfl trivial ?_
  refine z_Ev_else (by decide) ?_
  refine z_Ev_blk 5 (c' := (20, [some (aR 0 16), some (aI (1 : Int32)), some (aI x), some (aI (48 : Int32)), none], [aI x, aI (48 : Int32), aI (0 : Int32)], (cm n t v ld sh o cd pl ka kb kc, D, E))) rfl trivial ?_
  refine z_Ev_call0 (m' := m_X4_isFrom) (as := [aI (0 : Int32), aI (48 : Int32), aI x]) (r := []) ((by have q := e_isFrom (xs := xs) (L := L) (0 : Int32) (48 : Int32) x (cm n t v ld sh o cd pl ka kb kc) D E; rw [f_b_t (hx)] at q; exact q)) rfl rfl ?_
  refine z_Ev_call0 (m' := m_X4_requireArgument) (as := [aI (1 : Int32)]) (r := []) (e_reqA1 (cm n t v ld sh o cd pl ka kb kc) D E) rfl rfl ?_
  refine z_Ev_blk 1 (c' := (27, [some (aR 0 16), some (aI (1 : Int32)), some (aI x), some (aI (48 : Int32)), none], [aR 0 16], (cm n t v ld sh o cd pl ka kb kc, D, E))) rfl trivial ?_
  refine z_Ev_call0 (m' := m_X4_saveState) (as := [aR 0 16]) (r := []) (c_save q m n t v ld sh o cd pl ka kb kc D E h3 h4 hq hm hb5 hb6) rfl rfl ?_
  refine z_Ev_blk 12 (c' := (51, [some (aR 0 16), some (aI (1 : Int32)), some (aI x), some (aI (48 : Int32)), some (aI (n 33))], [], (up3 (cm n t (svV v n q m) ld sh (svO o q m) cd pl ka kb kc) 0 12 1 x, D, E))) rfl ⟨rfl, rfl, trivial⟩ ?_
  rw [cmn_12_1]
  refine z_Ev_blk 1 (c' := (53, [some (aR 0 16), some (aI (1 : Int32)), some (aI x), some (aI (48 : Int32)), some (aI (n 33))], [aI (n 33)], (cm (upd n 33 x) t (svV v n q m) ld sh (svO o q m) cd pl ka kb kc, D, E))) rfl trivial ?_
  exact z_Ev_iretE rfl rfl (by rfl) (by rfl)
theorem c_setA_1 {xs : Nat → Int32} {L : Nat} (x : Int32) (n t : Nat → Int32) (v : Nat → Nat → Int32) (ld sh o cd pl ka kb kc : Nat → Int32) (D : Nat → Nat → Int32) (E : Nat → Int64) (hx : ¬ (0 ≤ x ∧ x ≤ 48)) : z_Mt xs L m_X4_set [aR 0 16, aI (1 : Int32), aI x] (cm n t v ld sh o cd pl ka kb kc, D, E) (.inr 0) (cm n t v ld sh o cd pl ka kb kc, D, E) 1 := by
  refine z_Ev_blk 1 (c' := (1, [some (aR 0 16), some (aI (1 : Int32)), some (aI x), none, none], [aI (1 : Int32)], (cm n t v ld sh o cd pl ka kb kc, D, E))) rfl trivial ?_
  refine z_Ev_call0 (m' := m_X4_requireSetting) (as := [aI (1 : Int32)]) (r := []) (e_reqX1 (1 : Int32) (cm n t v ld sh o cd pl ka kb kc) D E (by decide)) rfl rfl ?_
  refine z_Ev_blk 2 (c' := ((if (1 : Int32) = 0 then 8 else 14), [some (aR 0 16), some (aI (1 : Int32)), some (aI x), none, none], [], (cm n t v ld sh o cd pl ka kb kc, D, E))) rfl trivial ?_
  refine z_Ev_else (by decide) ?_
  refine z_Ev_blk 5 (c' := (20, [some (aR 0 16), some (aI (1 : Int32)), some (aI x), some (aI (48 : Int32)), none], [aI x, aI (48 : Int32), aI (0 : Int32)], (cm n t v ld sh o cd pl ka kb kc, D, E))) rfl trivial ?_
  refine z_Ev_call0 (m' := m_X4_isFrom) (as := [aI (0 : Int32), aI (48 : Int32), aI x]) (r := []) ((by have q := e_isFrom (xs := xs) (L := L) (0 : Int32) (48 : Int32) x (cm n t v ld sh o cd pl ka kb kc) D E; rw [f_b_f (hx)] at q; exact q)) rfl rfl ?_
  exact z_Ev_thru (e_reqA0 (cm n t v ld sh o cd pl ka kb kc) D E) rfl rfl rfl
theorem c_setX {xs : Nat → Int32} {L : Nat} (x y : Int32) (n t : Nat → Int32) (v : Nat → Nat → Int32) (ld sh o cd pl ka kb kc : Nat → Int32) (D : Nat → Nat → Int32) (E : Nat → Int64) (hbad : ¬ (0 ≤ x ∧ x ≤ 1)) : z_Mt xs L m_X4_set [aR 0 16, aI x, aI y] (cm n t v ld sh o cd pl ka kb kc, D, E) (.inr 2) (cm n t v ld sh o cd pl ka kb kc, D, E) 1 := by
  refine z_Ev_blk 1 (c' := (1, [some (aR 0 16), some (aI x), some (aI y), none, none], [aI x], (cm n t v ld sh o cd pl ka kb kc, D, E))) rfl trivial ?_
  exact z_Ev_thru (e_reqX0 x (cm n t v ld sh o cd pl ka kb kc) D E hbad) rfl rfl rfl
