/-! THE CLASS: its public methods, second -/
theorem c_undo {xs : Nat → Int32} {L : Nat} (m r : Nat) (n t : Nat → Int32) (v : Nat → Nat → Int32) (ld sh o cd pl ka kb kc : Nat → Int32) (D : Nat → Nat → Int32) (E : Nat → Int64) (h4 : o 4 = nI (m + 1)) (hm : m < 6) (hr : ((o 3) + (nI m)) - ((o 3) + (nI m)) / (6 : Int32) * (6 : Int32) = nI r) (hr6 : r < 6) (hb5 : z_isB (v r 36) = true) (hb6 : z_isB (v r 37) = true) : z_Mt xs L m_X4_undo [aR 0 16] (cm n t v ld sh o cd pl ka kb kc, D, E) (.inl (some (aI (nI m)))) (cm (v r) t v ld sh (upd o 4 (nI m)) cd pl ka kb kc, D, E) 0 := by
  refine z_Ev_blk 3 (c' := ((if (o 4) ≤ 0 then 11 else 7), [some (aR 0 16)], [], (cm n t v ld sh o cd pl ka kb kc, D, E))) rfl trivial ?_
  refine z_Ev_else (by rw [h4]; exact nI_nle (by omega) (by omega)) ?_
  refine z_Ev_blk 2 (c' := (12, [some (aR 0 16)], [aI (1 : Int32)], (cm n t v ld sh o cd pl ka kb kc, D, E))) rfl trivial ?_
  refine z_Ev_call0 (m' := m_X4_requireState) (as := [aI (1 : Int32)]) (r := []) (e_reqS1 (cm n t v ld sh o cd pl ka kb kc) D E) rfl rfl ?_
  refine z_Ev_blk 6 (c' := (25, [some (aR 0 16)], [], (up3 (cm n t v ld sh o cd pl ka kb kc) 0 16 4 ((o 4) - (1 : Int32)), D, E))) rfl trivial ?_
  rw [cm_16]
  rw [show o 4 - 1 = nI m from by rw [h4]; exact nI_pred m]
  refine z_Ev_blk 11 (c' := (45, [some (aR 0 16)], [aI (((o 3) + (nI m)) - ((o 3) + (nI m)) / (6 : Int32) * (6 : Int32)), aR 0 17, aR 0 0], (cm n t v ld sh (upd o 4 (nI m)) cd pl ka kb kc, D, E))) rfl ⟨by decide, trivial⟩ ?_
  rw [hr]
  refine z_Ev_blk 1 (c' := (46, [some (aR 0 16)], [aR (2 + (nI r).toNatClampNeg) 0, aR 0 0], (cm n t v ld sh (upd o 4 (nI m)) cd pl ka kb kc, D, E))) rfl ⟨(inb_nI hr6 (by decide)), trivial⟩ ?_
  rw [nI_clamp (show r < 2 ^ 31 by omega)]
  refine z_Ev_call0 (m' := m_X1_copyFrom) (as := [aR 0 0, aR (2 + r) 0]) (r := []) (c_copy_nv r n t v ld sh (upd o 4 (nI m)) cd pl ka kb kc D E hb5 hb6) rfl rfl ?_
  refine z_Ev_blk 2 (c' := (53, [some (aR 0 16)], [aI (nI m)], (cm (v r) t v ld sh (upd o 4 (nI m)) cd pl ka kb kc, D, E))) rfl trivial ?_
  exact z_Ev_iretE rfl rfl (by rfl) (by rfl)
theorem c_undoA {xs : Nat → Int32} {L : Nat}  (n t : Nat → Int32) (v : Nat → Nat → Int32) (ld sh o cd pl ka kb kc : Nat → Int32) (D : Nat → Nat → Int32) (E : Nat → Int64) (h4 : o 4 = 0) : z_Mt xs L m_X4_undo [aR 0 16] (cm n t v ld sh o cd pl ka kb kc, D, E) (.inr 1) (cm n t v ld sh o cd pl ka kb kc, D, E) 1 := by
  refine z_Ev_blk 3 (c' := ((if (o 4) ≤ 0 then 11 else 7), [some (aR 0 16)], [], (cm n t v ld sh o cd pl ka kb kc, D, E))) rfl trivial ?_
  refine z_Ev_if (by rw [h4]; exact Int32.le_refl _) ?_
  refine z_Ev_blk 1 (c' := (12, [some (aR 0 16)], [aI (0 : Int32)], (cm n t v ld sh o cd pl ka kb kc, D, E))) rfl trivial ?_
  exact z_Ev_thru (e_reqS0 (cm n t v ld sh o cd pl ka kb kc) D E) rfl rfl rfl
theorem Vs_b5 {s : Nat → Int32} {H : Nat} (hV : Vs s H) : z_isB (s 36) = true := hV.2.2.2.1
theorem Vs_b6 {s : Nat → Int32} {H : Nat} (hV : Vs s H) : z_isB (s 37) = true := hV.2.2.2.2.1
theorem hasS {H k : Nat} {x : Int32} (hx : x = nI H) (hH : H ≤ 48) (hk : k ≤ 48) : nI k ≤ 48 - x ↔ H + k ≤ 48 := by
  rw [hx, i_le, show (48 : Int32) = nI 48 from rfl, pk_sub_toInt (by decide) (by omega), nI_toInt (by omega)]
  omega
def mnH (H : Nat) : Nat := min H 47
theorem hnF_n {s : Nat → Int32} {H : Nat} (hV : Vs s H) : hnF s = nI (mnH H) := by
  have h := hV.2.1
  unfold hnF mnH
  rw [h.1]
  by_cases e : 47 < H
  · rw [if_pos (show (47 : Int32) < nI H from nI_lt (a := 47) e (by omega)), show min H 47 = 47 by omega]
    rfl
  · rw [if_neg (show ¬ (47 : Int32) < nI H from nI_nlt (a := 47) (by omega) (by decide)), show min H 47 = H by omega]
theorem nowF_n {s : Nat → Int32} {H : Nat} (hV : Vs s H) : nowF s = nI (mnH H) := by
  have h := hV.2.1
  unfold nowF mnH
  rw [h.1]
  by_cases e : H = 48
  · subst e; rfl
  · rw [if_neg (fun z => e ((nI_eq (by omega) (by decide)).mp (z.trans (show (48 : Int32) = nI 48 from rfl)))), show min H 47 = H by omega]
theorem mnH_lt (H : Nat) : mnH H < 48 := by unfold mnH; omega

theorem c_pass {xs : Nat → Int32} {L : Nat} (k H : Nat) (Z LD SH : Nat → Int32) (n t : Nat → Int32) (v : Nat → Nat → Int32) (ld sh o cd pl ka kb kc : Nat → Int32) (D : Nat → Nat → Int32) (E : Nat → Int64) (hV : Vs n H) (hk1 : 1 ≤ k) (hk : H + k ≤ 48) (hY : cTI k (n, ld, sh) = (Z, LD, SH)) (hZ : Vs Z (H + k)) (q m : Nat) (h3 : o 3 = nI q) (h4 : o 4 = nI m) (hq : q < 6) (hm : m ≤ 6) (hb5 : z_isB (n 36) = true) (hb6 : z_isB (n 37) = true) : z_Mt xs L m_X4_pass [aR 0 16, aI (nI k)] (cm n t v ld sh o cd pl ka kb kc, D, E) (.inl (some (aI (dkN Z (H + k) - dkN n H)))) (cm Z t (svV v n q m) LD SH (svO o q m) cd pl ka kb kc, D, E) 0 := by
  refine z_Ev_blk 3 (c' := (4, [some (aR 0 16), some (aI (nI k)), none], [aI (nI k), aI (48 : Int32), aI (1 : Int32)], (cm n t v ld sh o cd pl ka kb kc, D, E))) rfl trivial ?_
  refine z_Ev_call0 (m' := m_X4_isFrom) (as := [aI (1 : Int32), aI (48 : Int32), aI (nI k)]) (r := []) ((by have q := e_isFrom (xs := xs) (L := L) (1 : Int32) (48 : Int32) (nI k) (cm n t v ld sh o cd pl ka kb kc) D E; rw [f_b_t (⟨nI_le (a := 1) hk1 (by omega), nI_le (b := 48) (by omega) (by decide)⟩)] at q; exact q)) rfl rfl ?_
  refine z_Ev_call0 (m' := m_X4_requireArgument) (as := [aI (1 : Int32)]) (r := []) (e_reqA1 (cm n t v ld sh o cd pl ka kb kc) D E) rfl rfl ?_
  refine z_Ev_blk 3 (c' := (15, [some (aR 0 16), some (aI (nI k)), none], [aI (nI k), aR 0 0], (cm n t v ld sh o cd pl ka kb kc, D, E))) rfl trivial ?_
  refine z_Ev_call0 (m' := m_X1_hasStill) (as := [aR 0 0, aI (nI k)]) (r := []) ((by have q := c_hasStill (xs := xs) (L := L) (nI k) n t v ld sh o cd pl ka kb kc D E; rw [f_b_t ((hasS hV.2.1.1 hV.2.1.2 (by omega)).mpr hk)] at q; exact q)) rfl rfl ?_
  refine z_Ev_call0 (m' := m_X4_requireState) (as := [aI (1 : Int32)]) (r := []) (e_reqS1 (cm n t v ld sh o cd pl ka kb kc) D E) rfl rfl ?_
  refine z_Ev_blk 1 (c' := (22, [some (aR 0 16), some (aI (nI k)), none], [aR 0 16], (cm n t v ld sh o cd pl ka kb kc, D, E))) rfl trivial ?_
  refine z_Ev_call0 (m' := m_X4_saveState) (as := [aR 0 16]) (r := []) (c_save q m n t v ld sh o cd pl ka kb kc D E h3 h4 hq hm hb5 hb6) rfl rfl ?_
  refine z_Ev_blk 2 (c' := (29, [some (aR 0 16), some (aI (nI k)), none], [aR 0 0], (cm n t (svV v n q m) ld sh (svO o q m) cd pl ka kb kc, D, E))) rfl trivial ?_
  refine z_Ev_call0 (m' := m_X1_darkHours) (as := [aR 0 0]) (r := []) (c_darkHours_0 n t (svV v n q m) ld sh (svO o q m) cd pl ka kb kc D E H hV.2.1.1 hV.2.1.2) rfl rfl ?_
  refine z_Ev_blk 6 (c' := (42, [some (aR 0 16), some (aI (nI k)), some (aI (dkN n H))], [aR 0 23, aI (nI k), aR 0 0], (cm n t (svV v n q m) ld sh (svO o q m) cd pl ka kb kc, D, E))) rfl trivial ?_
  refine z_Ev_call0 (m' := m_X1_letHoursGoBy) (as := [aR 0 0, aI (nI k), aR 0 23]) (r := []) ((by have q := c_hours_0 (xs := xs) (L := L) n t (svV v n q m) ld sh (svO o q m) cd pl ka kb kc D E k H (by omega) hV; rw [show min (k - 0) (48 - H) = k by omega, hY] at q; exact q)) rfl rfl ?_
  refine z_Ev_blk 2 (c' := (49, [some (aR 0 16), some (aI (nI k)), some (aI (dkN n H))], [aR 0 0], (cm Z t (svV v n q m) LD SH (svO o q m) cd pl ka kb kc, D, E))) rfl trivial ?_
  refine z_Ev_call0 (m' := m_X1_darkHours) (as := [aR 0 0]) (r := []) (c_darkHours_0 Z t (svV v n q m) LD SH (svO o q m) cd pl ka kb kc D E (H + k) hZ.2.1.1 hZ.2.1.2) rfl rfl ?_
  refine z_Ev_blk 2 (c' := (54, [some (aR 0 16), some (aI (nI k)), some (aI (dkN n H))], [aI ((dkN Z (H + k)) - (dkN n H))], (cm Z t (svV v n q m) LD SH (svO o q m) cd pl ka kb kc, D, E))) rfl trivial ?_
  exact z_Ev_iretE rfl rfl (by rfl) (by rfl)
theorem c_passA {xs : Nat → Int32} {L : Nat} (x : Int32) (n t : Nat → Int32) (v : Nat → Nat → Int32) (ld sh o cd pl ka kb kc : Nat → Int32) (D : Nat → Nat → Int32) (E : Nat → Int64) (hx : ¬ (1 ≤ x ∧ x ≤ 48)) : z_Mt xs L m_X4_pass [aR 0 16, aI x] (cm n t v ld sh o cd pl ka kb kc, D, E) (.inr 0) (cm n t v ld sh o cd pl ka kb kc, D, E) 1 := by
  refine z_Ev_blk 3 (c' := (4, [some (aR 0 16), some (aI x), none], [aI x, aI (48 : Int32), aI (1 : Int32)], (cm n t v ld sh o cd pl ka kb kc, D, E))) rfl trivial ?_
  refine z_Ev_call0 (m' := m_X4_isFrom) (as := [aI (1 : Int32), aI (48 : Int32), aI x]) (r := []) ((by have q := e_isFrom (xs := xs) (L := L) (1 : Int32) (48 : Int32) x (cm n t v ld sh o cd pl ka kb kc) D E; rw [f_b_f (hx)] at q; exact q)) rfl rfl ?_
  exact z_Ev_thru (e_reqA0 (cm n t v ld sh o cd pl ka kb kc) D E) rfl rfl rfl
theorem c_passS {xs : Nat → Int32} {L : Nat} (k H : Nat) (n t : Nat → Int32) (v : Nat → Nat → Int32) (ld sh o cd pl ka kb kc : Nat → Int32) (D : Nat → Nat → Int32) (E : Nat → Int64) (hV : Vs n H) (hk1 : 1 ≤ k) (hk2 : k ≤ 48) (hk : ¬ H + k ≤ 48) : z_Mt xs L m_X4_pass [aR 0 16, aI (nI k)] (cm n t v ld sh o cd pl ka kb kc, D, E) (.inr 1) (cm n t v ld sh o cd pl ka kb kc, D, E) 1 := by
  refine z_Ev_blk 3 (c' := (4, [some (aR 0 16), some (aI (nI k)), none], [aI (nI k), aI (48 : Int32), aI (1 : Int32)], (cm n t v ld sh o cd pl ka kb kc, D, E))) rfl trivial ?_
  refine z_Ev_call0 (m' := m_X4_isFrom) (as := [aI (1 : Int32), aI (48 : Int32), aI (nI k)]) (r := []) ((by have q := e_isFrom (xs := xs) (L := L) (1 : Int32) (48 : Int32) (nI k) (cm n t v ld sh o cd pl ka kb kc) D E; rw [f_b_t (⟨nI_le (a := 1) hk1 (by omega), nI_le (b := 48) (by omega) (by decide)⟩)] at q; exact q)) rfl rfl ?_
  refine z_Ev_call0 (m' := m_X4_requireArgument) (as := [aI (1 : Int32)]) (r := []) (e_reqA1 (cm n t v ld sh o cd pl ka kb kc) D E) rfl rfl ?_
  refine z_Ev_blk 3 (c' := (15, [some (aR 0 16), some (aI (nI k)), none], [aI (nI k), aR 0 0], (cm n t v ld sh o cd pl ka kb kc, D, E))) rfl trivial ?_
  refine z_Ev_call0 (m' := m_X1_hasStill) (as := [aR 0 0, aI (nI k)]) (r := []) ((by have q := c_hasStill (xs := xs) (L := L) (nI k) n t v ld sh o cd pl ka kb kc D E; rw [f_b_f (fun z => hk ((hasS hV.2.1.1 hV.2.1.2 (by omega)).mp z))] at q; exact q)) rfl rfl ?_
  exact z_Ev_thru (e_reqS0 (cm n t v ld sh o cd pl ka kb kc) D E) rfl rfl rfl
theorem c_forecastA {xs : Nat → Int32} {L : Nat} (x y : Int32) (n t : Nat → Int32) (v : Nat → Nat → Int32) (ld sh o cd pl ka kb kc : Nat → Int32) (D : Nat → Nat → Int32) (E : Nat → Int64) (hbad : ¬ ((0 ≤ x ∧ x ≤ 47) ∧ 0 ≤ y ∧ y ≤ 1500)) : z_Mt xs L m_X4_forecast [aR 0 16, aI x, aI y] (cm n t v ld sh o cd pl ka kb kc, D, E) (.inr 0) (cm n t v ld sh o cd pl ka kb kc, D, E) 1 := by
  refine z_Ev_blk 1 (c' := (1, [some (aR 0 16), some (aI x), some (aI y), none], [aI x], (cm n t v ld sh o cd pl ka kb kc, D, E))) rfl trivial ?_
  refine z_Ev_call0 (m' := m_X4_isHour) (as := [aI x]) (r := []) (e_isHour x (cm n t v ld sh o cd pl ka kb kc) D E) rfl rfl ?_
  refine z_Ev_blk 1 (c' := ((if (f_b (0 ≤ x ∧ x ≤ 47)) = 0 then 22 else 7), [some (aR 0 16), some (aI x), some (aI y), none], [], (cm n t v ld sh o cd pl ka kb kc, D, E))) rfl trivial ?_
  refine z_Ev_ite (fun h1 => ?_) (fun h1 => ?_)
  · replace h1 := f_bZ h1
    refine z_Ev_blk 1 (c' := (23, [some (aR 0 16), some (aI x), some (aI y), none], [aI (0 : Int32)], (cm n t v ld sh o cd pl ka kb kc, D, E))) rfl trivial ?_
    exact z_Ev_thru (e_reqA0 (cm n t v ld sh o cd pl ka kb kc) D E) rfl rfl rfl
  · replace h1 := f_bQ h1
    refine z_Ev_blk 3 (c' := (12, [some (aR 0 16), some (aI x), some (aI y), none], [aI y, aI (1500 : Int32), aI (0 : Int32)], (cm n t v ld sh o cd pl ka kb kc, D, E))) rfl trivial ?_
    refine z_Ev_call0 (m' := m_X4_isFrom) (as := [aI (0 : Int32), aI (1500 : Int32), aI y]) (r := []) (e_isFrom (0 : Int32) (1500 : Int32) y (cm n t v ld sh o cd pl ka kb kc) D E) rfl rfl ?_
    refine z_Ev_blk 1 (c' := ((if (f_b ((0 : Int32) ≤ y ∧ y ≤ (1500 : Int32))) = 0 then 22 else 18), [some (aR 0 16), some (aI x), some (aI y), none], [], (cm n t v ld sh o cd pl ka kb kc, D, E))) rfl trivial ?_
    refine z_Ev_ite (fun h2 => ?_) (fun h2 => ?_)
    · replace h2 := f_bZ h2
      refine z_Ev_blk 1 (c' := (23, [some (aR 0 16), some (aI x), some (aI y), none], [aI (0 : Int32)], (cm n t v ld sh o cd pl ka kb kc, D, E))) rfl trivial ?_
      exact z_Ev_thru (e_reqA0 (cm n t v ld sh o cd pl ka kb kc) D E) rfl rfl rfl
    · replace h2 := f_bQ h2
      refine z_Ev_blk 2 (c' := (23, [some (aR 0 16), some (aI x), some (aI y), none], [aI (1 : Int32)], (cm n t v ld sh o cd pl ka kb kc, D, E))) rfl trivial ?_
      exact absurd ⟨h1, h2⟩ hbad
theorem c_rateA {xs : Nat → Int32} {L : Nat} (x g l e w : Int32) (n t : Nat → Int32) (v : Nat → Nat → Int32) (ld sh o cd pl ka kb kc : Nat → Int32) (D : Nat → Nat → Int32) (E : Nat → Int64) (hbad : ¬ ((0 ≤ x ∧ x ≤ 3) ∧ (50 ≤ g ∧ g ≤ 500) ∧ (0 ≤ l ∧ l ≤ g) ∧ (1 ≤ e ∧ e ≤ 99) ∧ 0 ≤ w ∧ w ≤ 4)) : z_Mt xs L m_X4_rate [aR 0 16, aI x, aI g, aI l, aI e, aI w] (cm n t v ld sh o cd pl ka kb kc, D, E) (.inr 0) (cm n t v ld sh o cd pl ka kb kc, D, E) 1 := by
  refine z_Ev_blk 1 (c' := (1, [some (aR 0 16), some (aI x), some (aI g), some (aI l), some (aI e), some (aI w), none], [aI x], (cm n t v ld sh o cd pl ka kb kc, D, E))) rfl trivial ?_
  refine z_Ev_call0 (m' := m_X4_isSet) (as := [aI x]) (r := []) (e_isSet x (cm n t v ld sh o cd pl ka kb kc) D E) rfl rfl ?_
  refine z_Ev_blk 1 (c' := ((if (f_b (0 ≤ x ∧ x ≤ 3)) = 0 then 32 else 7), [some (aR 0 16), some (aI x), some (aI g), some (aI l), some (aI e), some (aI w), none], [], (cm n t v ld sh o cd pl ka kb kc, D, E))) rfl trivial ?_
  refine z_Ev_ite (fun h1 => ?_) (fun h1 => ?_)
  · replace h1 := f_bZ h1
    refine z_Ev_blk 1 (c' := (33, [some (aR 0 16), some (aI x), some (aI g), some (aI l), some (aI e), some (aI w), none], [aI (0 : Int32)], (cm n t v ld sh o cd pl ka kb kc, D, E))) rfl trivial ?_
    exact z_Ev_thru (e_reqA0 (cm n t v ld sh o cd pl ka kb kc) D E) rfl rfl rfl
  · replace h1 := f_bQ h1
    refine z_Ev_blk 3 (c' := (13, [some (aR 0 16), some (aI x), some (aI g), some (aI l), some (aI e), some (aI w), none], [aI g, aI (500 : Int32), aI (50 : Int32)], (cm n t v ld sh o cd pl ka kb kc, D, E))) rfl trivial ?_
    refine z_Ev_call0 (m' := m_X4_isFrom) (as := [aI (50 : Int32), aI (500 : Int32), aI g]) (r := []) (e_isFrom (50 : Int32) (500 : Int32) g (cm n t v ld sh o cd pl ka kb kc) D E) rfl rfl ?_
    refine z_Ev_blk 1 (c' := ((if (f_b ((50 : Int32) ≤ g ∧ g ≤ (500 : Int32))) = 0 then 32 else 19), [some (aR 0 16), some (aI x), some (aI g), some (aI l), some (aI e), some (aI w), none], [], (cm n t v ld sh o cd pl ka kb kc, D, E))) rfl trivial ?_
    refine z_Ev_ite (fun h2 => ?_) (fun h2 => ?_)
    · replace h2 := f_bZ h2
      refine z_Ev_blk 1 (c' := (33, [some (aR 0 16), some (aI x), some (aI g), some (aI l), some (aI e), some (aI w), none], [aI (0 : Int32)], (cm n t v ld sh o cd pl ka kb kc, D, E))) rfl trivial ?_
      exact z_Ev_thru (e_reqA0 (cm n t v ld sh o cd pl ka kb kc) D E) rfl rfl rfl
    · replace h2 := f_bQ h2
      refine z_Ev_blk 3 (c' := (22, [some (aR 0 16), some (aI x), some (aI g), some (aI l), some (aI e), some (aI w), none], [aI l, aI g, aI (0 : Int32)], (cm n t v ld sh o cd pl ka kb kc, D, E))) rfl trivial ?_
      refine z_Ev_call0 (m' := m_X4_isFrom) (as := [aI (0 : Int32), aI g, aI l]) (r := []) (e_isFrom (0 : Int32) g l (cm n t v ld sh o cd pl ka kb kc) D E) rfl rfl ?_
      refine z_Ev_blk 1 (c' := ((if (f_b ((0 : Int32) ≤ l ∧ l ≤ g)) = 0 then 32 else 28), [some (aR 0 16), some (aI x), some (aI g), some (aI l), some (aI e), some (aI w), none], [], (cm n t v ld sh o cd pl ka kb kc, D, E))) rfl trivial ?_
      refine z_Ev_ite (fun h3 => ?_) (fun h3 => ?_)
      · replace h3 := f_bZ h3
        refine z_Ev_blk 1 (c' := (33, [some (aR 0 16), some (aI x), some (aI g), some (aI l), some (aI e), some (aI w), none], [aI (0 : Int32)], (cm n t v ld sh o cd pl ka kb kc, D, E))) rfl trivial ?_
        exact z_Ev_thru (e_reqA0 (cm n t v ld sh o cd pl ka kb kc) D E) rfl rfl rfl
      · replace h3 := f_bQ h3
        refine z_Ev_blk 2 (c' := (33, [some (aR 0 16), some (aI x), some (aI g), some (aI l), some (aI e), some (aI w), none], [aI (1 : Int32)], (cm n t v ld sh o cd pl ka kb kc, D, E))) rfl trivial ?_
        refine z_Ev_call0 (m' := m_X4_requireArgument) (as := [aI (1 : Int32)]) (r := []) (e_reqA1 (cm n t v ld sh o cd pl ka kb kc) D E) rfl rfl ?_
        refine z_Ev_blk 3 (c' := (41, [some (aR 0 16), some (aI x), some (aI g), some (aI l), some (aI e), some (aI w), none], [aI e, aI (99 : Int32), aI (1 : Int32)], (cm n t v ld sh o cd pl ka kb kc, D, E))) rfl trivial ?_
        refine z_Ev_call0 (m' := m_X4_isFrom) (as := [aI (1 : Int32), aI (99 : Int32), aI e]) (r := []) (e_isFrom (1 : Int32) (99 : Int32) e (cm n t v ld sh o cd pl ka kb kc) D E) rfl rfl ?_
        refine z_Ev_blk 1 (c' := ((if (f_b ((1 : Int32) ≤ e ∧ e ≤ (99 : Int32))) = 0 then 61 else 47), [some (aR 0 16), some (aI x), some (aI g), some (aI l), some (aI e), some (aI w), none], [], (cm n t v ld sh o cd pl ka kb kc, D, E))) rfl trivial ?_
        refine z_Ev_ite (fun h4 => ?_) (fun h4 => ?_)
        · replace h4 := f_bZ h4
          refine z_Ev_blk 1 (c' := (62, [some (aR 0 16), some (aI x), some (aI g), some (aI l), some (aI e), some (aI w), none], [aI (0 : Int32)], (cm n t v ld sh o cd pl ka kb kc, D, E))) rfl trivial ?_
          exact z_Ev_thru (e_reqA0 (cm n t v ld sh o cd pl ka kb kc) D E) rfl rfl rfl
        · replace h4 := f_bQ h4
          refine z_Ev_blk 3 (c' := (51, [some (aR 0 16), some (aI x), some (aI g), some (aI l), some (aI e), some (aI w), none], [aI w, aI (4 : Int32), aI (0 : Int32)], (cm n t v ld sh o cd pl ka kb kc, D, E))) rfl trivial ?_
          refine z_Ev_call0 (m' := m_X4_isFrom) (as := [aI (0 : Int32), aI (4 : Int32), aI w]) (r := []) (e_isFrom (0 : Int32) (4 : Int32) w (cm n t v ld sh o cd pl ka kb kc) D E) rfl rfl ?_
          refine z_Ev_blk 1 (c' := ((if (f_b ((0 : Int32) ≤ w ∧ w ≤ (4 : Int32))) = 0 then 61 else 57), [some (aR 0 16), some (aI x), some (aI g), some (aI l), some (aI e), some (aI w), none], [], (cm n t v ld sh o cd pl ka kb kc, D, E))) rfl trivial ?_
          refine z_Ev_ite (fun h5 => ?_) (fun h5 => ?_)
          · replace h5 := f_bZ h5
            refine z_Ev_blk 1 (c' := (62, [some (aR 0 16), some (aI x), some (aI g), some (aI l), some (aI e), some (aI w), none], [aI (0 : Int32)], (cm n t v ld sh o cd pl ka kb kc, D, E))) rfl trivial ?_
            exact z_Ev_thru (e_reqA0 (cm n t v ld sh o cd pl ka kb kc) D E) rfl rfl rfl
          · replace h5 := f_bQ h5
            refine z_Ev_blk 2 (c' := (62, [some (aR 0 16), some (aI x), some (aI g), some (aI l), some (aI e), some (aI w), none], [aI (1 : Int32)], (cm n t v ld sh o cd pl ka kb kc, D, E))) rfl trivial ?_
            exact absurd ⟨h1, h2, h3, h4, h5⟩ hbad
theorem fp_ok : ∀ a, a < 49 → ∀ b, b < 49 → 0 < b → a ≤ b → (FP.ddiv (FP.i2d (nI a)) (FP.i2d (nI b)) &&& 0x7fffffffffffffff ≤ 0x7ff0000000000000) := by decide +kernel

theorem c_safe {xs : Nat → Int32} {L : Nat} (H a : Nat) (n t : Nat → Int32) (v : Nat → Nat → Int32) (ld sh o cd pl ka kb kc : Nat → Int32) (D : Nat → Nat → Int32) (E : Nat → Int64) (h34 : n 34 = nI H) (hH0 : 0 < H) (hH : H ≤ 48) (ha : sfN n H = nI a) (haH : a ≤ H) : z_Mt xs L m_X4_safeShare [aR 0 16] (cm n t v ld sh o cd pl ka kb kc, D, E) (.inl (some (aD (FP.ddiv (FP.i2d (nI a)) (FP.i2d (nI H)))))) (cm n t v ld sh o cd pl ka kb kc, D, E) 0 := by
  refine z_Ev_blk 3 (c' := (7, [some (aR 0 16)], [aI (n 34)], (cm n t v ld sh o cd pl ka kb kc, D, E))) rfl trivial ?_
  rw [h34]
  refine z_Ev_blk 1 (c' := ((if 0 < (nI H) then 12 else 10), [some (aR 0 16)], [], (cm n t v ld sh o cd pl ka kb kc, D, E))) rfl trivial ?_
  refine z_Ev_if (nI_lt (a := 0) hH0 (by omega)) ?_
  refine z_Ev_blk 2 (c' := (16, [some (aR 0 16)], [aR 0 0], (cm n t v ld sh o cd pl ka kb kc, D, E))) rfl trivial ?_
  refine z_Ev_call0 (m' := m_X1_safeHours) (as := [aR 0 0]) (r := []) ((by have q := c_safeHours_0 (xs := xs) (L := L) n t v ld sh o cd pl ka kb kc D E H h34 hH; rw [ha] at q; exact q)) rfl rfl ?_
  refine z_Ev_blk 4 (c' := (27, [some (aR 0 16)], [aI (n 34), aD (FP.i2d (nI a))], (cm n t v ld sh o cd pl ka kb kc, D, E))) rfl trivial ?_
  rw [h34]
  refine z_Ev_blk 2 (c' := (29, [some (aR 0 16)], [aD (FP.ddiv (FP.i2d (nI a)) (FP.i2d (nI H)))], (cm n t v ld sh o cd pl ka kb kc, D, E))) rfl ⟨(fp_ok a (by omega) H (by omega) hH0 haH), trivial⟩ ?_
  exact z_Ev_dretE rfl rfl (by rfl) (by rfl)
theorem c_safe0 {xs : Nat → Int32} {L : Nat}  (n t : Nat → Int32) (v : Nat → Nat → Int32) (ld sh o cd pl ka kb kc : Nat → Int32) (D : Nat → Nat → Int32) (E : Nat → Int64) (h34 : n 34 = 0) : z_Mt xs L m_X4_safeShare [aR 0 16] (cm n t v ld sh o cd pl ka kb kc, D, E) (.inl (some (aD 0x3ff0000000000000))) (cm n t v ld sh o cd pl ka kb kc, D, E) 0 := by
  refine z_Ev_blk 4 (c' := ((if 0 < (n 34) then 12 else 10), [some (aR 0 16)], [], (cm n t v ld sh o cd pl ka kb kc, D, E))) rfl trivial ?_
  refine z_Ev_else (by rw [h34]; decide) ?_
  refine z_Ev_blk 1 (c' := (11, [some (aR 0 16)], [aD (4607182418800017408 : UInt64)], (cm n t v ld sh o cd pl ka kb kc, D, E))) rfl trivial ?_
  exact z_Ev_dretE rfl rfl (by rfl) (by rfl)

