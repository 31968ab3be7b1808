/-! THE CLASS: looks -/
theorem c_now0 {xs : Nat → Int32} {L : Nat} (h : Nat) (A M : Int32) (LD SH : Nat → Int32) (n t : Nat → Int32) (v : Nat → Nat → Int32) (ld sh o cd pl ka kb kc : Nat → Int32) (D : Nat → Nat → Int32) (E : Nat → Int64) (hh : h < 48) (hN0 : hnF n = nI h) (hA : cld n h = A) (hM : mkF (fun j => n (16 + j)) 2 = M) (hLD : (cGv (cI n) 0 M A ld).1 = LD) (hSH : cOb (cI n) 0 M A ld sh = SH) : z_Mt xs L m_X4_shareOutNow [aR 0 16] (cm n t v ld sh o cd pl ka kb kc, D, E) (.inl (none)) (cm n t v LD SH o cd pl ka kb kc, D, E) 0 := by
  refine z_Ev_blk 9 (c' := (19, [some (aR 0 16)], [aI (2 : Int32), aR 0 1, aR 0 1, aR 0 23], (cm n t v ld sh o cd pl ka kb kc, D, E))) rfl trivial ?_
  refine z_Ev_call0 (m' := m_X0_maskOf) (as := [aR 0 1, aI (2 : Int32)]) (r := [aR 0 1, aR 0 23]) ((by have q := c_maskOf_0 (xs := xs) (L := L) 2 n t v ld sh o cd pl ka kb kc D E; rw [hM] at q; exact q)) rfl rfl ?_
  refine z_Ev_blk 4 (c' := (30, [some (aR 0 16)], [aR 0 0, aR 0 0, aI M, aR 0 1, aR 0 23], (cm n t v ld sh o cd pl ka kb kc, D, E))) rfl trivial ?_
  refine z_Ev_call0 (m' := m_X1_hourOfNow) (as := [aR 0 0]) (r := [aR 0 0, aI M, aR 0 1, aR 0 23]) ((by have q := c_hourOfNow_0 (xs := xs) (L := L) n t v ld sh o cd pl ka kb kc D E; rw [hN0] at q; exact q)) rfl rfl ?_
  refine z_Ev_call0 (m' := m_X1_loadOf) (as := [aR 0 0, aI (nI h)]) (r := [aI M, aR 0 1, aR 0 23]) ((by have q := c_loadOf_0 (xs := xs) (L := L) h n t v ld sh o cd pl ka kb kc D E hh; rw [hA] at q; exact q)) rfl rfl ?_
  refine z_Ev_call0 (m' := m_X3_shareOut) (as := [aR 0 23, aR 0 1, aI M, aI A]) (r := []) (c_share_0 M A n t v ld sh o cd pl ka kb kc D E) rfl rfl ?_
  rw [hLD, hSH]
  exact z_Ev_vretE rfl rfl (by rfl)
theorem c_ifLost0_0 {xs : Nat → Int32} {L : Nat} (h : Nat) (A M : Int32) (LD SH : Nat → Int32) (n t : Nat → Int32) (v : Nat → Nat → Int32) (ld sh o cd pl ka kb kc : Nat → Int32) (D : Nat → Nat → Int32) (E : Nat → Int64) (hh : h < 48) (hN0 : hnF n = nI h) (hA : cld n h = A) (hM : mkF (fun j => n (16 + j)) 2 = M) (hLD : (cGv (cI n) 0 (M &&& (-2)) A ld).1 = LD) (hSH : cOb (cI n) 0 (M &&& (-2)) A ld sh = SH) : z_Mt xs L m_X4_ifLost [aR 0 16, aI (0 : Int32)] (cm n t v ld sh o cd pl ka kb kc, D, E) (.inl (some (aI (SH 1)))) (cm n t v LD SH o cd pl ka kb kc, D, E) 0 := by
  refine z_Ev_blk 1 (c' := (1, [some (aR 0 16), some (aI (0 : Int32)), none], [aI (0 : Int32)], (cm n t v ld sh o cd pl ka kb kc, D, E))) rfl trivial ?_
  refine z_Ev_call0 (m' := m_X4_isSet) (as := [aI (0 : Int32)]) (r := []) ((by have q := e_isSet (xs := xs) (L := L) (0 : Int32) (cm n t v ld sh o cd pl ka kb kc) D E; rw [f_b_t (by decide)] at q; exact q)) rfl rfl ?_
  refine z_Ev_call0 (m' := m_X4_requireArgument) (as := [aI (1 : Int32)]) (r := []) (e_reqA1 (cm n t v ld sh o cd pl ka kb kc) D E) rfl rfl ?_
  refine z_Ev_blk 4 (c' := (15, [some (aR 0 16), some (aI (0 : Int32)), none], [aI (2 : Int32), aR 0 1], (cm n t v ld sh o cd pl ka kb kc, D, E))) rfl trivial ?_
  refine z_Ev_call0 (m' := m_X0_maskOf) (as := [aR 0 1, aI (2 : Int32)]) (r := []) ((by have q := c_maskOf_0 (xs := xs) (L := L) 2 n t v ld sh o cd pl ka kb kc D E; rw [hM] at q; exact q)) rfl rfl ?_
  refine z_Ev_blk 17 (c' := (45, [some (aR 0 16), some (aI (0 : Int32)), some (aI (M &&& (-2 : Int32)))], [aR 0 0, aR 0 0, aI (M &&& (-2 : Int32)), aR 0 1, aR 0 23], (cm n t v ld sh o cd pl ka kb kc, D, E))) rfl trivial ?_
  refine z_Ev_call0 (m' := m_X1_hourOfNow) (as := [aR 0 0]) (r := [aR 0 0, aI (M &&& (-2 : Int32)), aR 0 1, aR 0 23]) ((by have q := c_hourOfNow_0 (xs := xs) (L := L) n t v ld sh o cd pl ka kb kc D E; rw [hN0] at q; exact q)) rfl rfl ?_
  refine z_Ev_call0 (m' := m_X1_loadOf) (as := [aR 0 0, aI (nI h)]) (r := [aI (M &&& (-2 : Int32)), aR 0 1, aR 0 23]) ((by have q := c_loadOf_0 (xs := xs) (L := L) h n t v ld sh o cd pl ka kb kc D E hh; rw [hA] at q; exact q)) rfl rfl ?_
  refine z_Ev_call0 (m' := m_X3_shareOut) (as := [aR 0 23, aR 0 1, aI (M &&& (-2 : Int32)), aI A]) (r := []) (c_share_0 (M &&& (-2 : Int32)) A n t v ld sh o cd pl ka kb kc D E) rfl rfl ?_
  rw [hLD, hSH]
  refine z_Ev_blk 3 (c' := (61, [some (aR 0 16), some (aI (0 : Int32)), some (aI (M &&& (-2 : Int32)))], [aI (SH 1)], (cm n t v LD SH o cd pl ka kb kc, D, E))) rfl trivial ?_
  exact z_Ev_iretE rfl rfl (by rfl) (by rfl)
theorem c_ifLost0_1 {xs : Nat → Int32} {L : Nat} (h : Nat) (A M : Int32) (LD SH : Nat → Int32) (n t : Nat → Int32) (v : Nat → Nat → Int32) (ld sh o cd pl ka kb kc : Nat → Int32) (D : Nat → Nat → Int32) (E : Nat → Int64) (hh : h < 48) (hN0 : hnF n = nI h) (hA : cld n h = A) (hM : mkF (fun j => n (16 + j)) 2 = M) (hLD : (cGv (cI n) 0 (M &&& (-3)) A ld).1 = LD) (hSH : cOb (cI n) 0 (M &&& (-3)) A ld sh = SH) : z_Mt xs L m_X4_ifLost [aR 0 16, aI (1 : Int32)] (cm n t v ld sh o cd pl ka kb kc, D, E) (.inl (some (aI (SH 1)))) (cm n t v LD SH o cd pl ka kb kc, D, E) 0 := by
  refine z_Ev_blk 1 (c' := (1, [some (aR 0 16), some (aI (1 : Int32)), none], [aI (1 : Int32)], (cm n t v ld sh o cd pl ka kb kc, D, E))) rfl trivial ?_
  refine z_Ev_call0 (m' := m_X4_isSet) (as := [aI (1 : Int32)]) (r := []) ((by have q := e_isSet (xs := xs) (L := L) (1 : Int32) (cm n t v ld sh o cd pl ka kb kc) D E; rw [f_b_t (by decide)] at q; exact q)) rfl rfl ?_
  refine z_Ev_call0 (m' := m_X4_requireArgument) (as := [aI (1 : Int32)]) (r := []) (e_reqA1 (cm n t v ld sh o cd pl ka kb kc) D E) rfl rfl ?_
  refine z_Ev_blk 4 (c' := (15, [some (aR 0 16), some (aI (1 : Int32)), none], [aI (2 : Int32), aR 0 1], (cm n t v ld sh o cd pl ka kb kc, D, E))) rfl trivial ?_
  refine z_Ev_call0 (m' := m_X0_maskOf) (as := [aR 0 1, aI (2 : Int32)]) (r := []) ((by have q := c_maskOf_0 (xs := xs) (L := L) 2 n t v ld sh o cd pl ka kb kc D E; rw [hM] at q; exact q)) rfl rfl ?_
  refine z_Ev_blk 17 (c' := (45, [some (aR 0 16), some (aI (1 : Int32)), some (aI (M &&& (-3 : Int32)))], [aR 0 0, aR 0 0, aI (M &&& (-3 : Int32)), aR 0 1, aR 0 23], (cm n t v ld sh o cd pl ka kb kc, D, E))) rfl trivial ?_
  refine z_Ev_call0 (m' := m_X1_hourOfNow) (as := [aR 0 0]) (r := [aR 0 0, aI (M &&& (-3 : Int32)), aR 0 1, aR 0 23]) ((by have q := c_hourOfNow_0 (xs := xs) (L := L) n t v ld sh o cd pl ka kb kc D E; rw [hN0] at q; exact q)) rfl rfl ?_
  refine z_Ev_call0 (m' := m_X1_loadOf) (as := [aR 0 0, aI (nI h)]) (r := [aI (M &&& (-3 : Int32)), aR 0 1, aR 0 23]) ((by have q := c_loadOf_0 (xs := xs) (L := L) h n t v ld sh o cd pl ka kb kc D E hh; rw [hA] at q; exact q)) rfl rfl ?_
  refine z_Ev_call0 (m' := m_X3_shareOut) (as := [aR 0 23, aR 0 1, aI (M &&& (-3 : Int32)), aI A]) (r := []) (c_share_0 (M &&& (-3 : Int32)) A n t v ld sh o cd pl ka kb kc D E) rfl rfl ?_
  rw [hLD, hSH]
  refine z_Ev_blk 3 (c' := (61, [some (aR 0 16), some (aI (1 : Int32)), some (aI (M &&& (-3 : Int32)))], [aI (SH 1)], (cm n t v LD SH o cd pl ka kb kc, D, E))) rfl trivial ?_
  exact z_Ev_iretE rfl rfl (by rfl) (by rfl)
theorem c_ifLost0_2 {xs : Nat → Int32} {L : Nat} (h : Nat) (A M : Int32) (LD SH : Nat → Int32) (n t : Nat → Int32) (v : Nat → Nat → Int32) (ld sh o cd pl ka kb kc : Nat → Int32) (D : Nat → Nat → Int32) (E : Nat → Int64) (hh : h < 48) (hN0 : hnF n = nI h) (hA : cld n h = A) (hM : mkF (fun j => n (16 + j)) 2 = M) (hLD : (cGv (cI n) 0 (M &&& (-5)) A ld).1 = LD) (hSH : cOb (cI n) 0 (M &&& (-5)) A ld sh = SH) : z_Mt xs L m_X4_ifLost [aR 0 16, aI (2 : Int32)] (cm n t v ld sh o cd pl ka kb kc, D, E) (.inl (some (aI (SH 1)))) (cm n t v LD SH o cd pl ka kb kc, D, E) 0 := by
  refine z_Ev_blk 1 (c' := (1, [some (aR 0 16), some (aI (2 : Int32)), none], [aI (2 : Int32)], (cm n t v ld sh o cd pl ka kb kc, D, E))) rfl trivial ?_
  refine z_Ev_call0 (m' := m_X4_isSet) (as := [aI (2 : Int32)]) (r := []) ((by have q := e_isSet (xs := xs) (L := L) (2 : Int32) (cm n t v ld sh o cd pl ka kb kc) D E; rw [f_b_t (by decide)] at q; exact q)) rfl rfl ?_
  refine z_Ev_call0 (m' := m_X4_requireArgument) (as := [aI (1 : Int32)]) (r := []) (e_reqA1 (cm n t v ld sh o cd pl ka kb kc) D E) rfl rfl ?_
  refine z_Ev_blk 4 (c' := (15, [some (aR 0 16), some (aI (2 : Int32)), none], [aI (2 : Int32), aR 0 1], (cm n t v ld sh o cd pl ka kb kc, D, E))) rfl trivial ?_
  refine z_Ev_call0 (m' := m_X0_maskOf) (as := [aR 0 1, aI (2 : Int32)]) (r := []) ((by have q := c_maskOf_0 (xs := xs) (L := L) 2 n t v ld sh o cd pl ka kb kc D E; rw [hM] at q; exact q)) rfl rfl ?_
  refine z_Ev_blk 17 (c' := (45, [some (aR 0 16), some (aI (2 : Int32)), some (aI (M &&& (-5 : Int32)))], [aR 0 0, aR 0 0, aI (M &&& (-5 : Int32)), aR 0 1, aR 0 23], (cm n t v ld sh o cd pl ka kb kc, D, E))) rfl trivial ?_
  refine z_Ev_call0 (m' := m_X1_hourOfNow) (as := [aR 0 0]) (r := [aR 0 0, aI (M &&& (-5 : Int32)), aR 0 1, aR 0 23]) ((by have q := c_hourOfNow_0 (xs := xs) (L := L) n t v ld sh o cd pl ka kb kc D E; rw [hN0] at q; exact q)) rfl rfl ?_
  refine z_Ev_call0 (m' := m_X1_loadOf) (as := [aR 0 0, aI (nI h)]) (r := [aI (M &&& (-5 : Int32)), aR 0 1, aR 0 23]) ((by have q := c_loadOf_0 (xs := xs) (L := L) h n t v ld sh o cd pl ka kb kc D E hh; rw [hA] at q; exact q)) rfl rfl ?_
  refine z_Ev_call0 (m' := m_X3_shareOut) (as := [aR 0 23, aR 0 1, aI (M &&& (-5 : Int32)), aI A]) (r := []) (c_share_0 (M &&& (-5 : Int32)) A n t v ld sh o cd pl ka kb kc D E) rfl rfl ?_
  rw [hLD, hSH]
  refine z_Ev_blk 3 (c' := (61, [some (aR 0 16), some (aI (2 : Int32)), some (aI (M &&& (-5 : Int32)))], [aI (SH 1)], (cm n t v LD SH o cd pl ka kb kc, D, E))) rfl trivial ?_
  exact z_Ev_iretE rfl rfl (by rfl) (by rfl)
theorem c_ifLost0_3 {xs : Nat → Int32} {L : Nat} (h : Nat) (A M : Int32) (LD SH : Nat → Int32) (n t : Nat → Int32) (v : Nat → Nat → Int32) (ld sh o cd pl ka kb kc : Nat → Int32) (D : Nat → Nat → Int32) (E : Nat → Int64) (hh : h < 48) (hN0 : hnF n = nI h) (hA : cld n h = A) (hM : mkF (fun j => n (16 + j)) 2 = M) (hLD : (cGv (cI n) 0 (M &&& (-9)) A ld).1 = LD) (hSH : cOb (cI n) 0 (M &&& (-9)) A ld sh = SH) : z_Mt xs L m_X4_ifLost [aR 0 16, aI (3 : Int32)] (cm n t v ld sh o cd pl ka kb kc, D, E) (.inl (some (aI (SH 1)))) (cm n t v LD SH o cd pl ka kb kc, D, E) 0 := by
  refine z_Ev_blk 1 (c' := (1, [some (aR 0 16), some (aI (3 : Int32)), none], [aI (3 : Int32)], (cm n t v ld sh o cd pl ka kb kc, D, E))) rfl trivial ?_
  refine z_Ev_call0 (m' := m_X4_isSet) (as := [aI (3 : Int32)]) (r := []) ((by have q := e_isSet (xs := xs) (L := L) (3 : Int32) (cm n t v ld sh o cd pl ka kb kc) D E; rw [f_b_t (by decide)] at q; exact q)) rfl rfl ?_
  refine z_Ev_call0 (m' := m_X4_requireArgument) (as := [aI (1 : Int32)]) (r := []) (e_reqA1 (cm n t v ld sh o cd pl ka kb kc) D E) rfl rfl ?_
  refine z_Ev_blk 4 (c' := (15, [some (aR 0 16), some (aI (3 : Int32)), none], [aI (2 : Int32), aR 0 1], (cm n t v ld sh o cd pl ka kb kc, D, E))) rfl trivial ?_
  refine z_Ev_call0 (m' := m_X0_maskOf) (as := [aR 0 1, aI (2 : Int32)]) (r := []) ((by have q := c_maskOf_0 (xs := xs) (L := L) 2 n t v ld sh o cd pl ka kb kc D E; rw [hM] at q; exact q)) rfl rfl ?_
  refine z_Ev_blk 17 (c' := (45, [some (aR 0 16), some (aI (3 : Int32)), some (aI (M &&& (-9 : Int32)))], [aR 0 0, aR 0 0, aI (M &&& (-9 : Int32)), aR 0 1, aR 0 23], (cm n t v ld sh o cd pl ka kb kc, D, E))) rfl trivial ?_
  refine z_Ev_call0 (m' := m_X1_hourOfNow) (as := [aR 0 0]) (r := [aR 0 0, aI (M &&& (-9 : Int32)), aR 0 1, aR 0 23]) ((by have q := c_hourOfNow_0 (xs := xs) (L := L) n t v ld sh o cd pl ka kb kc D E; rw [hN0] at q; exact q)) rfl rfl ?_
  refine z_Ev_call0 (m' := m_X1_loadOf) (as := [aR 0 0, aI (nI h)]) (r := [aI (M &&& (-9 : Int32)), aR 0 1, aR 0 23]) ((by have q := c_loadOf_0 (xs := xs) (L := L) h n t v ld sh o cd pl ka kb kc D E hh; rw [hA] at q; exact q)) rfl rfl ?_
  refine z_Ev_call0 (m' := m_X3_shareOut) (as := [aR 0 23, aR 0 1, aI (M &&& (-9 : Int32)), aI A]) (r := []) (c_share_0 (M &&& (-9 : Int32)) A n t v ld sh o cd pl ka kb kc D E) rfl rfl ?_
  rw [hLD, hSH]
  refine z_Ev_blk 3 (c' := (61, [some (aR 0 16), some (aI (3 : Int32)), some (aI (M &&& (-9 : Int32)))], [aI (SH 1)], (cm n t v LD SH o cd pl ka kb kc, D, E))) rfl trivial ?_
  exact z_Ev_iretE rfl rfl (by rfl) (by rfl)
theorem c_ifLostA {xs : Nat → Int32} {L : Nat} (x : Int32) (n t : Nat → Int32) (v : Nat → Nat → Int32) (ld sh o cd pl ka kb kc : Nat → Int32) (D : Nat → Nat → Int32) (E : Nat → Int64) (hbad : ¬ (0 ≤ x ∧ x ≤ 3)) : z_Mt xs L m_X4_ifLost [aR 0 16, aI x] (cm n t v ld sh o cd pl ka kb kc, D, E) (.inr 0) (cm n t v ld sh o cd pl ka kb kc, D, E) 1 := by
  refine z_Ev_blk 1 (c' := (1, [some (aR 0 16), some (aI x), none], [aI x], (cm n t v ld sh o cd pl ka kb kc, D, E))) rfl trivial ?_
  refine z_Ev_call0 (m' := m_X4_isSet) (as := [aI x]) (r := []) ((by have q := e_isSet (xs := xs) (L := L) x (cm n t v ld sh o cd pl ka kb kc) D E; rw [f_b_f (hbad)] at q; exact q)) rfl rfl ?_
  exact z_Ev_thru (e_reqA0 (cm n t v ld sh o cd pl ka kb kc) D E) rfl rfl rfl
theorem c_count0_0 {xs : Nat → Int32} {L : Nat}  (n t : Nat → Int32) (v : Nat → Nat → Int32) (ld sh o cd pl ka kb kc : Nat → Int32) (D : Nat → Nat → Int32) (E : Nat → Int64)  : z_Mt xs L m_X4_count [aR 0 16, aI (0 : Int32)] (cm n t v ld sh o cd pl ka kb kc, D, E) (.inl (some (aI (n 34)))) (cm n t v ld sh o cd pl ka kb kc, D, E) 0 := by
  refine z_Ev_blk 3 (c' := (4, [some (aR 0 16), some (aI (0 : Int32))], [aI (0 : Int32), aI (14 : Int32), aI (0 : Int32)], (cm n t v ld sh o cd pl ka kb kc, D, E))) rfl trivial ?_
  refine z_Ev_call0 (m' := m_X4_isFrom) (as := [aI (0 : Int32), aI (14 : Int32), aI (0 : Int32)]) (r := []) ((by have q := e_isFrom (xs := xs) (L := L) (0 : Int32) (14 : Int32) (0 : Int32) (cm n t v ld sh o cd pl ka kb kc) D E; rw [f_b_t (by decide)] at q; exact q)) rfl rfl ?_
  refine z_Ev_call0 (m' := m_X4_requireArgument) (as := [aI (1 : Int32)]) (r := []) (e_reqA1 (cm n t v ld sh o cd pl ka kb kc) D E) rfl rfl ?_
  refine z_Ev_blk 2 (c' := (80, [some (aR 0 16), some (aI (0 : Int32))], [], (cm n t v ld sh o cd pl ka kb kc, D, E))) rfl trivial ?_
  refine z_Ev_blk 3 (c' := (87, [some (aR 0 16), some (aI (0 : Int32))], [aI (n 34)], (cm n t v ld sh o cd pl ka kb kc, D, E))) rfl trivial ?_
  exact z_Ev_iretE rfl rfl (by rfl) (by rfl)
theorem c_count0_1 {xs : Nat → Int32} {L : Nat}  (n t : Nat → Int32) (v : Nat → Nat → Int32) (ld sh o cd pl ka kb kc : Nat → Int32) (D : Nat → Nat → Int32) (E : Nat → Int64)  : z_Mt xs L m_X4_count [aR 0 16, aI (1 : Int32)] (cm n t v ld sh o cd pl ka kb kc, D, E) (.inl (some (aI (bcF (mkF (fun j => n (16 + j)) 2))))) (cm n t v ld sh o cd pl ka kb kc, D, E) 0 := by
  refine z_Ev_blk 3 (c' := (4, [some (aR 0 16), some (aI (1 : Int32))], [aI (1 : Int32), aI (14 : Int32), aI (0 : Int32)], (cm n t v ld sh o cd pl ka kb kc, D, E))) rfl trivial ?_
  refine z_Ev_call0 (m' := m_X4_isFrom) (as := [aI (0 : Int32), aI (14 : Int32), aI (1 : Int32)]) (r := []) ((by have q := e_isFrom (xs := xs) (L := L) (0 : Int32) (14 : Int32) (1 : Int32) (cm n t v ld sh o cd pl ka kb kc) D E; rw [f_b_t (by decide)] at q; exact q)) rfl rfl ?_
  refine z_Ev_call0 (m' := m_X4_requireArgument) (as := [aI (1 : Int32)]) (r := []) (e_reqA1 (cm n t v ld sh o cd pl ka kb kc) D E) rfl rfl ?_
  refine z_Ev_blk 2 (c' := (88, [some (aR 0 16), some (aI (1 : Int32))], [], (cm n t v ld sh o cd pl ka kb kc, D, E))) rfl trivial ?_
  refine z_Ev_blk 4 (c' := (96, [some (aR 0 16), some (aI (1 : Int32))], [aI (2 : Int32), aR 0 1], (cm n t v ld sh o cd pl ka kb kc, D, E))) rfl trivial ?_
  refine z_Ev_call0 (m' := m_X0_sizeOf) (as := [aR 0 1, aI (2 : Int32)]) (r := []) (c_sizeOf (2 : Int32) n t v ld sh o cd pl ka kb kc D E) rfl rfl ?_
  exact z_Ev_iretE rfl rfl (by rfl) (by rfl)
theorem c_count0_2 {xs : Nat → Int32} {L : Nat}  (n t : Nat → Int32) (v : Nat → Nat → Int32) (ld sh o cd pl ka kb kc : Nat → Int32) (D : Nat → Nat → Int32) (E : Nat → Int64)  : z_Mt xs L m_X4_count [aR 0 16, aI (2 : Int32)] (cm n t v ld sh o cd pl ka kb kc, D, E) (.inl (some (aI (bcF (mkF (fun j => n (16 + j)) 1))))) (cm n t v ld sh o cd pl ka kb kc, D, E) 0 := by
  refine z_Ev_blk 3 (c' := (4, [some (aR 0 16), some (aI (2 : Int32))], [aI (2 : Int32), aI (14 : Int32), aI (0 : Int32)], (cm n t v ld sh o cd pl ka kb kc, D, E))) rfl trivial ?_
  refine z_Ev_call0 (m' := m_X4_isFrom) (as := [aI (0 : Int32), aI (14 : Int32), aI (2 : Int32)]) (r := []) ((by have q := e_isFrom (xs := xs) (L := L) (0 : Int32) (14 : Int32) (2 : Int32) (cm n t v ld sh o cd pl ka kb kc) D E; rw [f_b_t (by decide)] at q; exact q)) rfl rfl ?_
  refine z_Ev_call0 (m' := m_X4_requireArgument) (as := [aI (1 : Int32)]) (r := []) (e_reqA1 (cm n t v ld sh o cd pl ka kb kc) D E) rfl rfl ?_
  refine z_Ev_blk 2 (c' := (100, [some (aR 0 16), some (aI (2 : Int32))], [], (cm n t v ld sh o cd pl ka kb kc, D, E))) rfl trivial ?_
  refine z_Ev_blk 4 (c' := (108, [some (aR 0 16), some (aI (2 : Int32))], [aI (1 : Int32), aR 0 1], (cm n t v ld sh o cd pl ka kb kc, D, E))) rfl trivial ?_
  refine z_Ev_call0 (m' := m_X0_sizeOf) (as := [aR 0 1, aI (1 : Int32)]) (r := []) (c_sizeOf (1 : Int32) n t v ld sh o cd pl ka kb kc D E) rfl rfl ?_
  exact z_Ev_iretE rfl rfl (by rfl) (by rfl)
theorem c_count0_3 {xs : Nat → Int32} {L : Nat} (h : Nat) (A : Int32) (n t : Nat → Int32) (v : Nat → Nat → Int32) (ld sh o cd pl ka kb kc : Nat → Int32) (D : Nat → Nat → Int32) (E : Nat → Int64) (hh : h < 48) (hN0 : hnF n = nI h) (hA : cld n h = A) : z_Mt xs L m_X4_count [aR 0 16, aI (3 : Int32)] (cm n t v ld sh o cd pl ka kb kc, D, E) (.inl (some (aI (A)))) (cm n t v ld sh o cd pl ka kb kc, D, E) 0 := by
  refine z_Ev_blk 3 (c' := (4, [some (aR 0 16), some (aI (3 : Int32))], [aI (3 : Int32), aI (14 : Int32), aI (0 : Int32)], (cm n t v ld sh o cd pl ka kb kc, D, E))) rfl trivial ?_
  refine z_Ev_call0 (m' := m_X4_isFrom) (as := [aI (0 : Int32), aI (14 : Int32), aI (3 : Int32)]) (r := []) ((by have q := e_isFrom (xs := xs) (L := L) (0 : Int32) (14 : Int32) (3 : Int32) (cm n t v ld sh o cd pl ka kb kc) D E; rw [f_b_t (by decide)] at q; exact q)) rfl rfl ?_
  refine z_Ev_call0 (m' := m_X4_requireArgument) (as := [aI (1 : Int32)]) (r := []) (e_reqA1 (cm n t v ld sh o cd pl ka kb kc) D E) rfl rfl ?_
  refine z_Ev_blk 2 (c' := (112, [some (aR 0 16), some (aI (3 : Int32))], [], (cm n t v ld sh o cd pl ka kb kc, D, E))) rfl trivial ?_
  refine z_Ev_blk 4 (c' := (120, [some (aR 0 16), some (aI (3 : Int32))], [aR 0 0, aR 0 0], (cm n t v ld sh o cd pl ka kb kc, D, E))) rfl trivial ?_
  refine z_Ev_call0 (m' := m_X1_hourOfNow) (as := [aR 0 0]) (r := [aR 0 0]) ((by have q := c_hourOfNow_0 (xs := xs) (L := L) n t v ld sh o cd pl ka kb kc D E; rw [hN0] at q; exact q)) rfl rfl ?_
  refine z_Ev_call0 (m' := m_X1_loadOf) (as := [aR 0 0, aI (nI h)]) (r := []) ((by have q := c_loadOf_0 (xs := xs) (L := L) h n t v ld sh o cd pl ka kb kc D E hh; rw [hA] at q; exact q)) rfl rfl ?_
  exact z_Ev_iretE rfl rfl (by rfl) (by rfl)
theorem c_count0_4 {xs : Nat → Int32} {L : Nat} (LD SH : Nat → Int32) (n t : Nat → Int32) (v : Nat → Nat → Int32) (ld sh o cd pl ka kb kc : Nat → Int32) (D : Nat → Nat → Int32) (E : Nat → Int64) (hN : z_Mt xs L m_X4_shareOutNow [aR 0 16] (cm n t v ld sh o cd pl ka kb kc, D, E) (.inl none) (cm n t v LD SH o cd pl ka kb kc, D, E) 0) : z_Mt xs L m_X4_count [aR 0 16, aI (4 : Int32)] (cm n t v ld sh o cd pl ka kb kc, D, E) (.inl (some (aI (SH 1)))) (cm n t v LD SH o cd pl ka kb kc, D, E) 0 := by
  refine z_Ev_blk 3 (c' := (4, [some (aR 0 16), some (aI (4 : Int32))], [aI (4 : Int32), aI (14 : Int32), aI (0 : Int32)], (cm n t v ld sh o cd pl ka kb kc, D, E))) rfl trivial ?_
  refine z_Ev_call0 (m' := m_X4_isFrom) (as := [aI (0 : Int32), aI (14 : Int32), aI (4 : Int32)]) (r := []) ((by have q := e_isFrom (xs := xs) (L := L) (0 : Int32) (14 : Int32) (4 : Int32) (cm n t v ld sh o cd pl ka kb kc) D E; rw [f_b_t (by decide)] at q; exact q)) rfl rfl ?_
  refine z_Ev_call0 (m' := m_X4_requireArgument) (as := [aI (1 : Int32)]) (r := []) (e_reqA1 (cm n t v ld sh o cd pl ka kb kc) D E) rfl rfl ?_
  refine z_Ev_blk 2 (c' := (127, [some (aR 0 16), some (aI (4 : Int32))], [], (cm n t v ld sh o cd pl ka kb kc, D, E))) rfl trivial ?_
  refine z_Ev_blk 1 (c' := (128, [some (aR 0 16), some (aI (4 : Int32))], [aR 0 16], (cm n t v ld sh o cd pl ka kb kc, D, E))) rfl trivial ?_
  refine z_Ev_call0 (m' := m_X4_shareOutNow) (as := [aR 0 16]) (r := []) (hN) rfl rfl ?_
  refine z_Ev_blk 3 (c' := (138, [some (aR 0 16), some (aI (4 : Int32))], [aI (SH 1)], (cm n t v LD SH o cd pl ka kb kc, D, E))) rfl trivial ?_
  exact z_Ev_iretE rfl rfl (by rfl) (by rfl)
theorem c_count0_5 {xs : Nat → Int32} {L : Nat} (LD SH : Nat → Int32) (n t : Nat → Int32) (v : Nat → Nat → Int32) (ld sh o cd pl ka kb kc : Nat → Int32) (D : Nat → Nat → Int32) (E : Nat → Int64) (hN : z_Mt xs L m_X4_shareOutNow [aR 0 16] (cm n t v ld sh o cd pl ka kb kc, D, E) (.inl none) (cm n t v LD SH o cd pl ka kb kc, D, E) 0) : z_Mt xs L m_X4_count [aR 0 16, aI (5 : Int32)] (cm n t v ld sh o cd pl ka kb kc, D, E) (.inl (some (aI (SH 2)))) (cm n t v LD SH o cd pl ka kb kc, D, E) 0 := by
  refine z_Ev_blk 3 (c' := (4, [some (aR 0 16), some (aI (5 : Int32))], [aI (5 : Int32), aI (14 : Int32), aI (0 : Int32)], (cm n t v ld sh o cd pl ka kb kc, D, E))) rfl trivial ?_
  refine z_Ev_call0 (m' := m_X4_isFrom) (as := [aI (0 : Int32), aI (14 : Int32), aI (5 : Int32)]) (r := []) ((by have q := e_isFrom (xs := xs) (L := L) (0 : Int32) (14 : Int32) (5 : Int32) (cm n t v ld sh o cd pl ka kb kc) D E; rw [f_b_t (by decide)] at q; exact q)) rfl rfl ?_
  refine z_Ev_call0 (m' := m_X4_requireArgument) (as := [aI (1 : Int32)]) (r := []) (e_reqA1 (cm n t v ld sh o cd pl ka kb kc) D E) rfl rfl ?_
  refine z_Ev_blk 2 (c' := (139, [some (aR 0 16), some (aI (5 : Int32))], [], (cm n t v ld sh o cd pl ka kb kc, D, E))) rfl trivial ?_
  refine z_Ev_blk 1 (c' := (140, [some (aR 0 16), some (aI (5 : Int32))], [aR 0 16], (cm n t v ld sh o cd pl ka kb kc, D, E))) rfl trivial ?_
  refine z_Ev_call0 (m' := m_X4_shareOutNow) (as := [aR 0 16]) (r := []) (hN) rfl rfl ?_
  refine z_Ev_blk 3 (c' := (150, [some (aR 0 16), some (aI (5 : Int32))], [aI (SH 2)], (cm n t v LD SH o cd pl ka kb kc, D, E))) rfl trivial ?_
  exact z_Ev_iretE rfl rfl (by rfl) (by rfl)
theorem c_count0_6 {xs : Nat → Int32} {L : Nat} (LD SH : Nat → Int32) (n t : Nat → Int32) (v : Nat → Nat → Int32) (ld sh o cd pl ka kb kc : Nat → Int32) (D : Nat → Nat → Int32) (E : Nat → Int64) (hN : z_Mt xs L m_X4_shareOutNow [aR 0 16] (cm n t v ld sh o cd pl ka kb kc, D, E) (.inl none) (cm n t v LD SH o cd pl ka kb kc, D, E) 0) : z_Mt xs L m_X4_count [aR 0 16, aI (6 : Int32)] (cm n t v ld sh o cd pl ka kb kc, D, E) (.inl (some (aI (SH 3)))) (cm n t v LD SH o cd pl ka kb kc, D, E) 0 := by
  refine z_Ev_blk 3 (c' := (4, [some (aR 0 16), some (aI (6 : Int32))], [aI (6 : Int32), aI (14 : Int32), aI (0 : Int32)], (cm n t v ld sh o cd pl ka kb kc, D, E))) rfl trivial ?_
  refine z_Ev_call0 (m' := m_X4_isFrom) (as := [aI (0 : Int32), aI (14 : Int32), aI (6 : Int32)]) (r := []) ((by have q := e_isFrom (xs := xs) (L := L) (0 : Int32) (14 : Int32) (6 : Int32) (cm n t v ld sh o cd pl ka kb kc) D E; rw [f_b_t (by decide)] at q; exact q)) rfl rfl ?_
  refine z_Ev_call0 (m' := m_X4_requireArgument) (as := [aI (1 : Int32)]) (r := []) (e_reqA1 (cm n t v ld sh o cd pl ka kb kc) D E) rfl rfl ?_
  refine z_Ev_blk 2 (c' := (151, [some (aR 0 16), some (aI (6 : Int32))], [], (cm n t v ld sh o cd pl ka kb kc, D, E))) rfl trivial ?_
  refine z_Ev_blk 1 (c' := (152, [some (aR 0 16), some (aI (6 : Int32))], [aR 0 16], (cm n t v ld sh o cd pl ka kb kc, D, E))) rfl trivial ?_
  refine z_Ev_call0 (m' := m_X4_shareOutNow) (as := [aR 0 16]) (r := []) (hN) rfl rfl ?_
  refine z_Ev_blk 3 (c' := (162, [some (aR 0 16), some (aI (6 : Int32))], [aI (SH 3)], (cm n t v LD SH o cd pl ka kb kc, D, E))) rfl trivial ?_
  exact z_Ev_iretE rfl rfl (by rfl) (by rfl)
theorem c_count0_7 {xs : Nat → Int32} {L : Nat} (LD SH : Nat → Int32) (n t : Nat → Int32) (v : Nat → Nat → Int32) (ld sh o cd pl ka kb kc : Nat → Int32) (D : Nat → Nat → Int32) (E : Nat → Int64) (hN : z_Mt xs L m_X4_shareOutNow [aR 0 16] (cm n t v ld sh o cd pl ka kb kc, D, E) (.inl none) (cm n t v LD SH o cd pl ka kb kc, D, E) 0) : z_Mt xs L m_X4_count [aR 0 16, aI (7 : Int32)] (cm n t v ld sh o cd pl ka kb kc, D, E) (.inl (some (aI (if SH 4 = 0 then 0 else 1)))) (cm n t v LD SH o cd pl ka kb kc, D, E) 0 := by
  refine z_Ev_blk 3 (c' := (4, [some (aR 0 16), some (aI (7 : Int32))], [aI (7 : Int32), aI (14 : Int32), aI (0 : Int32)], (cm n t v ld sh o cd pl ka kb kc, D, E))) rfl trivial ?_
  refine z_Ev_call0 (m' := m_X4_isFrom) (as := [aI (0 : Int32), aI (14 : Int32), aI (7 : Int32)]) (r := []) ((by have q := e_isFrom (xs := xs) (L := L) (0 : Int32) (14 : Int32) (7 : Int32) (cm n t v ld sh o cd pl ka kb kc) D E; rw [f_b_t (by decide)] at q; exact q)) rfl rfl ?_
  refine z_Ev_call0 (m' := m_X4_requireArgument) (as := [aI (1 : Int32)]) (r := []) (e_reqA1 (cm n t v ld sh o cd pl ka kb kc) D E) rfl rfl ?_
  refine z_Ev_blk 2 (c' := (163, [some (aR 0 16), some (aI (7 : Int32))], [], (cm n t v ld sh o cd pl ka kb kc, D, E))) rfl trivial ?_
  refine z_Ev_blk 1 (c' := (164, [some (aR 0 16), some (aI (7 : Int32))], [aR 0 16], (cm n t v ld sh o cd pl ka kb kc, D, E))) rfl trivial ?_
  refine z_Ev_call0 (m' := m_X4_shareOutNow) (as := [aR 0 16]) (r := []) (hN) rfl rfl ?_
  refine z_Ev_blk 3 (c' := (174, [some (aR 0 16), some (aI (7 : Int32))], [aI (SH 4)], (cm n t v LD SH o cd pl ka kb kc, D, E))) rfl trivial ?_
  refine z_Ev_call0 (m' := m_X4_oneIf) (as := [aI (SH 4)]) (r := []) (e_oneIf (SH 4) (cm n t v LD SH o cd pl ka kb kc) D E) rfl rfl ?_
  exact z_Ev_iretE rfl rfl (by rfl) (by rfl)
theorem c_count0_8 {xs : Nat → Int32} {L : Nat}  (n t : Nat → Int32) (v : Nat → Nat → Int32) (ld sh o cd pl ka kb kc : Nat → Int32) (D : Nat → Nat → Int32) (E : Nat → Int64)  : z_Mt xs L m_X4_count [aR 0 16, aI (8 : Int32)] (cm n t v ld sh o cd pl ka kb kc, D, E) (.inl (some (aI (n 35)))) (cm n t v ld sh o cd pl ka kb kc, D, E) 0 := by
  refine z_Ev_blk 3 (c' := (4, [some (aR 0 16), some (aI (8 : Int32))], [aI (8 : Int32), aI (14 : Int32), aI (0 : Int32)], (cm n t v ld sh o cd pl ka kb kc, D, E))) rfl trivial ?_
  refine z_Ev_call0 (m' := m_X4_isFrom) (as := [aI (0 : Int32), aI (14 : Int32), aI (8 : Int32)]) (r := []) ((by have q := e_isFrom (xs := xs) (L := L) (0 : Int32) (14 : Int32) (8 : Int32) (cm n t v ld sh o cd pl ka kb kc) D E; rw [f_b_t (by decide)] at q; exact q)) rfl rfl ?_
  refine z_Ev_call0 (m' := m_X4_requireArgument) (as := [aI (1 : Int32)]) (r := []) (e_reqA1 (cm n t v ld sh o cd pl ka kb kc) D E) rfl rfl ?_
  refine z_Ev_blk 2 (c' := (178, [some (aR 0 16), some (aI (8 : Int32))], [], (cm n t v ld sh o cd pl ka kb kc, D, E))) rfl trivial ?_
  refine z_Ev_blk 3 (c' := (185, [some (aR 0 16), some (aI (8 : Int32))], [aI (n 35)], (cm n t v ld sh o cd pl ka kb kc, D, E))) rfl trivial ?_
  exact z_Ev_iretE rfl rfl (by rfl) (by rfl)
theorem c_count0_9 {xs : Nat → Int32} {L : Nat}  (n t : Nat → Int32) (v : Nat → Nat → Int32) (ld sh o cd pl ka kb kc : Nat → Int32) (D : Nat → Nat → Int32) (E : Nat → Int64)  : z_Mt xs L m_X4_count [aR 0 16, aI (9 : Int32)] (cm n t v ld sh o cd pl ka kb kc, D, E) (.inl (some (aI (if n 36 = 0 then 0 else 1)))) (cm n t v ld sh o cd pl ka kb kc, D, E) 0 := by
  refine z_Ev_blk 3 (c' := (4, [some (aR 0 16), some (aI (9 : Int32))], [aI (9 : Int32), aI (14 : Int32), aI (0 : Int32)], (cm n t v ld sh o cd pl ka kb kc, D, E))) rfl trivial ?_
  refine z_Ev_call0 (m' := m_X4_isFrom) (as := [aI (0 : Int32), aI (14 : Int32), aI (9 : Int32)]) (r := []) ((by have q := e_isFrom (xs := xs) (L := L) (0 : Int32) (14 : Int32) (9 : Int32) (cm n t v ld sh o cd pl ka kb kc) D E; rw [f_b_t (by decide)] at q; exact q)) rfl rfl ?_
  refine z_Ev_call0 (m' := m_X4_requireArgument) (as := [aI (1 : Int32)]) (r := []) (e_reqA1 (cm n t v ld sh o cd pl ka kb kc) D E) rfl rfl ?_
  refine z_Ev_blk 2 (c' := (186, [some (aR 0 16), some (aI (9 : Int32))], [], (cm n t v ld sh o cd pl ka kb kc, D, E))) rfl trivial ?_
  refine z_Ev_blk 3 (c' := (193, [some (aR 0 16), some (aI (9 : Int32))], [aI (n 36)], (cm n t v ld sh o cd pl ka kb kc, D, E))) rfl trivial ?_
  refine z_Ev_call0 (m' := m_X4_oneIf) (as := [aI (n 36)]) (r := []) (e_oneIf (n 36) (cm n t v ld sh o cd pl ka kb kc) D E) rfl rfl ?_
  exact z_Ev_iretE rfl rfl (by rfl) (by rfl)
theorem c_count0_10 {xs : Nat → Int32} {L : Nat}  (n t : Nat → Int32) (v : Nat → Nat → Int32) (ld sh o cd pl ka kb kc : Nat → Int32) (D : Nat → Nat → Int32) (E : Nat → Int64)  : z_Mt xs L m_X4_count [aR 0 16, aI (10 : Int32)] (cm n t v ld sh o cd pl ka kb kc, D, E) (.inl (some (aI (if n 37 = 0 then 0 else 1)))) (cm n t v ld sh o cd pl ka kb kc, D, E) 0 := by
  refine z_Ev_blk 3 (c' := (4, [some (aR 0 16), some (aI (10 : Int32))], [aI (10 : Int32), aI (14 : Int32), aI (0 : Int32)], (cm n t v ld sh o cd pl ka kb kc, D, E))) rfl trivial ?_
  refine z_Ev_call0 (m' := m_X4_isFrom) (as := [aI (0 : Int32), aI (14 : Int32), aI (10 : Int32)]) (r := []) ((by have q := e_isFrom (xs := xs) (L := L) (0 : Int32) (14 : Int32) (10 : Int32) (cm n t v ld sh o cd pl ka kb kc) D E; rw [f_b_t (by decide)] at q; exact q)) rfl rfl ?_
  refine z_Ev_call0 (m' := m_X4_requireArgument) (as := [aI (1 : Int32)]) (r := []) (e_reqA1 (cm n t v ld sh o cd pl ka kb kc) D E) rfl rfl ?_
  refine z_Ev_blk 2 (c' := (197, [some (aR 0 16), some (aI (10 : Int32))], [], (cm n t v ld sh o cd pl ka kb kc, D, E))) rfl trivial ?_
  refine z_Ev_blk 3 (c' := (204, [some (aR 0 16), some (aI (10 : Int32))], [aI (n 37)], (cm n t v ld sh o cd pl ka kb kc, D, E))) rfl trivial ?_
  refine z_Ev_call0 (m' := m_X4_oneIf) (as := [aI (n 37)]) (r := []) (e_oneIf (n 37) (cm n t v ld sh o cd pl ka kb kc) D E) rfl rfl ?_
  exact z_Ev_iretE rfl rfl (by rfl) (by rfl)
theorem c_count0_11 {xs : Nat → Int32} {L : Nat} (H : Nat) (n t : Nat → Int32) (v : Nat → Nat → Int32) (ld sh o cd pl ka kb kc : Nat → Int32) (D : Nat → Nat → Int32) (E : Nat → Int64) (h34 : n 34 = nI H) (hH : H ≤ 48) : z_Mt xs L m_X4_count [aR 0 16, aI (11 : Int32)] (cm n t v ld sh o cd pl ka kb kc, D, E) (.inl (some (aI (dkN n H)))) (cm n t v ld sh o cd pl ka kb kc, D, E) 0 := by
  refine z_Ev_blk 3 (c' := (4, [some (aR 0 16), some (aI (11 : Int32))], [aI (11 : Int32), aI (14 : Int32), aI (0 : Int32)], (cm n t v ld sh o cd pl ka kb kc, D, E))) rfl trivial ?_
  refine z_Ev_call0 (m' := m_X4_isFrom) (as := [aI (0 : Int32), aI (14 : Int32), aI (11 : Int32)]) (r := []) ((by have q := e_isFrom (xs := xs) (L := L) (0 : Int32) (14 : Int32) (11 : Int32) (cm n t v ld sh o cd pl ka kb kc) D E; rw [f_b_t (by decide)] at q; exact q)) rfl rfl ?_
  refine z_Ev_call0 (m' := m_X4_requireArgument) (as := [aI (1 : Int32)]) (r := []) (e_reqA1 (cm n t v ld sh o cd pl ka kb kc) D E) rfl rfl ?_
  refine z_Ev_blk 2 (c' := (208, [some (aR 0 16), some (aI (11 : Int32))], [], (cm n t v ld sh o cd pl ka kb kc, D, E))) rfl trivial ?_
  refine z_Ev_blk 2 (c' := (212, [some (aR 0 16), some (aI (11 : Int32))], [aR 0 0], (cm n t v ld sh o cd pl ka kb kc, D, E))) rfl trivial ?_
  refine z_Ev_call0 (m' := m_X1_darkHours) (as := [aR 0 0]) (r := []) (c_darkHours_0 n t v ld sh o cd pl ka kb kc D E H h34 hH) rfl rfl ?_
  exact z_Ev_iretE rfl rfl (by rfl) (by rfl)
theorem c_count0_12 {xs : Nat → Int32} {L : Nat} (H : Nat) (n t : Nat → Int32) (v : Nat → Nat → Int32) (ld sh o cd pl ka kb kc : Nat → Int32) (D : Nat → Nat → Int32) (E : Nat → Int64) (h34 : n 34 = nI H) (hH : H ≤ 48) : z_Mt xs L m_X4_count [aR 0 16, aI (12 : Int32)] (cm n t v ld sh o cd pl ka kb kc, D, E) (.inl (some (aI (nI H - sfN n H)))) (cm n t v ld sh o cd pl ka kb kc, D, E) 0 := by
  refine z_Ev_blk 3 (c' := (4, [some (aR 0 16), some (aI (12 : Int32))], [aI (12 : Int32), aI (14 : Int32), aI (0 : Int32)], (cm n t v ld sh o cd pl ka kb kc, D, E))) rfl trivial ?_
  refine z_Ev_call0 (m' := m_X4_isFrom) (as := [aI (0 : Int32), aI (14 : Int32), aI (12 : Int32)]) (r := []) ((by have q := e_isFrom (xs := xs) (L := L) (0 : Int32) (14 : Int32) (12 : Int32) (cm n t v ld sh o cd pl ka kb kc) D E; rw [f_b_t (by decide)] at q; exact q)) rfl rfl ?_
  refine z_Ev_call0 (m' := m_X4_requireArgument) (as := [aI (1 : Int32)]) (r := []) (e_reqA1 (cm n t v ld sh o cd pl ka kb kc) D E) rfl rfl ?_
  refine z_Ev_blk 2 (c' := (216, [some (aR 0 16), some (aI (12 : Int32))], [], (cm n t v ld sh o cd pl ka kb kc, D, E))) rfl trivial ?_
  refine z_Ev_blk 3 (c' := (223, [some (aR 0 16), some (aI (12 : Int32))], [aI (n 34)], (cm n t v ld sh o cd pl ka kb kc, D, E))) rfl trivial ?_
  rw [h34]
  refine z_Ev_blk 2 (c' := (227, [some (aR 0 16), some (aI (12 : Int32))], [aR 0 0, aI (nI H)], (cm n t v ld sh o cd pl ka kb kc, D, E))) rfl trivial ?_
  refine z_Ev_call0 (m' := m_X1_safeHours) (as := [aR 0 0]) (r := [aI (nI H)]) (c_safeHours_0 n t v ld sh o cd pl ka kb kc D E H h34 hH) rfl rfl ?_
  refine z_Ev_blk 1 (c' := (231, [some (aR 0 16), some (aI (12 : Int32))], [aI ((nI H) - (sfN n H))], (cm n t v ld sh o cd pl ka kb kc, D, E))) rfl trivial ?_
  exact z_Ev_iretE rfl rfl (by rfl) (by rfl)
theorem c_count0_13 {xs : Nat → Int32} {L : Nat}  (n t : Nat → Int32) (v : Nat → Nat → Int32) (ld sh o cd pl ka kb kc : Nat → Int32) (D : Nat → Nat → Int32) (E : Nat → Int64)  : z_Mt xs L m_X4_count [aR 0 16, aI (13 : Int32)] (cm n t v ld sh o cd pl ka kb kc, D, E) (.inl (some (aI (fulF n)))) (cm n t v ld sh o cd pl ka kb kc, D, E) 0 := by
  refine z_Ev_blk 3 (c' := (4, [some (aR 0 16), some (aI (13 : Int32))], [aI (13 : Int32), aI (14 : Int32), aI (0 : Int32)], (cm n t v ld sh o cd pl ka kb kc, D, E))) rfl trivial ?_
  refine z_Ev_call0 (m' := m_X4_isFrom) (as := [aI (0 : Int32), aI (14 : Int32), aI (13 : Int32)]) (r := []) ((by have q := e_isFrom (xs := xs) (L := L) (0 : Int32) (14 : Int32) (13 : Int32) (cm n t v ld sh o cd pl ka kb kc) D E; rw [f_b_t (by decide)] at q; exact q)) rfl rfl ?_
  refine z_Ev_call0 (m' := m_X4_requireArgument) (as := [aI (1 : Int32)]) (r := []) (e_reqA1 (cm n t v ld sh o cd pl ka kb kc) D E) rfl rfl ?_
  refine z_Ev_blk 2 (c' := (232, [some (aR 0 16), some (aI (13 : Int32))], [], (cm n t v ld sh o cd pl ka kb kc, D, E))) rfl trivial ?_
  refine z_Ev_blk 3 (c' := (239, [some (aR 0 16), some (aI (13 : Int32))], [aR 0 1], (cm n t v ld sh o cd pl ka kb kc, D, E))) rfl trivial ?_
  refine z_Ev_call0 (m' := m_X0_fuelSoFar) (as := [aR 0 1]) (r := []) (c_fuelSoFar_0 n t v ld sh o cd pl ka kb kc D E) rfl rfl ?_
  exact z_Ev_iretE rfl rfl (by rfl) (by rfl)
theorem c_count0_14 {xs : Nat → Int32} {L : Nat}  (n t : Nat → Int32) (v : Nat → Nat → Int32) (ld sh o cd pl ka kb kc : Nat → Int32) (D : Nat → Nat → Int32) (E : Nat → Int64)  : z_Mt xs L m_X4_count [aR 0 16, aI (14 : Int32)] (cm n t v ld sh o cd pl ka kb kc, D, E) (.inl (some (aI (o 4)))) (cm n t v ld sh o cd pl ka kb kc, D, E) 0 := by
  refine z_Ev_blk 3 (c' := (4, [some (aR 0 16), some (aI (14 : Int32))], [aI (14 : Int32), aI (14 : Int32), aI (0 : Int32)], (cm n t v ld sh o cd pl ka kb kc, D, E))) rfl trivial ?_
  refine z_Ev_call0 (m' := m_X4_isFrom) (as := [aI (0 : Int32), aI (14 : Int32), aI (14 : Int32)]) (r := []) ((by have q := e_isFrom (xs := xs) (L := L) (0 : Int32) (14 : Int32) (14 : Int32) (cm n t v ld sh o cd pl ka kb kc) D E; rw [f_b_t (by decide)] at q; exact q)) rfl rfl ?_
  refine z_Ev_call0 (m' := m_X4_requireArgument) (as := [aI (1 : Int32)]) (r := []) (e_reqA1 (cm n t v ld sh o cd pl ka kb kc) D E) rfl rfl ?_
  refine z_Ev_blk 2 (c' := (243, [some (aR 0 16), some (aI (14 : Int32))], [], (cm n t v ld sh o cd pl ka kb kc, D, E))) rfl trivial ?_
  refine z_Ev_blk 2 (c' := (247, [some (aR 0 16), some (aI (14 : Int32))], [aI (o 4)], (cm n t v ld sh o cd pl ka kb kc, D, E))) rfl trivial ?_
  exact z_Ev_iretE rfl rfl (by rfl) (by rfl)
theorem c_countA {xs : Nat → Int32} {L : Nat} (x : Int32) (n t : Nat → Int32) (v : Nat → Nat → Int32) (ld sh o cd pl ka kb kc : Nat → Int32) (D : Nat → Nat → Int32) (E : Nat → Int64) (hbad : ¬ (0 ≤ x ∧ x ≤ 14)) : z_Mt xs L m_X4_count [aR 0 16, aI x] (cm n t v ld sh o cd pl ka kb kc, D, E) (.inr 0) (cm n t v ld sh o cd pl ka kb kc, D, E) 1 := by
  refine z_Ev_blk 3 (c' := (4, [some (aR 0 16), some (aI x)], [aI x, aI (14 : Int32), aI (0 : Int32)], (cm n t v ld sh o cd pl ka kb kc, D, E))) rfl trivial ?_
  refine z_Ev_call0 (m' := m_X4_isFrom) (as := [aI (0 : Int32), aI (14 : Int32), aI x]) (r := []) ((by have q := e_isFrom (xs := xs) (L := L) (0 : Int32) (14 : Int32) x (cm n t v ld sh o cd pl ka kb kc) D E; rw [f_b_f (hbad)] at q; exact q)) rfl rfl ?_
  exact z_Ev_thru (e_reqA0 (cm n t v ld sh o cd pl ka kb kc) D E) rfl rfl rfl
theorem c_setOf0_0_0 {xs : Nat → Int32} {L : Nat}  (n t : Nat → Int32) (v : Nat → Nat → Int32) (ld sh o cd pl ka kb kc : Nat → Int32) (D : Nat → Nat → Int32) (E : Nat → Int64)  : z_Mt xs L m_X4_setOf [aR 0 16, aI (0 : Int32), aI (0 : Int32)] (cm n t v ld sh o cd pl ka kb kc, D, E) (.inl (some (aI (n 0)))) (cm n t v ld sh o cd pl ka kb kc, D, E) 0 := by
  refine z_Ev_blk 1 (c' := (1, [some (aR 0 16), some (aI (0 : Int32)), some (aI (0 : Int32)), none], [aI (0 : Int32)], (cm n t v ld sh o cd pl ka kb kc, D, E))) rfl trivial ?_
  refine z_Ev_call0 (m' := m_X4_isSet) (as := [aI (0 : Int32)]) (r := []) ((by have q := e_isSet (xs := xs) (L := L) (0 : Int32) (cm n t v ld sh o cd pl ka kb kc) D E; rw [f_b_t (by decide)] at q; exact q)) rfl rfl ?_
  refine z_Ev_blk 1 (c' := ((if (1 : Int32) = 0 then 21 else 7), [some (aR 0 16), some (aI (0 : Int32)), some (aI (0 : Int32)), none], [], (cm n t v ld sh o cd pl ka kb kc, D, E))) rfl trivial ?_
  refine z_Ev_else (by decide) ?_
  refine z_Ev_blk 3 (c' := (11, [some (aR 0 16), some (aI (0 : Int32)), some (aI (0 : Int32)), none], [aI (0 : Int32), aI (8 : Int32), aI (0 : Int32)], (cm n t v ld sh o cd pl ka kb kc, D, E))) rfl trivial ?_
  refine z_Ev_call0 (m' := m_X4_isFrom) (as := [aI (0 : Int32), aI (8 : Int32), aI (0 : Int32)]) (r := []) ((by have q := e_isFrom (xs := xs) (L := L) (0 : Int32) (8 : Int32) (0 : Int32) (cm n t v ld sh o cd pl ka kb kc) D E; rw [f_b_t (by decide)] at q; exact q)) rfl rfl ?_
  refine z_Ev_blk 1 (c' := ((if (1 : Int32) = 0 then 21 else 17), [some (aR 0 16), some (aI (0 : Int32)), some (aI (0 : Int32)), none], [], (cm n t v ld sh o cd pl ka kb kc, D, E))) rfl trivial ?_
  refine z_Ev_else (by decide) ?_
  refine z_Ev_blk 2 (c' := (22, [some (aR 0 16), some (aI (0 : Int32)), some (aI (0 : Int32)), none], [aI (1 : Int32)], (cm n t v ld sh o cd pl ka kb kc, D, E))) rfl trivial ?_
  refine z_Ev_call0 (m' := m_X4_requireArgument) (as := [aI (1 : Int32)]) (r := []) (e_reqA1 (cm n t v ld sh o cd pl ka kb kc) D E) rfl rfl ?_
  refine z_Ev_blk 6 (c' := (80, [some (aR 0 16), some (aI (0 : Int32)), some (aI (0 : Int32)), some (aR 0 1)], [], (cm n t v ld sh o cd pl ka kb kc, D, E))) rfl trivial ?_
  refine z_Ev_blk 4 (c' := (86, [some (aR 0 16), some (aI (0 : Int32)), some (aI (0 : Int32)), some (aR 0 1)], [aI (n 0)], (cm n t v ld sh o cd pl ka kb kc, D, E))) rfl ⟨rfl, trivial⟩ ?_
  exact z_Ev_iretE rfl rfl (by rfl) (by rfl)
theorem c_setOf0_0_1 {xs : Nat → Int32} {L : Nat}  (n t : Nat → Int32) (v : Nat → Nat → Int32) (ld sh o cd pl ka kb kc : Nat → Int32) (D : Nat → Nat → Int32) (E : Nat → Int64)  : z_Mt xs L m_X4_setOf [aR 0 16, aI (0 : Int32), aI (1 : Int32)] (cm n t v ld sh o cd pl ka kb kc, D, E) (.inl (some (aI (n 4)))) (cm n t v ld sh o cd pl ka kb kc, D, E) 0 := by
  refine z_Ev_blk 1 (c' := (1, [some (aR 0 16), some (aI (0 : Int32)), some (aI (1 : Int32)), none], [aI (0 : Int32)], (cm n t v ld sh o cd pl ka kb kc, D, E))) rfl trivial ?_
  refine z_Ev_call0 (m' := m_X4_isSet) (as := [aI (0 : Int32)]) (r := []) ((by have q := e_isSet (xs := xs) (L := L) (0 : Int32) (cm n t v ld sh o cd pl ka kb kc) D E; rw [f_b_t (by decide)] at q; exact q)) rfl rfl ?_
  refine z_Ev_blk 1 (c' := ((if (1 : Int32) = 0 then 21 else 7), [some (aR 0 16), some (aI (0 : Int32)), some (aI (1 : Int32)), none], [], (cm n t v ld sh o cd pl ka kb kc, D, E))) rfl trivial ?_
  refine z_Ev_else (by decide) ?_
  refine z_Ev_blk 3 (c' := (11, [some (aR 0 16), some (aI (0 : Int32)), some (aI (1 : Int32)), none], [aI (1 : Int32), aI (8 : Int32), aI (0 : Int32)], (cm n t v ld sh o cd pl ka kb kc, D, E))) rfl trivial ?_
  refine z_Ev_call0 (m' := m_X4_isFrom) (as := [aI (0 : Int32), aI (8 : Int32), aI (1 : Int32)]) (r := []) ((by have q := e_isFrom (xs := xs) (L := L) (0 : Int32) (8 : Int32) (1 : Int32) (cm n t v ld sh o cd pl ka kb kc) D E; rw [f_b_t (by decide)] at q; exact q)) rfl rfl ?_
  refine z_Ev_blk 1 (c' := ((if (1 : Int32) = 0 then 21 else 17), [some (aR 0 16), some (aI (0 : Int32)), some (aI (1 : Int32)), none], [], (cm n t v ld sh o cd pl ka kb kc, D, E))) rfl trivial ?_
  refine z_Ev_else (by decide) ?_
  refine z_Ev_blk 2 (c' := (22, [some (aR 0 16), some (aI (0 : Int32)), some (aI (1 : Int32)), none], [aI (1 : Int32)], (cm n t v ld sh o cd pl ka kb kc, D, E))) rfl trivial ?_
  refine z_Ev_call0 (m' := m_X4_requireArgument) (as := [aI (1 : Int32)]) (r := []) (e_reqA1 (cm n t v ld sh o cd pl ka kb kc) D E) rfl rfl ?_
  refine z_Ev_blk 6 (c' := (87, [some (aR 0 16), some (aI (0 : Int32)), some (aI (1 : Int32)), some (aR 0 1)], [], (cm n t v ld sh o cd pl ka kb kc, D, E))) rfl trivial ?_
  refine z_Ev_blk 4 (c' := (93, [some (aR 0 16), some (aI (0 : Int32)), some (aI (1 : Int32)), some (aR 0 1)], [aI (n 4)], (cm n t v ld sh o cd pl ka kb kc, D, E))) rfl ⟨rfl, trivial⟩ ?_
  exact z_Ev_iretE rfl rfl (by rfl) (by rfl)
theorem c_setOf0_0_2 {xs : Nat → Int32} {L : Nat}  (n t : Nat → Int32) (v : Nat → Nat → Int32) (ld sh o cd pl ka kb kc : Nat → Int32) (D : Nat → Nat → Int32) (E : Nat → Int64)  : z_Mt xs L m_X4_setOf [aR 0 16, aI (0 : Int32), aI (2 : Int32)] (cm n t v ld sh o cd pl ka kb kc, D, E) (.inl (some (aI (n 8)))) (cm n t v ld sh o cd pl ka kb kc, D, E) 0 := by
  refine z_Ev_blk 1 (c' := (1, [some (aR 0 16), some (aI (0 : Int32)), some (aI (2 : Int32)), none], [aI (0 : Int32)], (cm n t v ld sh o cd pl ka kb kc, D, E))) rfl trivial ?_
  refine z_Ev_call0 (m' := m_X4_isSet) (as := [aI (0 : Int32)]) (r := []) ((by have q := e_isSet (xs := xs) (L := L) (0 : Int32) (cm n t v ld sh o cd pl ka kb kc) D E; rw [f_b_t (by decide)] at q; exact q)) rfl rfl ?_
  refine z_Ev_blk 1 (c' := ((if (1 : Int32) = 0 then 21 else 7), [some (aR 0 16), some (aI (0 : Int32)), some (aI (2 : Int32)), none], [], (cm n t v ld sh o cd pl ka kb kc, D, E))) rfl trivial ?_
  refine z_Ev_else (by decide) ?_
  refine z_Ev_blk 3 (c' := (11, [some (aR 0 16), some (aI (0 : Int32)), some (aI (2 : Int32)), none], [aI (2 : Int32), aI (8 : Int32), aI (0 : Int32)], (cm n t v ld sh o cd pl ka kb kc, D, E))) rfl trivial ?_
  refine z_Ev_call0 (m' := m_X4_isFrom) (as := [aI (0 : Int32), aI (8 : Int32), aI (2 : Int32)]) (r := []) ((by have q := e_isFrom (xs := xs) (L := L) (0 : Int32) (8 : Int32) (2 : Int32) (cm n t v ld sh o cd pl ka kb kc) D E; rw [f_b_t (by decide)] at q; exact q)) rfl rfl ?_
  refine z_Ev_blk 1 (c' := ((if (1 : Int32) = 0 then 21 else 17), [some (aR 0 16), some (aI (0 : Int32)), some (aI (2 : Int32)), none], [], (cm n t v ld sh o cd pl ka kb kc, D, E))) rfl trivial ?_
  refine z_Ev_else (by decide) ?_
  refine z_Ev_blk 2 (c' := (22, [some (aR 0 16), some (aI (0 : Int32)), some (aI (2 : Int32)), none], [aI (1 : Int32)], (cm n t v ld sh o cd pl ka kb kc, D, E))) rfl trivial ?_
  refine z_Ev_call0 (m' := m_X4_requireArgument) (as := [aI (1 : Int32)]) (r := []) (e_reqA1 (cm n t v ld sh o cd pl ka kb kc) D E) rfl rfl ?_
  refine z_Ev_blk 6 (c' := (94, [some (aR 0 16), some (aI (0 : Int32)), some (aI (2 : Int32)), some (aR 0 1)], [], (cm n t v ld sh o cd pl ka kb kc, D, E))) rfl trivial ?_
  refine z_Ev_blk 4 (c' := (100, [some (aR 0 16), some (aI (0 : Int32)), some (aI (2 : Int32)), some (aR 0 1)], [aI (n 8)], (cm n t v ld sh o cd pl ka kb kc, D, E))) rfl ⟨rfl, trivial⟩ ?_
  exact z_Ev_iretE rfl rfl (by rfl) (by rfl)
theorem c_setOf0_0_3 {xs : Nat → Int32} {L : Nat}  (n t : Nat → Int32) (v : Nat → Nat → Int32) (ld sh o cd pl ka kb kc : Nat → Int32) (D : Nat → Nat → Int32) (E : Nat → Int64)  : z_Mt xs L m_X4_setOf [aR 0 16, aI (0 : Int32), aI (3 : Int32)] (cm n t v ld sh o cd pl ka kb kc, D, E) (.inl (some (aI (n 12)))) (cm n t v ld sh o cd pl ka kb kc, D, E) 0 := by
  refine z_Ev_blk 1 (c' := (1, [some (aR 0 16), some (aI (0 : Int32)), some (aI (3 : Int32)), none], [aI (0 : Int32)], (cm n t v ld sh o cd pl ka kb kc, D, E))) rfl trivial ?_
  refine z_Ev_call0 (m' := m_X4_isSet) (as := [aI (0 : Int32)]) (r := []) ((by have q := e_isSet (xs := xs) (L := L) (0 : Int32) (cm n t v ld sh o cd pl ka kb kc) D E; rw [f_b_t (by decide)] at q; exact q)) rfl rfl ?_
  refine z_Ev_blk 1 (c' := ((if (1 : Int32) = 0 then 21 else 7), [some (aR 0 16), some (aI (0 : Int32)), some (aI (3 : Int32)), none], [], (cm n t v ld sh o cd pl ka kb kc, D, E))) rfl trivial ?_
  refine z_Ev_else (by decide) ?_
  refine z_Ev_blk 3 (c' := (11, [some (aR 0 16), some (aI (0 : Int32)), some (aI (3 : Int32)), none], [aI (3 : Int32), aI (8 : Int32), aI (0 : Int32)], (cm n t v ld sh o cd pl ka kb kc, D, E))) rfl trivial ?_
  refine z_Ev_call0 (m' := m_X4_isFrom) (as := [aI (0 : Int32), aI (8 : Int32), aI (3 : Int32)]) (r := []) ((by have q := e_isFrom (xs := xs) (L := L) (0 : Int32) (8 : Int32) (3 : Int32) (cm n t v ld sh o cd pl ka kb kc) D E; rw [f_b_t (by decide)] at q; exact q)) rfl rfl ?_
  refine z_Ev_blk 1 (c' := ((if (1 : Int32) = 0 then 21 else 17), [some (aR 0 16), some (aI (0 : Int32)), some (aI (3 : Int32)), none], [], (cm n t v ld sh o cd pl ka kb kc, D, E))) rfl trivial ?_
  refine z_Ev_else (by decide) ?_
  refine z_Ev_blk 2 (c' := (22, [some (aR 0 16), some (aI (0 : Int32)), some (aI (3 : Int32)), none], [aI (1 : Int32)], (cm n t v ld sh o cd pl ka kb kc, D, E))) rfl trivial ?_
  refine z_Ev_call0 (m' := m_X4_requireArgument) (as := [aI (1 : Int32)]) (r := []) (e_reqA1 (cm n t v ld sh o cd pl ka kb kc) D E) rfl rfl ?_
  refine z_Ev_blk 6 (c' := (101, [some (aR 0 16), some (aI (0 : Int32)), some (aI (3 : Int32)), some (aR 0 1)], [], (cm n t v ld sh o cd pl ka kb kc, D, E))) rfl trivial ?_
  refine z_Ev_blk 4 (c' := (107, [some (aR 0 16), some (aI (0 : Int32)), some (aI (3 : Int32)), some (aR 0 1)], [aI (n 12)], (cm n t v ld sh o cd pl ka kb kc, D, E))) rfl ⟨rfl, trivial⟩ ?_
  exact z_Ev_iretE rfl rfl (by rfl) (by rfl)
theorem c_setOf0_0_4 {xs : Nat → Int32} {L : Nat}  (n t : Nat → Int32) (v : Nat → Nat → Int32) (ld sh o cd pl ka kb kc : Nat → Int32) (D : Nat → Nat → Int32) (E : Nat → Int64)  : z_Mt xs L m_X4_setOf [aR 0 16, aI (0 : Int32), aI (4 : Int32)] (cm n t v ld sh o cd pl ka kb kc, D, E) (.inl (some (aI (n 16)))) (cm n t v ld sh o cd pl ka kb kc, D, E) 0 := by
  refine z_Ev_blk 1 (c' := (1, [some (aR 0 16), some (aI (0 : Int32)), some (aI (4 : Int32)), none], [aI (0 : Int32)], (cm n t v ld sh o cd pl ka kb kc, D, E))) rfl trivial ?_
  refine z_Ev_call0 (m' := m_X4_isSet) (as := [aI (0 : Int32)]) (r := []) ((by have q := e_isSet (xs := xs) (L := L) (0 : Int32) (cm n t v ld sh o cd pl ka kb kc) D E; rw [f_b_t (by decide)] at q; exact q)) rfl rfl ?_
  refine z_Ev_blk 1 (c' := ((if (1 : Int32) = 0 then 21 else 7), [some (aR 0 16), some (aI (0 : Int32)), some (aI (4 : Int32)), none], [], (cm n t v ld sh o cd pl ka kb kc, D, E))) rfl trivial ?_
  refine z_Ev_else (by decide) ?_
  refine z_Ev_blk 3 (c' := (11, [some (aR 0 16), some (aI (0 : Int32)), some (aI (4 : Int32)), none], [aI (4 : Int32), aI (8 : Int32), aI (0 : Int32)], (cm n t v ld sh o cd pl ka kb kc, D, E))) rfl trivial ?_
  refine z_Ev_call0 (m' := m_X4_isFrom) (as := [aI (0 : Int32), aI (8 : Int32), aI (4 : Int32)]) (r := []) ((by have q := e_isFrom (xs := xs) (L := L) (0 : Int32) (8 : Int32) (4 : Int32) (cm n t v ld sh o cd pl ka kb kc) D E; rw [f_b_t (by decide)] at q; exact q)) rfl rfl ?_
  refine z_Ev_blk 1 (c' := ((if (1 : Int32) = 0 then 21 else 17), [some (aR 0 16), some (aI (0 : Int32)), some (aI (4 : Int32)), none], [], (cm n t v ld sh o cd pl ka kb kc, D, E))) rfl trivial ?_
  refine z_Ev_else (by decide) ?_
  refine z_Ev_blk 2 (c' := (22, [some (aR 0 16), some (aI (0 : Int32)), some (aI (4 : Int32)), none], [aI (1 : Int32)], (cm n t v ld sh o cd pl ka kb kc, D, E))) rfl trivial ?_
  refine z_Ev_call0 (m' := m_X4_requireArgument) (as := [aI (1 : Int32)]) (r := []) (e_reqA1 (cm n t v ld sh o cd pl ka kb kc) D E) rfl rfl ?_
  refine z_Ev_blk 6 (c' := (108, [some (aR 0 16), some (aI (0 : Int32)), some (aI (4 : Int32)), some (aR 0 1)], [], (cm n t v ld sh o cd pl ka kb kc, D, E))) rfl trivial ?_
  refine z_Ev_blk 4 (c' := (114, [some (aR 0 16), some (aI (0 : Int32)), some (aI (4 : Int32)), some (aR 0 1)], [aI (n 16)], (cm n t v ld sh o cd pl ka kb kc, D, E))) rfl ⟨rfl, trivial⟩ ?_
  exact z_Ev_iretE rfl rfl (by rfl) (by rfl)
theorem c_setOf0_0_5 {xs : Nat → Int32} {L : Nat}  (n t : Nat → Int32) (v : Nat → Nat → Int32) (ld sh o cd pl ka kb kc : Nat → Int32) (D : Nat → Nat → Int32) (E : Nat → Int64)  : z_Mt xs L m_X4_setOf [aR 0 16, aI (0 : Int32), aI (5 : Int32)] (cm n t v ld sh o cd pl ka kb kc, D, E) (.inl (some (aI (n 20)))) (cm n t v ld sh o cd pl ka kb kc, D, E) 0 := by
  refine z_Ev_blk 1 (c' := (1, [some (aR 0 16), some (aI (0 : Int32)), some (aI (5 : Int32)), none], [aI (0 : Int32)], (cm n t v ld sh o cd pl ka kb kc, D, E))) rfl trivial ?_
  refine z_Ev_call0 (m' := m_X4_isSet) (as := [aI (0 : Int32)]) (r := []) ((by have q := e_isSet (xs := xs) (L := L) (0 : Int32) (cm n t v ld sh o cd pl ka kb kc) D E; rw [f_b_t (by decide)] at q; exact q)) rfl rfl ?_
  refine z_Ev_blk 1 (c' := ((if (1 : Int32) = 0 then 21 else 7), [some (aR 0 16), some (aI (0 : Int32)), some (aI (5 : Int32)), none], [], (cm n t v ld sh o cd pl ka kb kc, D, E))) rfl trivial ?_
  refine z_Ev_else (by decide) ?_
  refine z_Ev_blk 3 (c' := (11, [some (aR 0 16), some (aI (0 : Int32)), some (aI (5 : Int32)), none], [aI (5 : Int32), aI (8 : Int32), aI (0 : Int32)], (cm n t v ld sh o cd pl ka kb kc, D, E))) rfl trivial ?_
  refine z_Ev_call0 (m' := m_X4_isFrom) (as := [aI (0 : Int32), aI (8 : Int32), aI (5 : Int32)]) (r := []) ((by have q := e_isFrom (xs := xs) (L := L) (0 : Int32) (8 : Int32) (5 : Int32) (cm n t v ld sh o cd pl ka kb kc) D E; rw [f_b_t (by decide)] at q; exact q)) rfl rfl ?_
  refine z_Ev_blk 1 (c' := ((if (1 : Int32) = 0 then 21 else 17), [some (aR 0 16), some (aI (0 : Int32)), some (aI (5 : Int32)), none], [], (cm n t v ld sh o cd pl ka kb kc, D, E))) rfl trivial ?_
  refine z_Ev_else (by decide) ?_
  refine z_Ev_blk 2 (c' := (22, [some (aR 0 16), some (aI (0 : Int32)), some (aI (5 : Int32)), none], [aI (1 : Int32)], (cm n t v ld sh o cd pl ka kb kc, D, E))) rfl trivial ?_
  refine z_Ev_call0 (m' := m_X4_requireArgument) (as := [aI (1 : Int32)]) (r := []) (e_reqA1 (cm n t v ld sh o cd pl ka kb kc) D E) rfl rfl ?_
  refine z_Ev_blk 6 (c' := (115, [some (aR 0 16), some (aI (0 : Int32)), some (aI (5 : Int32)), some (aR 0 1)], [], (cm n t v ld sh o cd pl ka kb kc, D, E))) rfl trivial ?_
  refine z_Ev_blk 4 (c' := (121, [some (aR 0 16), some (aI (0 : Int32)), some (aI (5 : Int32)), some (aR 0 1)], [aI (n 20)], (cm n t v ld sh o cd pl ka kb kc, D, E))) rfl ⟨rfl, trivial⟩ ?_
  exact z_Ev_iretE rfl rfl (by rfl) (by rfl)
theorem c_setOf0_0_6 {xs : Nat → Int32} {L : Nat} (LD SH : Nat → Int32) (n t : Nat → Int32) (v : Nat → Nat → Int32) (ld sh o cd pl ka kb kc : Nat → Int32) (D : Nat → Nat → Int32) (E : Nat → Int64) (hN : z_Mt xs L m_X4_shareOutNow [aR 0 16] (cm n t v ld sh o cd pl ka kb kc, D, E) (.inl none) (cm n t v LD SH o cd pl ka kb kc, D, E) 0) : z_Mt xs L m_X4_setOf [aR 0 16, aI (0 : Int32), aI (6 : Int32)] (cm n t v ld sh o cd pl ka kb kc, D, E) (.inl (some (aI (LD 0)))) (cm n t v LD SH o cd pl ka kb kc, D, E) 0 := by
  refine z_Ev_blk 1 (c' := (1, [some (aR 0 16), some (aI (0 : Int32)), some (aI (6 : Int32)), none], [aI (0 : Int32)], (cm n t v ld sh o cd pl ka kb kc, D, E))) rfl trivial ?_
  refine z_Ev_call0 (m' := m_X4_isSet) (as := [aI (0 : Int32)]) (r := []) ((by have q := e_isSet (xs := xs) (L := L) (0 : Int32) (cm n t v ld sh o cd pl ka kb kc) D E; rw [f_b_t (by decide)] at q; exact q)) rfl rfl ?_
  refine z_Ev_blk 1 (c' := ((if (1 : Int32) = 0 then 21 else 7), [some (aR 0 16), some (aI (0 : Int32)), some (aI (6 : Int32)), none], [], (cm n t v ld sh o cd pl ka kb kc, D, E))) rfl trivial ?_
  refine z_Ev_else (by decide) ?_
  refine z_Ev_blk 3 (c' := (11, [some (aR 0 16), some (aI (0 : Int32)), some (aI (6 : Int32)), none], [aI (6 : Int32), aI (8 : Int32), aI (0 : Int32)], (cm n t v ld sh o cd pl ka kb kc, D, E))) rfl trivial ?_
  refine z_Ev_call0 (m' := m_X4_isFrom) (as := [aI (0 : Int32), aI (8 : Int32), aI (6 : Int32)]) (r := []) ((by have q := e_isFrom (xs := xs) (L := L) (0 : Int32) (8 : Int32) (6 : Int32) (cm n t v ld sh o cd pl ka kb kc) D E; rw [f_b_t (by decide)] at q; exact q)) rfl rfl ?_
  refine z_Ev_blk 1 (c' := ((if (1 : Int32) = 0 then 21 else 17), [some (aR 0 16), some (aI (0 : Int32)), some (aI (6 : Int32)), none], [], (cm n t v ld sh o cd pl ka kb kc, D, E))) rfl trivial ?_
  refine z_Ev_else (by decide) ?_
  refine z_Ev_blk 2 (c' := (22, [some (aR 0 16), some (aI (0 : Int32)), some (aI (6 : Int32)), none], [aI (1 : Int32)], (cm n t v ld sh o cd pl ka kb kc, D, E))) rfl trivial ?_
  refine z_Ev_call0 (m' := m_X4_requireArgument) (as := [aI (1 : Int32)]) (r := []) (e_reqA1 (cm n t v ld sh o cd pl ka kb kc) D E) rfl rfl ?_
  refine z_Ev_blk 6 (c' := (122, [some (aR 0 16), some (aI (0 : Int32)), some (aI (6 : Int32)), some (aR 0 1)], [], (cm n t v ld sh o cd pl ka kb kc, D, E))) rfl trivial ?_
  refine z_Ev_blk 1 (c' := (123, [some (aR 0 16), some (aI (0 : Int32)), some (aI (6 : Int32)), some (aR 0 1)], [aR 0 16], (cm n t v ld sh o cd pl ka kb kc, D, E))) rfl trivial ?_
  refine z_Ev_call0 (m' := m_X4_shareOutNow) (as := [aR 0 16]) (r := []) (hN) rfl rfl ?_
  refine z_Ev_blk 5 (c' := (135, [some (aR 0 16), some (aI (0 : Int32)), some (aI (6 : Int32)), some (aR 0 1)], [aI (LD 0)], (cm n t v LD SH o cd pl ka kb kc, D, E))) rfl ⟨rfl, trivial⟩ ?_
  exact z_Ev_iretE rfl rfl (by rfl) (by rfl)
theorem c_setOf0_0_7 {xs : Nat → Int32} {L : Nat}  (n t : Nat → Int32) (v : Nat → Nat → Int32) (ld sh o cd pl ka kb kc : Nat → Int32) (D : Nat → Nat → Int32) (E : Nat → Int64)  : z_Mt xs L m_X4_setOf [aR 0 16, aI (0 : Int32), aI (7 : Int32)] (cm n t v ld sh o cd pl ka kb kc, D, E) (.inl (some (aI (n 24)))) (cm n t v ld sh o cd pl ka kb kc, D, E) 0 := by
  refine z_Ev_blk 1 (c' := (1, [some (aR 0 16), some (aI (0 : Int32)), some (aI (7 : Int32)), none], [aI (0 : Int32)], (cm n t v ld sh o cd pl ka kb kc, D, E))) rfl trivial ?_
  refine z_Ev_call0 (m' := m_X4_isSet) (as := [aI (0 : Int32)]) (r := []) ((by have q := e_isSet (xs := xs) (L := L) (0 : Int32) (cm n t v ld sh o cd pl ka kb kc) D E; rw [f_b_t (by decide)] at q; exact q)) rfl rfl ?_
  refine z_Ev_blk 1 (c' := ((if (1 : Int32) = 0 then 21 else 7), [some (aR 0 16), some (aI (0 : Int32)), some (aI (7 : Int32)), none], [], (cm n t v ld sh o cd pl ka kb kc, D, E))) rfl trivial ?_
  refine z_Ev_else (by decide) ?_
  refine z_Ev_blk 3 (c' := (11, [some (aR 0 16), some (aI (0 : Int32)), some (aI (7 : Int32)), none], [aI (7 : Int32), aI (8 : Int32), aI (0 : Int32)], (cm n t v ld sh o cd pl ka kb kc, D, E))) rfl trivial ?_
  refine z_Ev_call0 (m' := m_X4_isFrom) (as := [aI (0 : Int32), aI (8 : Int32), aI (7 : Int32)]) (r := []) ((by have q := e_isFrom (xs := xs) (L := L) (0 : Int32) (8 : Int32) (7 : Int32) (cm n t v ld sh o cd pl ka kb kc) D E; rw [f_b_t (by decide)] at q; exact q)) rfl rfl ?_
  refine z_Ev_blk 1 (c' := ((if (1 : Int32) = 0 then 21 else 17), [some (aR 0 16), some (aI (0 : Int32)), some (aI (7 : Int32)), none], [], (cm n t v ld sh o cd pl ka kb kc, D, E))) rfl trivial ?_
  refine z_Ev_else (by decide) ?_
  refine z_Ev_blk 2 (c' := (22, [some (aR 0 16), some (aI (0 : Int32)), some (aI (7 : Int32)), none], [aI (1 : Int32)], (cm n t v ld sh o cd pl ka kb kc, D, E))) rfl trivial ?_
  refine z_Ev_call0 (m' := m_X4_requireArgument) (as := [aI (1 : Int32)]) (r := []) (e_reqA1 (cm n t v ld sh o cd pl ka kb kc) D E) rfl rfl ?_
  refine z_Ev_blk 6 (c' := (136, [some (aR 0 16), some (aI (0 : Int32)), some (aI (7 : Int32)), some (aR 0 1)], [], (cm n t v ld sh o cd pl ka kb kc, D, E))) rfl trivial ?_
  refine z_Ev_blk 4 (c' := (142, [some (aR 0 16), some (aI (0 : Int32)), some (aI (7 : Int32)), some (aR 0 1)], [aI (n 24)], (cm n t v ld sh o cd pl ka kb kc, D, E))) rfl ⟨rfl, trivial⟩ ?_
  exact z_Ev_iretE rfl rfl (by rfl) (by rfl)
theorem c_setOf0_0_8 {xs : Nat → Int32} {L : Nat}  (n t : Nat → Int32) (v : Nat → Nat → Int32) (ld sh o cd pl ka kb kc : Nat → Int32) (D : Nat → Nat → Int32) (E : Nat → Int64)  : z_Mt xs L m_X4_setOf [aR 0 16, aI (0 : Int32), aI (8 : Int32)] (cm n t v ld sh o cd pl ka kb kc, D, E) (.inl (some (aI (n 28)))) (cm n t v ld sh o cd pl ka kb kc, D, E) 0 := by
  refine z_Ev_blk 1 (c' := (1, [some (aR 0 16), some (aI (0 : Int32)), some (aI (8 : Int32)), none], [aI (0 : Int32)], (cm n t v ld sh o cd pl ka kb kc, D, E))) rfl trivial ?_
  refine z_Ev_call0 (m' := m_X4_isSet) (as := [aI (0 : Int32)]) (r := []) ((by have q := e_isSet (xs := xs) (L := L) (0 : Int32) (cm n t v ld sh o cd pl ka kb kc) D E; rw [f_b_t (by decide)] at q; exact q)) rfl rfl ?_
  refine z_Ev_blk 1 (c' := ((if (1 : Int32) = 0 then 21 else 7), [some (aR 0 16), some (aI (0 : Int32)), some (aI (8 : Int32)), none], [], (cm n t v ld sh o cd pl ka kb kc, D, E))) rfl trivial ?_
  refine z_Ev_else (by decide) ?_
  refine z_Ev_blk 3 (c' := (11, [some (aR 0 16), some (aI (0 : Int32)), some (aI (8 : Int32)), none], [aI (8 : Int32), aI (8 : Int32), aI (0 : Int32)], (cm n t v ld sh o cd pl ka kb kc, D, E))) rfl trivial ?_
  refine z_Ev_call0 (m' := m_X4_isFrom) (as := [aI (0 : Int32), aI (8 : Int32), aI (8 : Int32)]) (r := []) ((by have q := e_isFrom (xs := xs) (L := L) (0 : Int32) (8 : Int32) (8 : Int32) (cm n t v ld sh o cd pl ka kb kc) D E; rw [f_b_t (by decide)] at q; exact q)) rfl rfl ?_
  refine z_Ev_blk 1 (c' := ((if (1 : Int32) = 0 then 21 else 17), [some (aR 0 16), some (aI (0 : Int32)), some (aI (8 : Int32)), none], [], (cm n t v ld sh o cd pl ka kb kc, D, E))) rfl trivial ?_
  refine z_Ev_else (by decide) ?_
  refine z_Ev_blk 2 (c' := (22, [some (aR 0 16), some (aI (0 : Int32)), some (aI (8 : Int32)), none], [aI (1 : Int32)], (cm n t v ld sh o cd pl ka kb kc, D, E))) rfl trivial ?_
  refine z_Ev_call0 (m' := m_X4_requireArgument) (as := [aI (1 : Int32)]) (r := []) (e_reqA1 (cm n t v ld sh o cd pl ka kb kc) D E) rfl rfl ?_
  refine z_Ev_blk 6 (c' := (143, [some (aR 0 16), some (aI (0 : Int32)), some (aI (8 : Int32)), some (aR 0 1)], [], (cm n t v ld sh o cd pl ka kb kc, D, E))) rfl trivial ?_
  refine z_Ev_blk 4 (c' := (149, [some (aR 0 16), some (aI (0 : Int32)), some (aI (8 : Int32)), some (aR 0 1)], [aI (n 28)], (cm n t v ld sh o cd pl ka kb kc, D, E))) rfl ⟨rfl, trivial⟩ ?_
  exact z_Ev_iretE rfl rfl (by rfl) (by rfl)
theorem c_setOf0_1_0 {xs : Nat → Int32} {L : Nat}  (n t : Nat → Int32) (v : Nat → Nat → Int32) (ld sh o cd pl ka kb kc : Nat → Int32) (D : Nat → Nat → Int32) (E : Nat → Int64)  : z_Mt xs L m_X4_setOf [aR 0 16, aI (1 : Int32), aI (0 : Int32)] (cm n t v ld sh o cd pl ka kb kc, D, E) (.inl (some (aI (n 1)))) (cm n t v ld sh o cd pl ka kb kc, D, E) 0 := by
  refine z_Ev_blk 1 (c' := (1, [some (aR 0 16), some (aI (1 : Int32)), some (aI (0 : Int32)), none], [aI (1 : Int32)], (cm n t v ld sh o cd pl ka kb kc, D, E))) rfl trivial ?_
  refine z_Ev_call0 (m' := m_X4_isSet) (as := [aI (1 : Int32)]) (r := []) ((by have q := e_isSet (xs := xs) (L := L) (1 : Int32) (cm n t v ld sh o cd pl ka kb kc) D E; rw [f_b_t (by decide)] at q; exact q)) rfl rfl ?_
  refine z_Ev_blk 1 (c' := ((if (1 : Int32) = 0 then 21 else 7), [some (aR 0 16), some (aI (1 : Int32)), some (aI (0 : Int32)), none], [], (cm n t v ld sh o cd pl ka kb kc, D, E))) rfl trivial ?_
  refine z_Ev_else (by decide) ?_
  refine z_Ev_blk 3 (c' := (11, [some (aR 0 16), some (aI (1 : Int32)), some (aI (0 : Int32)), none], [aI (0 : Int32), aI (8 : Int32), aI (0 : Int32)], (cm n t v ld sh o cd pl ka kb kc, D, E))) rfl trivial ?_
  refine z_Ev_call0 (m' := m_X4_isFrom) (as := [aI (0 : Int32), aI (8 : Int32), aI (0 : Int32)]) (r := []) ((by have q := e_isFrom (xs := xs) (L := L) (0 : Int32) (8 : Int32) (0 : Int32) (cm n t v ld sh o cd pl ka kb kc) D E; rw [f_b_t (by decide)] at q; exact q)) rfl rfl ?_
  refine z_Ev_blk 1 (c' := ((if (1 : Int32) = 0 then 21 else 17), [some (aR 0 16), some (aI (1 : Int32)), some (aI (0 : Int32)), none], [], (cm n t v ld sh o cd pl ka kb kc, D, E))) rfl trivial ?_
  refine z_Ev_else (by decide) ?_
  refine z_Ev_blk 2 (c' := (22, [some (aR 0 16), some (aI (1 : Int32)), some (aI (0 : Int32)), none], [aI (1 : Int32)], (cm n t v ld sh o cd pl ka kb kc, D, E))) rfl trivial ?_
  refine z_Ev_call0 (m' := m_X4_requireArgument) (as := [aI (1 : Int32)]) (r := []) (e_reqA1 (cm n t v ld sh o cd pl ka kb kc) D E) rfl rfl ?_
  refine z_Ev_blk 6 (c' := (80, [some (aR 0 16), some (aI (1 : Int32)), some (aI (0 : Int32)), some (aR 0 1)], [], (cm n t v ld sh o cd pl ka kb kc, D, E))) rfl trivial ?_
  refine z_Ev_blk 4 (c' := (86, [some (aR 0 16), some (aI (1 : Int32)), some (aI (0 : Int32)), some (aR 0 1)], [aI (n 1)], (cm n t v ld sh o cd pl ka kb kc, D, E))) rfl ⟨rfl, trivial⟩ ?_
  exact z_Ev_iretE rfl rfl (by rfl) (by rfl)
theorem c_setOf0_1_1 {xs : Nat → Int32} {L : Nat}  (n t : Nat → Int32) (v : Nat → Nat → Int32) (ld sh o cd pl ka kb kc : Nat → Int32) (D : Nat → Nat → Int32) (E : Nat → Int64)  : z_Mt xs L m_X4_setOf [aR 0 16, aI (1 : Int32), aI (1 : Int32)] (cm n t v ld sh o cd pl ka kb kc, D, E) (.inl (some (aI (n 5)))) (cm n t v ld sh o cd pl ka kb kc, D, E) 0 := by
  refine z_Ev_blk 1 (c' := (1, [some (aR 0 16), some (aI (1 : Int32)), some (aI (1 : Int32)), none], [aI (1 : Int32)], (cm n t v ld sh o cd pl ka kb kc, D, E))) rfl trivial ?_
  refine z_Ev_call0 (m' := m_X4_isSet) (as := [aI (1 : Int32)]) (r := []) ((by have q := e_isSet (xs := xs) (L := L) (1 : Int32) (cm n t v ld sh o cd pl ka kb kc) D E; rw [f_b_t (by decide)] at q; exact q)) rfl rfl ?_
  refine z_Ev_blk 1 (c' := ((if (1 : Int32) = 0 then 21 else 7), [some (aR 0 16), some (aI (1 : Int32)), some (aI (1 : Int32)), none], [], (cm n t v ld sh o cd pl ka kb kc, D, E))) rfl trivial ?_
  refine z_Ev_else (by decide) ?_
  refine z_Ev_blk 3 (c' := (11, [some (aR 0 16), some (aI (1 : Int32)), some (aI (1 : Int32)), none], [aI (1 : Int32), aI (8 : Int32), aI (0 : Int32)], (cm n t v ld sh o cd pl ka kb kc, D, E))) rfl trivial ?_
  refine z_Ev_call0 (m' := m_X4_isFrom) (as := [aI (0 : Int32), aI (8 : Int32), aI (1 : Int32)]) (r := []) ((by have q := e_isFrom (xs := xs) (L := L) (0 : Int32) (8 : Int32) (1 : Int32) (cm n t v ld sh o cd pl ka kb kc) D E; rw [f_b_t (by decide)] at q; exact q)) rfl rfl ?_
  refine z_Ev_blk 1 (c' := ((if (1 : Int32) = 0 then 21 else 17), [some (aR 0 16), some (aI (1 : Int32)), some (aI (1 : Int32)), none], [], (cm n t v ld sh o cd pl ka kb kc, D, E))) rfl trivial ?_
  refine z_Ev_else (by decide) ?_
  refine z_Ev_blk 2 (c' := (22, [some (aR 0 16), some (aI (1 : Int32)), some (aI (1 : Int32)), none], [aI (1 : Int32)], (cm n t v ld sh o cd pl ka kb kc, D, E))) rfl trivial ?_
  refine z_Ev_call0 (m' := m_X4_requireArgument) (as := [aI (1 : Int32)]) (r := []) (e_reqA1 (cm n t v ld sh o cd pl ka kb kc) D E) rfl rfl ?_
  refine z_Ev_blk 6 (c' := (87, [some (aR 0 16), some (aI (1 : Int32)), some (aI (1 : Int32)), some (aR 0 1)], [], (cm n t v ld sh o cd pl ka kb kc, D, E))) rfl trivial ?_
  refine z_Ev_blk 4 (c' := (93, [some (aR 0 16), some (aI (1 : Int32)), some (aI (1 : Int32)), some (aR 0 1)], [aI (n 5)], (cm n t v ld sh o cd pl ka kb kc, D, E))) rfl ⟨rfl, trivial⟩ ?_
  exact z_Ev_iretE rfl rfl (by rfl) (by rfl)
theorem c_setOf0_1_2 {xs : Nat → Int32} {L : Nat}  (n t : Nat → Int32) (v : Nat → Nat → Int32) (ld sh o cd pl ka kb kc : Nat → Int32) (D : Nat → Nat → Int32) (E : Nat → Int64)  : z_Mt xs L m_X4_setOf [aR 0 16, aI (1 : Int32), aI (2 : Int32)] (cm n t v ld sh o cd pl ka kb kc, D, E) (.inl (some (aI (n 9)))) (cm n t v ld sh o cd pl ka kb kc, D, E) 0 := by
  refine z_Ev_blk 1 (c' := (1, [some (aR 0 16), some (aI (1 : Int32)), some (aI (2 : Int32)), none], [aI (1 : Int32)], (cm n t v ld sh o cd pl ka kb kc, D, E))) rfl trivial ?_
  refine z_Ev_call0 (m' := m_X4_isSet) (as := [aI (1 : Int32)]) (r := []) ((by have q := e_isSet (xs := xs) (L := L) (1 : Int32) (cm n t v ld sh o cd pl ka kb kc) D E; rw [f_b_t (by decide)] at q; exact q)) rfl rfl ?_
  refine z_Ev_blk 1 (c' := ((if (1 : Int32) = 0 then 21 else 7), [some (aR 0 16), some (aI (1 : Int32)), some (aI (2 : Int32)), none], [], (cm n t v ld sh o cd pl ka kb kc, D, E))) rfl trivial ?_
  refine z_Ev_else (by decide) ?_
  refine z_Ev_blk 3 (c' := (11, [some (aR 0 16), some (aI (1 : Int32)), some (aI (2 : Int32)), none], [aI (2 : Int32), aI (8 : Int32), aI (0 : Int32)], (cm n t v ld sh o cd pl ka kb kc, D, E))) rfl trivial ?_
  refine z_Ev_call0 (m' := m_X4_isFrom) (as := [aI (0 : Int32), aI (8 : Int32), aI (2 : Int32)]) (r := []) ((by have q := e_isFrom (xs := xs) (L := L) (0 : Int32) (8 : Int32) (2 : Int32) (cm n t v ld sh o cd pl ka kb kc) D E; rw [f_b_t (by decide)] at q; exact q)) rfl rfl ?_
  refine z_Ev_blk 1 (c' := ((if (1 : Int32) = 0 then 21 else 17), [some (aR 0 16), some (aI (1 : Int32)), some (aI (2 : Int32)), none], [], (cm n t v ld sh o cd pl ka kb kc, D, E))) rfl trivial ?_
  refine z_Ev_else (by decide) ?_
  refine z_Ev_blk 2 (c' := (22, [some (aR 0 16), some (aI (1 : Int32)), some (aI (2 : Int32)), none], [aI (1 : Int32)], (cm n t v ld sh o cd pl ka kb kc, D, E))) rfl trivial ?_
  refine z_Ev_call0 (m' := m_X4_requireArgument) (as := [aI (1 : Int32)]) (r := []) (e_reqA1 (cm n t v ld sh o cd pl ka kb kc) D E) rfl rfl ?_
  refine z_Ev_blk 6 (c' := (94, [some (aR 0 16), some (aI (1 : Int32)), some (aI (2 : Int32)), some (aR 0 1)], [], (cm n t v ld sh o cd pl ka kb kc, D, E))) rfl trivial ?_
  refine z_Ev_blk 4 (c' := (100, [some (aR 0 16), some (aI (1 : Int32)), some (aI (2 : Int32)), some (aR 0 1)], [aI (n 9)], (cm n t v ld sh o cd pl ka kb kc, D, E))) rfl ⟨rfl, trivial⟩ ?_
  exact z_Ev_iretE rfl rfl (by rfl) (by rfl)
theorem c_setOf0_1_3 {xs : Nat → Int32} {L : Nat}  (n t : Nat → Int32) (v : Nat → Nat → Int32) (ld sh o cd pl ka kb kc : Nat → Int32) (D : Nat → Nat → Int32) (E : Nat → Int64)  : z_Mt xs L m_X4_setOf [aR 0 16, aI (1 : Int32), aI (3 : Int32)] (cm n t v ld sh o cd pl ka kb kc, D, E) (.inl (some (aI (n 13)))) (cm n t v ld sh o cd pl ka kb kc, D, E) 0 := by
  refine z_Ev_blk 1 (c' := (1, [some (aR 0 16), some (aI (1 : Int32)), some (aI (3 : Int32)), none], [aI (1 : Int32)], (cm n t v ld sh o cd pl ka kb kc, D, E))) rfl trivial ?_
  refine z_Ev_call0 (m' := m_X4_isSet) (as := [aI (1 : Int32)]) (r := []) ((by have q := e_isSet (xs := xs) (L := L) (1 : Int32) (cm n t v ld sh o cd pl ka kb kc) D E; rw [f_b_t (by decide)] at q; exact q)) rfl rfl ?_
  refine z_Ev_blk 1 (c' := ((if (1 : Int32) = 0 then 21 else 7), [some (aR 0 16), some (aI (1 : Int32)), some (aI (3 : Int32)), none], [], (cm n t v ld sh o cd pl ka kb kc, D, E))) rfl trivial ?_
  refine z_Ev_else (by decide) ?_
  refine z_Ev_blk 3 (c' := (11, [some (aR 0 16), some (aI (1 : Int32)), some (aI (3 : Int32)), none], [aI (3 : Int32), aI (8 : Int32), aI (0 : Int32)], (cm n t v ld sh o cd pl ka kb kc, D, E))) rfl trivial ?_
  refine z_Ev_call0 (m' := m_X4_isFrom) (as := [aI (0 : Int32), aI (8 : Int32), aI (3 : Int32)]) (r := []) ((by have q := e_isFrom (xs := xs) (L := L) (0 : Int32) (8 : Int32) (3 : Int32) (cm n t v ld sh o cd pl ka kb kc) D E; rw [f_b_t (by decide)] at q; exact q)) rfl rfl ?_
  refine z_Ev_blk 1 (c' := ((if (1 : Int32) = 0 then 21 else 17), [some (aR 0 16), some (aI (1 : Int32)), some (aI (3 : Int32)), none], [], (cm n t v ld sh o cd pl ka kb kc, D, E))) rfl trivial ?_
  refine z_Ev_else (by decide) ?_
  refine z_Ev_blk 2 (c' := (22, [some (aR 0 16), some (aI (1 : Int32)), some (aI (3 : Int32)), none], [aI (1 : Int32)], (cm n t v ld sh o cd pl ka kb kc, D, E))) rfl trivial ?_
  refine z_Ev_call0 (m' := m_X4_requireArgument) (as := [aI (1 : Int32)]) (r := []) (e_reqA1 (cm n t v ld sh o cd pl ka kb kc) D E) rfl rfl ?_
  refine z_Ev_blk 6 (c' := (101, [some (aR 0 16), some (aI (1 : Int32)), some (aI (3 : Int32)), some (aR 0 1)], [], (cm n t v ld sh o cd pl ka kb kc, D, E))) rfl trivial ?_
  refine z_Ev_blk 4 (c' := (107, [some (aR 0 16), some (aI (1 : Int32)), some (aI (3 : Int32)), some (aR 0 1)], [aI (n 13)], (cm n t v ld sh o cd pl ka kb kc, D, E))) rfl ⟨rfl, trivial⟩ ?_
  exact z_Ev_iretE rfl rfl (by rfl) (by rfl)
theorem c_setOf0_1_4 {xs : Nat → Int32} {L : Nat}  (n t : Nat → Int32) (v : Nat → Nat → Int32) (ld sh o cd pl ka kb kc : Nat → Int32) (D : Nat → Nat → Int32) (E : Nat → Int64)  : z_Mt xs L m_X4_setOf [aR 0 16, aI (1 : Int32), aI (4 : Int32)] (cm n t v ld sh o cd pl ka kb kc, D, E) (.inl (some (aI (n 17)))) (cm n t v ld sh o cd pl ka kb kc, D, E) 0 := by
  refine z_Ev_blk 1 (c' := (1, [some (aR 0 16), some (aI (1 : Int32)), some (aI (4 : Int32)), none], [aI (1 : Int32)], (cm n t v ld sh o cd pl ka kb kc, D, E))) rfl trivial ?_
  refine z_Ev_call0 (m' := m_X4_isSet) (as := [aI (1 : Int32)]) (r := []) ((by have q := e_isSet (xs := xs) (L := L) (1 : Int32) (cm n t v ld sh o cd pl ka kb kc) D E; rw [f_b_t (by decide)] at q; exact q)) rfl rfl ?_
  refine z_Ev_blk 1 (c' := ((if (1 : Int32) = 0 then 21 else 7), [some (aR 0 16), some (aI (1 : Int32)), some (aI (4 : Int32)), none], [], (cm n t v ld sh o cd pl ka kb kc, D, E))) rfl trivial ?_
  refine z_Ev_else (by decide) ?_
  refine z_Ev_blk 3 (c' := (11, [some (aR 0 16), some (aI (1 : Int32)), some (aI (4 : Int32)), none], [aI (4 : Int32), aI (8 : Int32), aI (0 : Int32)], (cm n t v ld sh o cd pl ka kb kc, D, E))) rfl trivial ?_
  refine z_Ev_call0 (m' := m_X4_isFrom) (as := [aI (0 : Int32), aI (8 : Int32), aI (4 : Int32)]) (r := []) ((by have q := e_isFrom (xs := xs) (L := L) (0 : Int32) (8 : Int32) (4 : Int32) (cm n t v ld sh o cd pl ka kb kc) D E; rw [f_b_t (by decide)] at q; exact q)) rfl rfl ?_
  refine z_Ev_blk 1 (c' := ((if (1 : Int32) = 0 then 21 else 17), [some (aR 0 16), some (aI (1 : Int32)), some (aI (4 : Int32)), none], [], (cm n t v ld sh o cd pl ka kb kc, D, E))) rfl trivial ?_
  refine z_Ev_else (by decide) ?_
  refine z_Ev_blk 2 (c' := (22, [some (aR 0 16), some (aI (1 : Int32)), some (aI (4 : Int32)), none], [aI (1 : Int32)], (cm n t v ld sh o cd pl ka kb kc, D, E))) rfl trivial ?_
  refine z_Ev_call0 (m' := m_X4_requireArgument) (as := [aI (1 : Int32)]) (r := []) (e_reqA1 (cm n t v ld sh o cd pl ka kb kc) D E) rfl rfl ?_
  refine z_Ev_blk 6 (c' := (108, [some (aR 0 16), some (aI (1 : Int32)), some (aI (4 : Int32)), some (aR 0 1)], [], (cm n t v ld sh o cd pl ka kb kc, D, E))) rfl trivial ?_
  refine z_Ev_blk 4 (c' := (114, [some (aR 0 16), some (aI (1 : Int32)), some (aI (4 : Int32)), some (aR 0 1)], [aI (n 17)], (cm n t v ld sh o cd pl ka kb kc, D, E))) rfl ⟨rfl, trivial⟩ ?_
  exact z_Ev_iretE rfl rfl (by rfl) (by rfl)
theorem c_setOf0_1_5 {xs : Nat → Int32} {L : Nat}  (n t : Nat → Int32) (v : Nat → Nat → Int32) (ld sh o cd pl ka kb kc : Nat → Int32) (D : Nat → Nat → Int32) (E : Nat → Int64)  : z_Mt xs L m_X4_setOf [aR 0 16, aI (1 : Int32), aI (5 : Int32)] (cm n t v ld sh o cd pl ka kb kc, D, E) (.inl (some (aI (n 21)))) (cm n t v ld sh o cd pl ka kb kc, D, E) 0 := by
  refine z_Ev_blk 1 (c' := (1, [some (aR 0 16), some (aI (1 : Int32)), some (aI (5 : Int32)), none], [aI (1 : Int32)], (cm n t v ld sh o cd pl ka kb kc, D, E))) rfl trivial ?_
  refine z_Ev_call0 (m' := m_X4_isSet) (as := [aI (1 : Int32)]) (r := []) ((by have q := e_isSet (xs := xs) (L := L) (1 : Int32) (cm n t v ld sh o cd pl ka kb kc) D E; rw [f_b_t (by decide)] at q; exact q)) rfl rfl ?_
  refine z_Ev_blk 1 (c' := ((if (1 : Int32) = 0 then 21 else 7), [some (aR 0 16), some (aI (1 : Int32)), some (aI (5 : Int32)), none], [], (cm n t v ld sh o cd pl ka kb kc, D, E))) rfl trivial ?_
  refine z_Ev_else (by decide) ?_
  refine z_Ev_blk 3 (c' := (11, [some (aR 0 16), some (aI (1 : Int32)), some (aI (5 : Int32)), none], [aI (5 : Int32), aI (8 : Int32), aI (0 : Int32)], (cm n t v ld sh o cd pl ka kb kc, D, E))) rfl trivial ?_
  refine z_Ev_call0 (m' := m_X4_isFrom) (as := [aI (0 : Int32), aI (8 : Int32), aI (5 : Int32)]) (r := []) ((by have q := e_isFrom (xs := xs) (L := L) (0 : Int32) (8 : Int32) (5 : Int32) (cm n t v ld sh o cd pl ka kb kc) D E; rw [f_b_t (by decide)] at q; exact q)) rfl rfl ?_
  refine z_Ev_blk 1 (c' := ((if (1 : Int32) = 0 then 21 else 17), [some (aR 0 16), some (aI (1 : Int32)), some (aI (5 : Int32)), none], [], (cm n t v ld sh o cd pl ka kb kc, D, E))) rfl trivial ?_
  refine z_Ev_else (by decide) ?_
  refine z_Ev_blk 2 (c' := (22, [some (aR 0 16), some (aI (1 : Int32)), some (aI (5 : Int32)), none], [aI (1 : Int32)], (cm n t v ld sh o cd pl ka kb kc, D, E))) rfl trivial ?_
  refine z_Ev_call0 (m' := m_X4_requireArgument) (as := [aI (1 : Int32)]) (r := []) (e_reqA1 (cm n t v ld sh o cd pl ka kb kc) D E) rfl rfl ?_
  refine z_Ev_blk 6 (c' := (115, [some (aR 0 16), some (aI (1 : Int32)), some (aI (5 : Int32)), some (aR 0 1)], [], (cm n t v ld sh o cd pl ka kb kc, D, E))) rfl trivial ?_
  refine z_Ev_blk 4 (c' := (121, [some (aR 0 16), some (aI (1 : Int32)), some (aI (5 : Int32)), some (aR 0 1)], [aI (n 21)], (cm n t v ld sh o cd pl ka kb kc, D, E))) rfl ⟨rfl, trivial⟩ ?_
  exact z_Ev_iretE rfl rfl (by rfl) (by rfl)
theorem c_setOf0_1_6 {xs : Nat → Int32} {L : Nat} (LD SH : Nat → Int32) (n t : Nat → Int32) (v : Nat → Nat → Int32) (ld sh o cd pl ka kb kc : Nat → Int32) (D : Nat → Nat → Int32) (E : Nat → Int64) (hN : z_Mt xs L m_X4_shareOutNow [aR 0 16] (cm n t v ld sh o cd pl ka kb kc, D, E) (.inl none) (cm n t v LD SH o cd pl ka kb kc, D, E) 0) : z_Mt xs L m_X4_setOf [aR 0 16, aI (1 : Int32), aI (6 : Int32)] (cm n t v ld sh o cd pl ka kb kc, D, E) (.inl (some (aI (LD 1)))) (cm n t v LD SH o cd pl ka kb kc, D, E) 0 := by
  refine z_Ev_blk 1 (c' := (1, [some (aR 0 16), some (aI (1 : Int32)), some (aI (6 : Int32)), none], [aI (1 : Int32)], (cm n t v ld sh o cd pl ka kb kc, D, E))) rfl trivial ?_
  refine z_Ev_call0 (m' := m_X4_isSet) (as := [aI (1 : Int32)]) (r := []) ((by have q := e_isSet (xs := xs) (L := L) (1 : Int32) (cm n t v ld sh o cd pl ka kb kc) D E; rw [f_b_t (by decide)] at q; exact q)) rfl rfl ?_
  refine z_Ev_blk 1 (c' := ((if (1 : Int32) = 0 then 21 else 7), [some (aR 0 16), some (aI (1 : Int32)), some (aI (6 : Int32)), none], [], (cm n t v ld sh o cd pl ka kb kc, D, E))) rfl trivial ?_
  refine z_Ev_else (by decide) ?_
  refine z_Ev_blk 3 (c' := (11, [some (aR 0 16), some (aI (1 : Int32)), some (aI (6 : Int32)), none], [aI (6 : Int32), aI (8 : Int32), aI (0 : Int32)], (cm n t v ld sh o cd pl ka kb kc, D, E))) rfl trivial ?_
  refine z_Ev_call0 (m' := m_X4_isFrom) (as := [aI (0 : Int32), aI (8 : Int32), aI (6 : Int32)]) (r := []) ((by have q := e_isFrom (xs := xs) (L := L) (0 : Int32) (8 : Int32) (6 : Int32) (cm n t v ld sh o cd pl ka kb kc) D E; rw [f_b_t (by decide)] at q; exact q)) rfl rfl ?_
  refine z_Ev_blk 1 (c' := ((if (1 : Int32) = 0 then 21 else 17), [some (aR 0 16), some (aI (1 : Int32)), some (aI (6 : Int32)), none], [], (cm n t v ld sh o cd pl ka kb kc, D, E))) rfl trivial ?_
  refine z_Ev_else (by decide) ?_
  refine z_Ev_blk 2 (c' := (22, [some (aR 0 16), some (aI (1 : Int32)), some (aI (6 : Int32)), none], [aI (1 : Int32)], (cm n t v ld sh o cd pl ka kb kc, D, E))) rfl trivial ?_
  refine z_Ev_call0 (m' := m_X4_requireArgument) (as := [aI (1 : Int32)]) (r := []) (e_reqA1 (cm n t v ld sh o cd pl ka kb kc) D E) rfl rfl ?_
  refine z_Ev_blk 6 (c' := (122, [some (aR 0 16), some (aI (1 : Int32)), some (aI (6 : Int32)), some (aR 0 1)], [], (cm n t v ld sh o cd pl ka kb kc, D, E))) rfl trivial ?_
  refine z_Ev_blk 1 (c' := (123, [some (aR 0 16), some (aI (1 : Int32)), some (aI (6 : Int32)), some (aR 0 1)], [aR 0 16], (cm n t v ld sh o cd pl ka kb kc, D, E))) rfl trivial ?_
  refine z_Ev_call0 (m' := m_X4_shareOutNow) (as := [aR 0 16]) (r := []) (hN) rfl rfl ?_
  refine z_Ev_blk 5 (c' := (135, [some (aR 0 16), some (aI (1 : Int32)), some (aI (6 : Int32)), some (aR 0 1)], [aI (LD 1)], (cm n t v LD SH o cd pl ka kb kc, D, E))) rfl ⟨rfl, trivial⟩ ?_
  exact z_Ev_iretE rfl rfl (by rfl) (by rfl)
theorem c_setOf0_1_7 {xs : Nat → Int32} {L : Nat}  (n t : Nat → Int32) (v : Nat → Nat → Int32) (ld sh o cd pl ka kb kc : Nat → Int32) (D : Nat → Nat → Int32) (E : Nat → Int64)  : z_Mt xs L m_X4_setOf [aR 0 16, aI (1 : Int32), aI (7 : Int32)] (cm n t v ld sh o cd pl ka kb kc, D, E) (.inl (some (aI (n 25)))) (cm n t v ld sh o cd pl ka kb kc, D, E) 0 := by
  refine z_Ev_blk 1 (c' := (1, [some (aR 0 16), some (aI (1 : Int32)), some (aI (7 : Int32)), none], [aI (1 : Int32)], (cm n t v ld sh o cd pl ka kb kc, D, E))) rfl trivial ?_
  refine z_Ev_call0 (m' := m_X4_isSet) (as := [aI (1 : Int32)]) (r := []) ((by have q := e_isSet (xs := xs) (L := L) (1 : Int32) (cm n t v ld sh o cd pl ka kb kc) D E; rw [f_b_t (by decide)] at q; exact q)) rfl rfl ?_
  refine z_Ev_blk 1 (c' := ((if (1 : Int32) = 0 then 21 else 7), [some (aR 0 16), some (aI (1 : Int32)), some (aI (7 : Int32)), none], [], (cm n t v ld sh o cd pl ka kb kc, D, E))) rfl trivial ?_
  refine z_Ev_else (by decide) ?_
  refine z_Ev_blk 3 (c' := (11, [some (aR 0 16), some (aI (1 : Int32)), some (aI (7 : Int32)), none], [aI (7 : Int32), aI (8 : Int32), aI (0 : Int32)], (cm n t v ld sh o cd pl ka kb kc, D, E))) rfl trivial ?_
  refine z_Ev_call0 (m' := m_X4_isFrom) (as := [aI (0 : Int32), aI (8 : Int32), aI (7 : Int32)]) (r := []) ((by have q := e_isFrom (xs := xs) (L := L) (0 : Int32) (8 : Int32) (7 : Int32) (cm n t v ld sh o cd pl ka kb kc) D E; rw [f_b_t (by decide)] at q; exact q)) rfl rfl ?_
  refine z_Ev_blk 1 (c' := ((if (1 : Int32) = 0 then 21 else 17), [some (aR 0 16), some (aI (1 : Int32)), some (aI (7 : Int32)), none], [], (cm n t v ld sh o cd pl ka kb kc, D, E))) rfl trivial ?_
  refine z_Ev_else (by decide) ?_
  refine z_Ev_blk 2 (c' := (22, [some (aR 0 16), some (aI (1 : Int32)), some (aI (7 : Int32)), none], [aI (1 : Int32)], (cm n t v ld sh o cd pl ka kb kc, D, E))) rfl trivial ?_
  refine z_Ev_call0 (m' := m_X4_requireArgument) (as := [aI (1 : Int32)]) (r := []) (e_reqA1 (cm n t v ld sh o cd pl ka kb kc) D E) rfl rfl ?_
  refine z_Ev_blk 6 (c' := (136, [some (aR 0 16), some (aI (1 : Int32)), some (aI (7 : Int32)), some (aR 0 1)], [], (cm n t v ld sh o cd pl ka kb kc, D, E))) rfl trivial ?_
  refine z_Ev_blk 4 (c' := (142, [some (aR 0 16), some (aI (1 : Int32)), some (aI (7 : Int32)), some (aR 0 1)], [aI (n 25)], (cm n t v ld sh o cd pl ka kb kc, D, E))) rfl ⟨rfl, trivial⟩ ?_
  exact z_Ev_iretE rfl rfl (by rfl) (by rfl)
theorem c_setOf0_1_8 {xs : Nat → Int32} {L : Nat}  (n t : Nat → Int32) (v : Nat → Nat → Int32) (ld sh o cd pl ka kb kc : Nat → Int32) (D : Nat → Nat → Int32) (E : Nat → Int64)  : z_Mt xs L m_X4_setOf [aR 0 16, aI (1 : Int32), aI (8 : Int32)] (cm n t v ld sh o cd pl ka kb kc, D, E) (.inl (some (aI (n 29)))) (cm n t v ld sh o cd pl ka kb kc, D, E) 0 := by
  refine z_Ev_blk 1 (c' := (1, [some (aR 0 16), some (aI (1 : Int32)), some (aI (8 : Int32)), none], [aI (1 : Int32)], (cm n t v ld sh o cd pl ka kb kc, D, E))) rfl trivial ?_
  refine z_Ev_call0 (m' := m_X4_isSet) (as := [aI (1 : Int32)]) (r := []) ((by have q := e_isSet (xs := xs) (L := L) (1 : Int32) (cm n t v ld sh o cd pl ka kb kc) D E; rw [f_b_t (by decide)] at q; exact q)) rfl rfl ?_
  refine z_Ev_blk 1 (c' := ((if (1 : Int32) = 0 then 21 else 7), [some (aR 0 16), some (aI (1 : Int32)), some (aI (8 : Int32)), none], [], (cm n t v ld sh o cd pl ka kb kc, D, E))) rfl trivial ?_
  refine z_Ev_else (by decide) ?_
  refine z_Ev_blk 3 (c' := (11, [some (aR 0 16), some (aI (1 : Int32)), some (aI (8 : Int32)), none], [aI (8 : Int32), aI (8 : Int32), aI (0 : Int32)], (cm n t v ld sh o cd pl ka kb kc, D, E))) rfl trivial ?_
  refine z_Ev_call0 (m' := m_X4_isFrom) (as := [aI (0 : Int32), aI (8 : Int32), aI (8 : Int32)]) (r := []) ((by have q := e_isFrom (xs := xs) (L := L) (0 : Int32) (8 : Int32) (8 : Int32) (cm n t v ld sh o cd pl ka kb kc) D E; rw [f_b_t (by decide)] at q; exact q)) rfl rfl ?_
  refine z_Ev_blk 1 (c' := ((if (1 : Int32) = 0 then 21 else 17), [some (aR 0 16), some (aI (1 : Int32)), some (aI (8 : Int32)), none], [], (cm n t v ld sh o cd pl ka kb kc, D, E))) rfl trivial ?_
  refine z_Ev_else (by decide) ?_
  refine z_Ev_blk 2 (c' := (22, [some (aR 0 16), some (aI (1 : Int32)), some (aI (8 : Int32)), none], [aI (1 : Int32)], (cm n t v ld sh o cd pl ka kb kc, D, E))) rfl trivial ?_
  refine z_Ev_call0 (m' := m_X4_requireArgument) (as := [aI (1 : Int32)]) (r := []) (e_reqA1 (cm n t v ld sh o cd pl ka kb kc) D E) rfl rfl ?_
  refine z_Ev_blk 6 (c' := (143, [some (aR 0 16), some (aI (1 : Int32)), some (aI (8 : Int32)), some (aR 0 1)], [], (cm n t v ld sh o cd pl ka kb kc, D, E))) rfl trivial ?_
  refine z_Ev_blk 4 (c' := (149, [some (aR 0 16), some (aI (1 : Int32)), some (aI (8 : Int32)), some (aR 0 1)], [aI (n 29)], (cm n t v ld sh o cd pl ka kb kc, D, E))) rfl ⟨rfl, trivial⟩ ?_
  exact z_Ev_iretE rfl rfl (by rfl) (by rfl)
theorem c_setOf0_2_0 {xs : Nat → Int32} {L : Nat}  (n t : Nat → Int32) (v : Nat → Nat → Int32) (ld sh o cd pl ka kb kc : Nat → Int32) (D : Nat → Nat → Int32) (E : Nat → Int64)  : z_Mt xs L m_X4_setOf [aR 0 16, aI (2 : Int32), aI (0 : Int32)] (cm n t v ld sh o cd pl ka kb kc, D, E) (.inl (some (aI (n 2)))) (cm n t v ld sh o cd pl ka kb kc, D, E) 0 := by
  refine z_Ev_blk 1 (c' := (1, [some (aR 0 16), some (aI (2 : Int32)), some (aI (0 : Int32)), none], [aI (2 : Int32)], (cm n t v ld sh o cd pl ka kb kc, D, E))) rfl trivial ?_
  refine z_Ev_call0 (m' := m_X4_isSet) (as := [aI (2 : Int32)]) (r := []) ((by have q := e_isSet (xs := xs) (L := L) (2 : Int32) (cm n t v ld sh o cd pl ka kb kc) D E; rw [f_b_t (by decide)] at q; exact q)) rfl rfl ?_
  refine z_Ev_blk 1 (c' := ((if (1 : Int32) = 0 then 21 else 7), [some (aR 0 16), some (aI (2 : Int32)), some (aI (0 : Int32)), none], [], (cm n t v ld sh o cd pl ka kb kc, D, E))) rfl trivial ?_
  refine z_Ev_else (by decide) ?_
  refine z_Ev_blk 3 (c' := (11, [some (aR 0 16), some (aI (2 : Int32)), some (aI (0 : Int32)), none], [aI (0 : Int32), aI (8 : Int32), aI (0 : Int32)], (cm n t v ld sh o cd pl ka kb kc, D, E))) rfl trivial ?_
  refine z_Ev_call0 (m' := m_X4_isFrom) (as := [aI (0 : Int32), aI (8 : Int32), aI (0 : Int32)]) (r := []) ((by have q := e_isFrom (xs := xs) (L := L) (0 : Int32) (8 : Int32) (0 : Int32) (cm n t v ld sh o cd pl ka kb kc) D E; rw [f_b_t (by decide)] at q; exact q)) rfl rfl ?_
  refine z_Ev_blk 1 (c' := ((if (1 : Int32) = 0 then 21 else 17), [some (aR 0 16), some (aI (2 : Int32)), some (aI (0 : Int32)), none], [], (cm n t v ld sh o cd pl ka kb kc, D, E))) rfl trivial ?_
  refine z_Ev_else (by decide) ?_
  refine z_Ev_blk 2 (c' := (22, [some (aR 0 16), some (aI (2 : Int32)), some (aI (0 : Int32)), none], [aI (1 : Int32)], (cm n t v ld sh o cd pl ka kb kc, D, E))) rfl trivial ?_
  refine z_Ev_call0 (m' := m_X4_requireArgument) (as := [aI (1 : Int32)]) (r := []) (e_reqA1 (cm n t v ld sh o cd pl ka kb kc) D E) rfl rfl ?_
  refine z_Ev_blk 6 (c' := (80, [some (aR 0 16), some (aI (2 : Int32)), some (aI (0 : Int32)), some (aR 0 1)], [], (cm n t v ld sh o cd pl ka kb kc, D, E))) rfl trivial ?_
  refine z_Ev_blk 4 (c' := (86, [some (aR 0 16), some (aI (2 : Int32)), some (aI (0 : Int32)), some (aR 0 1)], [aI (n 2)], (cm n t v ld sh o cd pl ka kb kc, D, E))) rfl ⟨rfl, trivial⟩ ?_
  exact z_Ev_iretE rfl rfl (by rfl) (by rfl)
theorem c_setOf0_2_1 {xs : Nat → Int32} {L : Nat}  (n t : Nat → Int32) (v : Nat → Nat → Int32) (ld sh o cd pl ka kb kc : Nat → Int32) (D : Nat → Nat → Int32) (E : Nat → Int64)  : z_Mt xs L m_X4_setOf [aR 0 16, aI (2 : Int32), aI (1 : Int32)] (cm n t v ld sh o cd pl ka kb kc, D, E) (.inl (some (aI (n 6)))) (cm n t v ld sh o cd pl ka kb kc, D, E) 0 := by
  refine z_Ev_blk 1 (c' := (1, [some (aR 0 16), some (aI (2 : Int32)), some (aI (1 : Int32)), none], [aI (2 : Int32)], (cm n t v ld sh o cd pl ka kb kc, D, E))) rfl trivial ?_
  refine z_Ev_call0 (m' := m_X4_isSet) (as := [aI (2 : Int32)]) (r := []) ((by have q := e_isSet (xs := xs) (L := L) (2 : Int32) (cm n t v ld sh o cd pl ka kb kc) D E; rw [f_b_t (by decide)] at q; exact q)) rfl rfl ?_
  refine z_Ev_blk 1 (c' := ((if (1 : Int32) = 0 then 21 else 7), [some (aR 0 16), some (aI (2 : Int32)), some (aI (1 : Int32)), none], [], (cm n t v ld sh o cd pl ka kb kc, D, E))) rfl trivial ?_
  refine z_Ev_else (by decide) ?_
  refine z_Ev_blk 3 (c' := (11, [some (aR 0 16), some (aI (2 : Int32)), some (aI (1 : Int32)), none], [aI (1 : Int32), aI (8 : Int32), aI (0 : Int32)], (cm n t v ld sh o cd pl ka kb kc, D, E))) rfl trivial ?_
  refine z_Ev_call0 (m' := m_X4_isFrom) (as := [aI (0 : Int32), aI (8 : Int32), aI (1 : Int32)]) (r := []) ((by have q := e_isFrom (xs := xs) (L := L) (0 : Int32) (8 : Int32) (1 : Int32) (cm n t v ld sh o cd pl ka kb kc) D E; rw [f_b_t (by decide)] at q; exact q)) rfl rfl ?_
  refine z_Ev_blk 1 (c' := ((if (1 : Int32) = 0 then 21 else 17), [some (aR 0 16), some (aI (2 : Int32)), some (aI (1 : Int32)), none], [], (cm n t v ld sh o cd pl ka kb kc, D, E))) rfl trivial ?_
  refine z_Ev_else (by decide) ?_
  refine z_Ev_blk 2 (c' := (22, [some (aR 0 16), some (aI (2 : Int32)), some (aI (1 : Int32)), none], [aI (1 : Int32)], (cm n t v ld sh o cd pl ka kb kc, D, E))) rfl trivial ?_
  refine z_Ev_call0 (m' := m_X4_requireArgument) (as := [aI (1 : Int32)]) (r := []) (e_reqA1 (cm n t v ld sh o cd pl ka kb kc) D E) rfl rfl ?_
  refine z_Ev_blk 6 (c' := (87, [some (aR 0 16), some (aI (2 : Int32)), some (aI (1 : Int32)), some (aR 0 1)], [], (cm n t v ld sh o cd pl ka kb kc, D, E))) rfl trivial ?_
  refine z_Ev_blk 4 (c' := (93, [some (aR 0 16), some (aI (2 : Int32)), some (aI (1 : Int32)), some (aR 0 1)], [aI (n 6)], (cm n t v ld sh o cd pl ka kb kc, D, E))) rfl ⟨rfl, trivial⟩ ?_
  exact z_Ev_iretE rfl rfl (by rfl) (by rfl)
theorem c_setOf0_2_2 {xs : Nat → Int32} {L : Nat}  (n t : Nat → Int32) (v : Nat → Nat → Int32) (ld sh o cd pl ka kb kc : Nat → Int32) (D : Nat → Nat → Int32) (E : Nat → Int64)  : z_Mt xs L m_X4_setOf [aR 0 16, aI (2 : Int32), aI (2 : Int32)] (cm n t v ld sh o cd pl ka kb kc, D, E) (.inl (some (aI (n 10)))) (cm n t v ld sh o cd pl ka kb kc, D, E) 0 := by
  refine z_Ev_blk 1 (c' := (1, [some (aR 0 16), some (aI (2 : Int32)), some (aI (2 : Int32)), none], [aI (2 : Int32)], (cm n t v ld sh o cd pl ka kb kc, D, E))) rfl trivial ?_
  refine z_Ev_call0 (m' := m_X4_isSet) (as := [aI (2 : Int32)]) (r := []) ((by have q := e_isSet (xs := xs) (L := L) (2 : Int32) (cm n t v ld sh o cd pl ka kb kc) D E; rw [f_b_t (by decide)] at q; exact q)) rfl rfl ?_
  refine z_Ev_blk 1 (c' := ((if (1 : Int32) = 0 then 21 else 7), [some (aR 0 16), some (aI (2 : Int32)), some (aI (2 : Int32)), none], [], (cm n t v ld sh o cd pl ka kb kc, D, E))) rfl trivial ?_
  refine z_Ev_else (by decide) ?_
  refine z_Ev_blk 3 (c' := (11, [some (aR 0 16), some (aI (2 : Int32)), some (aI (2 : Int32)), none], [aI (2 : Int32), aI (8 : Int32), aI (0 : Int32)], (cm n t v ld sh o cd pl ka kb kc, D, E))) rfl trivial ?_
  refine z_Ev_call0 (m' := m_X4_isFrom) (as := [aI (0 : Int32), aI (8 : Int32), aI (2 : Int32)]) (r := []) ((by have q := e_isFrom (xs := xs) (L := L) (0 : Int32) (8 : Int32) (2 : Int32) (cm n t v ld sh o cd pl ka kb kc) D E; rw [f_b_t (by decide)] at q; exact q)) rfl rfl ?_
  refine z_Ev_blk 1 (c' := ((if (1 : Int32) = 0 then 21 else 17), [some (aR 0 16), some (aI (2 : Int32)), some (aI (2 : Int32)), none], [], (cm n t v ld sh o cd pl ka kb kc, D, E))) rfl trivial ?_
  refine z_Ev_else (by decide) ?_
  refine z_Ev_blk 2 (c' := (22, [some (aR 0 16), some (aI (2 : Int32)), some (aI (2 : Int32)), none], [aI (1 : Int32)], (cm n t v ld sh o cd pl ka kb kc, D, E))) rfl trivial ?_
  refine z_Ev_call0 (m' := m_X4_requireArgument) (as := [aI (1 : Int32)]) (r := []) (e_reqA1 (cm n t v ld sh o cd pl ka kb kc) D E) rfl rfl ?_
  refine z_Ev_blk 6 (c' := (94, [some (aR 0 16), some (aI (2 : Int32)), some (aI (2 : Int32)), some (aR 0 1)], [], (cm n t v ld sh o cd pl ka kb kc, D, E))) rfl trivial ?_
  refine z_Ev_blk 4 (c' := (100, [some (aR 0 16), some (aI (2 : Int32)), some (aI (2 : Int32)), some (aR 0 1)], [aI (n 10)], (cm n t v ld sh o cd pl ka kb kc, D, E))) rfl ⟨rfl, trivial⟩ ?_
  exact z_Ev_iretE rfl rfl (by rfl) (by rfl)
theorem c_setOf0_2_3 {xs : Nat → Int32} {L : Nat}  (n t : Nat → Int32) (v : Nat → Nat → Int32) (ld sh o cd pl ka kb kc : Nat → Int32) (D : Nat → Nat → Int32) (E : Nat → Int64)  : z_Mt xs L m_X4_setOf [aR 0 16, aI (2 : Int32), aI (3 : Int32)] (cm n t v ld sh o cd pl ka kb kc, D, E) (.inl (some (aI (n 14)))) (cm n t v ld sh o cd pl ka kb kc, D, E) 0 := by
  refine z_Ev_blk 1 (c' := (1, [some (aR 0 16), some (aI (2 : Int32)), some (aI (3 : Int32)), none], [aI (2 : Int32)], (cm n t v ld sh o cd pl ka kb kc, D, E))) rfl trivial ?_
  refine z_Ev_call0 (m' := m_X4_isSet) (as := [aI (2 : Int32)]) (r := []) ((by have q := e_isSet (xs := xs) (L := L) (2 : Int32) (cm n t v ld sh o cd pl ka kb kc) D E; rw [f_b_t (by decide)] at q; exact q)) rfl rfl ?_
  refine z_Ev_blk 1 (c' := ((if (1 : Int32) = 0 then 21 else 7), [some (aR 0 16), some (aI (2 : Int32)), some (aI (3 : Int32)), none], [], (cm n t v ld sh o cd pl ka kb kc, D, E))) rfl trivial ?_
  refine z_Ev_else (by decide) ?_
  refine z_Ev_blk 3 (c' := (11, [some (aR 0 16), some (aI (2 : Int32)), some (aI (3 : Int32)), none], [aI (3 : Int32), aI (8 : Int32), aI (0 : Int32)], (cm n t v ld sh o cd pl ka kb kc, D, E))) rfl trivial ?_
  refine z_Ev_call0 (m' := m_X4_isFrom) (as := [aI (0 : Int32), aI (8 : Int32), aI (3 : Int32)]) (r := []) ((by have q := e_isFrom (xs := xs) (L := L) (0 : Int32) (8 : Int32) (3 : Int32) (cm n t v ld sh o cd pl ka kb kc) D E; rw [f_b_t (by decide)] at q; exact q)) rfl rfl ?_
  refine z_Ev_blk 1 (c' := ((if (1 : Int32) = 0 then 21 else 17), [some (aR 0 16), some (aI (2 : Int32)), some (aI (3 : Int32)), none], [], (cm n t v ld sh o cd pl ka kb kc, D, E))) rfl trivial ?_
  refine z_Ev_else (by decide) ?_
  refine z_Ev_blk 2 (c' := (22, [some (aR 0 16), some (aI (2 : Int32)), some (aI (3 : Int32)), none], [aI (1 : Int32)], (cm n t v ld sh o cd pl ka kb kc, D, E))) rfl trivial ?_
  refine z_Ev_call0 (m' := m_X4_requireArgument) (as := [aI (1 : Int32)]) (r := []) (e_reqA1 (cm n t v ld sh o cd pl ka kb kc) D E) rfl rfl ?_
  refine z_Ev_blk 6 (c' := (101, [some (aR 0 16), some (aI (2 : Int32)), some (aI (3 : Int32)), some (aR 0 1)], [], (cm n t v ld sh o cd pl ka kb kc, D, E))) rfl trivial ?_
  refine z_Ev_blk 4 (c' := (107, [some (aR 0 16), some (aI (2 : Int32)), some (aI (3 : Int32)), some (aR 0 1)], [aI (n 14)], (cm n t v ld sh o cd pl ka kb kc, D, E))) rfl ⟨rfl, trivial⟩ ?_
  exact z_Ev_iretE rfl rfl (by rfl) (by rfl)
theorem c_setOf0_2_4 {xs : Nat → Int32} {L : Nat}  (n t : Nat → Int32) (v : Nat → Nat → Int32) (ld sh o cd pl ka kb kc : Nat → Int32) (D : Nat → Nat → Int32) (E : Nat → Int64)  : z_Mt xs L m_X4_setOf [aR 0 16, aI (2 : Int32), aI (4 : Int32)] (cm n t v ld sh o cd pl ka kb kc, D, E) (.inl (some (aI (n 18)))) (cm n t v ld sh o cd pl ka kb kc, D, E) 0 := by
  refine z_Ev_blk 1 (c' := (1, [some (aR 0 16), some (aI (2 : Int32)), some (aI (4 : Int32)), none], [aI (2 : Int32)], (cm n t v ld sh o cd pl ka kb kc, D, E))) rfl trivial ?_
  refine z_Ev_call0 (m' := m_X4_isSet) (as := [aI (2 : Int32)]) (r := []) ((by have q := e_isSet (xs := xs) (L := L) (2 : Int32) (cm n t v ld sh o cd pl ka kb kc) D E; rw [f_b_t (by decide)] at q; exact q)) rfl rfl ?_
  refine z_Ev_blk 1 (c' := ((if (1 : Int32) = 0 then 21 else 7), [some (aR 0 16), some (aI (2 : Int32)), some (aI (4 : Int32)), none], [], (cm n t v ld sh o cd pl ka kb kc, D, E))) rfl trivial ?_
  refine z_Ev_else (by decide) ?_
  refine z_Ev_blk 3 (c' := (11, [some (aR 0 16), some (aI (2 : Int32)), some (aI (4 : Int32)), none], [aI (4 : Int32), aI (8 : Int32), aI (0 : Int32)], (cm n t v ld sh o cd pl ka kb kc, D, E))) rfl trivial ?_
  refine z_Ev_call0 (m' := m_X4_isFrom) (as := [aI (0 : Int32), aI (8 : Int32), aI (4 : Int32)]) (r := []) ((by have q := e_isFrom (xs := xs) (L := L) (0 : Int32) (8 : Int32) (4 : Int32) (cm n t v ld sh o cd pl ka kb kc) D E; rw [f_b_t (by decide)] at q; exact q)) rfl rfl ?_
  refine z_Ev_blk 1 (c' := ((if (1 : Int32) = 0 then 21 else 17), [some (aR 0 16), some (aI (2 : Int32)), some (aI (4 : Int32)), none], [], (cm n t v ld sh o cd pl ka kb kc, D, E))) rfl trivial ?_
  refine z_Ev_else (by decide) ?_
  refine z_Ev_blk 2 (c' := (22, [some (aR 0 16), some (aI (2 : Int32)), some (aI (4 : Int32)), none], [aI (1 : Int32)], (cm n t v ld sh o cd pl ka kb kc, D, E))) rfl trivial ?_
  refine z_Ev_call0 (m' := m_X4_requireArgument) (as := [aI (1 : Int32)]) (r := []) (e_reqA1 (cm n t v ld sh o cd pl ka kb kc) D E) rfl rfl ?_
  refine z_Ev_blk 6 (c' := (108, [some (aR 0 16), some (aI (2 : Int32)), some (aI (4 : Int32)), some (aR 0 1)], [], (cm n t v ld sh o cd pl ka kb kc, D, E))) rfl trivial ?_
  refine z_Ev_blk 4 (c' := (114, [some (aR 0 16), some (aI (2 : Int32)), some (aI (4 : Int32)), some (aR 0 1)], [aI (n 18)], (cm n t v ld sh o cd pl ka kb kc, D, E))) rfl ⟨rfl, trivial⟩ ?_
  exact z_Ev_iretE rfl rfl (by rfl) (by rfl)
theorem c_setOf0_2_5 {xs : Nat → Int32} {L : Nat}  (n t : Nat → Int32) (v : Nat → Nat → Int32) (ld sh o cd pl ka kb kc : Nat → Int32) (D : Nat → Nat → Int32) (E : Nat → Int64)  : z_Mt xs L m_X4_setOf [aR 0 16, aI (2 : Int32), aI (5 : Int32)] (cm n t v ld sh o cd pl ka kb kc, D, E) (.inl (some (aI (n 22)))) (cm n t v ld sh o cd pl ka kb kc, D, E) 0 := by
  refine z_Ev_blk 1 (c' := (1, [some (aR 0 16), some (aI (2 : Int32)), some (aI (5 : Int32)), none], [aI (2 : Int32)], (cm n t v ld sh o cd pl ka kb kc, D, E))) rfl trivial ?_
  refine z_Ev_call0 (m' := m_X4_isSet) (as := [aI (2 : Int32)]) (r := []) ((by have q := e_isSet (xs := xs) (L := L) (2 : Int32) (cm n t v ld sh o cd pl ka kb kc) D E; rw [f_b_t (by decide)] at q; exact q)) rfl rfl ?_
  refine z_Ev_blk 1 (c' := ((if (1 : Int32) = 0 then 21 else 7), [some (aR 0 16), some (aI (2 : Int32)), some (aI (5 : Int32)), none], [], (cm n t v ld sh o cd pl ka kb kc, D, E))) rfl trivial ?_
  refine z_Ev_else (by decide) ?_
  refine z_Ev_blk 3 (c' := (11, [some (aR 0 16), some (aI (2 : Int32)), some (aI (5 : Int32)), none], [aI (5 : Int32), aI (8 : Int32), aI (0 : Int32)], (cm n t v ld sh o cd pl ka kb kc, D, E))) rfl trivial ?_
  refine z_Ev_call0 (m' := m_X4_isFrom) (as := [aI (0 : Int32), aI (8 : Int32), aI (5 : Int32)]) (r := []) ((by have q := e_isFrom (xs := xs) (L := L) (0 : Int32) (8 : Int32) (5 : Int32) (cm n t v ld sh o cd pl ka kb kc) D E; rw [f_b_t (by decide)] at q; exact q)) rfl rfl ?_
  refine z_Ev_blk 1 (c' := ((if (1 : Int32) = 0 then 21 else 17), [some (aR 0 16), some (aI (2 : Int32)), some (aI (5 : Int32)), none], [], (cm n t v ld sh o cd pl ka kb kc, D, E))) rfl trivial ?_
  refine z_Ev_else (by decide) ?_
  refine z_Ev_blk 2 (c' := (22, [some (aR 0 16), some (aI (2 : Int32)), some (aI (5 : Int32)), none], [aI (1 : Int32)], (cm n t v ld sh o cd pl ka kb kc, D, E))) rfl trivial ?_
  refine z_Ev_call0 (m' := m_X4_requireArgument) (as := [aI (1 : Int32)]) (r := []) (e_reqA1 (cm n t v ld sh o cd pl ka kb kc) D E) rfl rfl ?_
  refine z_Ev_blk 6 (c' := (115, [some (aR 0 16), some (aI (2 : Int32)), some (aI (5 : Int32)), some (aR 0 1)], [], (cm n t v ld sh o cd pl ka kb kc, D, E))) rfl trivial ?_
  refine z_Ev_blk 4 (c' := (121, [some (aR 0 16), some (aI (2 : Int32)), some (aI (5 : Int32)), some (aR 0 1)], [aI (n 22)], (cm n t v ld sh o cd pl ka kb kc, D, E))) rfl ⟨rfl, trivial⟩ ?_
  exact z_Ev_iretE rfl rfl (by rfl) (by rfl)
theorem c_setOf0_2_6 {xs : Nat → Int32} {L : Nat} (LD SH : Nat → Int32) (n t : Nat → Int32) (v : Nat → Nat → Int32) (ld sh o cd pl ka kb kc : Nat → Int32) (D : Nat → Nat → Int32) (E : Nat → Int64) (hN : z_Mt xs L m_X4_shareOutNow [aR 0 16] (cm n t v ld sh o cd pl ka kb kc, D, E) (.inl none) (cm n t v LD SH o cd pl ka kb kc, D, E) 0) : z_Mt xs L m_X4_setOf [aR 0 16, aI (2 : Int32), aI (6 : Int32)] (cm n t v ld sh o cd pl ka kb kc, D, E) (.inl (some (aI (LD 2)))) (cm n t v LD SH o cd pl ka kb kc, D, E) 0 := by
  refine z_Ev_blk 1 (c' := (1, [some (aR 0 16), some (aI (2 : Int32)), some (aI (6 : Int32)), none], [aI (2 : Int32)], (cm n t v ld sh o cd pl ka kb kc, D, E))) rfl trivial ?_
  refine z_Ev_call0 (m' := m_X4_isSet) (as := [aI (2 : Int32)]) (r := []) ((by have q := e_isSet (xs := xs) (L := L) (2 : Int32) (cm n t v ld sh o cd pl ka kb kc) D E; rw [f_b_t (by decide)] at q; exact q)) rfl rfl ?_
  refine z_Ev_blk 1 (c' := ((if (1 : Int32) = 0 then 21 else 7), [some (aR 0 16), some (aI (2 : Int32)), some (aI (6 : Int32)), none], [], (cm n t v ld sh o cd pl ka kb kc, D, E))) rfl trivial ?_
  refine z_Ev_else (by decide) ?_
  refine z_Ev_blk 3 (c' := (11, [some (aR 0 16), some (aI (2 : Int32)), some (aI (6 : Int32)), none], [aI (6 : Int32), aI (8 : Int32), aI (0 : Int32)], (cm n t v ld sh o cd pl ka kb kc, D, E))) rfl trivial ?_
  refine z_Ev_call0 (m' := m_X4_isFrom) (as := [aI (0 : Int32), aI (8 : Int32), aI (6 : Int32)]) (r := []) ((by have q := e_isFrom (xs := xs) (L := L) (0 : Int32) (8 : Int32) (6 : Int32) (cm n t v ld sh o cd pl ka kb kc) D E; rw [f_b_t (by decide)] at q; exact q)) rfl rfl ?_
  refine z_Ev_blk 1 (c' := ((if (1 : Int32) = 0 then 21 else 17), [some (aR 0 16), some (aI (2 : Int32)), some (aI (6 : Int32)), none], [], (cm n t v ld sh o cd pl ka kb kc, D, E))) rfl trivial ?_
  refine z_Ev_else (by decide) ?_
  refine z_Ev_blk 2 (c' := (22, [some (aR 0 16), some (aI (2 : Int32)), some (aI (6 : Int32)), none], [aI (1 : Int32)], (cm n t v ld sh o cd pl ka kb kc, D, E))) rfl trivial ?_
  refine z_Ev_call0 (m' := m_X4_requireArgument) (as := [aI (1 : Int32)]) (r := []) (e_reqA1 (cm n t v ld sh o cd pl ka kb kc) D E) rfl rfl ?_
  refine z_Ev_blk 6 (c' := (122, [some (aR 0 16), some (aI (2 : Int32)), some (aI (6 : Int32)), some (aR 0 1)], [], (cm n t v ld sh o cd pl ka kb kc, D, E))) rfl trivial ?_
  refine z_Ev_blk 1 (c' := (123, [some (aR 0 16), some (aI (2 : Int32)), some (aI (6 : Int32)), some (aR 0 1)], [aR 0 16], (cm n t v ld sh o cd pl ka kb kc, D, E))) rfl trivial ?_
  refine z_Ev_call0 (m' := m_X4_shareOutNow) (as := [aR 0 16]) (r := []) (hN) rfl rfl ?_
  refine z_Ev_blk 5 (c' := (135, [some (aR 0 16), some (aI (2 : Int32)), some (aI (6 : Int32)), some (aR 0 1)], [aI (LD 2)], (cm n t v LD SH o cd pl ka kb kc, D, E))) rfl ⟨rfl, trivial⟩ ?_
  exact z_Ev_iretE rfl rfl (by rfl) (by rfl)
theorem c_setOf0_2_7 {xs : Nat → Int32} {L : Nat}  (n t : Nat → Int32) (v : Nat → Nat → Int32) (ld sh o cd pl ka kb kc : Nat → Int32) (D : Nat → Nat → Int32) (E : Nat → Int64)  : z_Mt xs L m_X4_setOf [aR 0 16, aI (2 : Int32), aI (7 : Int32)] (cm n t v ld sh o cd pl ka kb kc, D, E) (.inl (some (aI (n 26)))) (cm n t v ld sh o cd pl ka kb kc, D, E) 0 := by
  refine z_Ev_blk 1 (c' := (1, [some (aR 0 16), some (aI (2 : Int32)), some (aI (7 : Int32)), none], [aI (2 : Int32)], (cm n t v ld sh o cd pl ka kb kc, D, E))) rfl trivial ?_
  refine z_Ev_call0 (m' := m_X4_isSet) (as := [aI (2 : Int32)]) (r := []) ((by have q := e_isSet (xs := xs) (L := L) (2 : Int32) (cm n t v ld sh o cd pl ka kb kc) D E; rw [f_b_t (by decide)] at q; exact q)) rfl rfl ?_
  refine z_Ev_blk 1 (c' := ((if (1 : Int32) = 0 then 21 else 7), [some (aR 0 16), some (aI (2 : Int32)), some (aI (7 : Int32)), none], [], (cm n t v ld sh o cd pl ka kb kc, D, E))) rfl trivial ?_
  refine z_Ev_else (by decide) ?_
  refine z_Ev_blk 3 (c' := (11, [some (aR 0 16), some (aI (2 : Int32)), some (aI (7 : Int32)), none], [aI (7 : Int32), aI (8 : Int32), aI (0 : Int32)], (cm n t v ld sh o cd pl ka kb kc, D, E))) rfl trivial ?_
  refine z_Ev_call0 (m' := m_X4_isFrom) (as := [aI (0 : Int32), aI (8 : Int32), aI (7 : Int32)]) (r := []) ((by have q := e_isFrom (xs := xs) (L := L) (0 : Int32) (8 : Int32) (7 : Int32) (cm n t v ld sh o cd pl ka kb kc) D E; rw [f_b_t (by decide)] at q; exact q)) rfl rfl ?_
  refine z_Ev_blk 1 (c' := ((if (1 : Int32) = 0 then 21 else 17), [some (aR 0 16), some (aI (2 : Int32)), some (aI (7 : Int32)), none], [], (cm n t v ld sh o cd pl ka kb kc, D, E))) rfl trivial ?_
  refine z_Ev_else (by decide) ?_
  refine z_Ev_blk 2 (c' := (22, [some (aR 0 16), some (aI (2 : Int32)), some (aI (7 : Int32)), none], [aI (1 : Int32)], (cm n t v ld sh o cd pl ka kb kc, D, E))) rfl trivial ?_
  refine z_Ev_call0 (m' := m_X4_requireArgument) (as := [aI (1 : Int32)]) (r := []) (e_reqA1 (cm n t v ld sh o cd pl ka kb kc) D E) rfl rfl ?_
  refine z_Ev_blk 6 (c' := (136, [some (aR 0 16), some (aI (2 : Int32)), some (aI (7 : Int32)), some (aR 0 1)], [], (cm n t v ld sh o cd pl ka kb kc, D, E))) rfl trivial ?_
  refine z_Ev_blk 4 (c' := (142, [some (aR 0 16), some (aI (2 : Int32)), some (aI (7 : Int32)), some (aR 0 1)], [aI (n 26)], (cm n t v ld sh o cd pl ka kb kc, D, E))) rfl ⟨rfl, trivial⟩ ?_
  exact z_Ev_iretE rfl rfl (by rfl) (by rfl)
theorem c_setOf0_2_8 {xs : Nat → Int32} {L : Nat}  (n t : Nat → Int32) (v : Nat → Nat → Int32) (ld sh o cd pl ka kb kc : Nat → Int32) (D : Nat → Nat → Int32) (E : Nat → Int64)  : z_Mt xs L m_X4_setOf [aR 0 16, aI (2 : Int32), aI (8 : Int32)] (cm n t v ld sh o cd pl ka kb kc, D, E) (.inl (some (aI (n 30)))) (cm n t v ld sh o cd pl ka kb kc, D, E) 0 := by
  refine z_Ev_blk 1 (c' := (1, [some (aR 0 16), some (aI (2 : Int32)), some (aI (8 : Int32)), none], [aI (2 : Int32)], (cm n t v ld sh o cd pl ka kb kc, D, E))) rfl trivial ?_
  refine z_Ev_call0 (m' := m_X4_isSet) (as := [aI (2 : Int32)]) (r := []) ((by have q := e_isSet (xs := xs) (L := L) (2 : Int32) (cm n t v ld sh o cd pl ka kb kc) D E; rw [f_b_t (by decide)] at q; exact q)) rfl rfl ?_
  refine z_Ev_blk 1 (c' := ((if (1 : Int32) = 0 then 21 else 7), [some (aR 0 16), some (aI (2 : Int32)), some (aI (8 : Int32)), none], [], (cm n t v ld sh o cd pl ka kb kc, D, E))) rfl trivial ?_
  refine z_Ev_else (by decide) ?_
  refine z_Ev_blk 3 (c' := (11, [some (aR 0 16), some (aI (2 : Int32)), some (aI (8 : Int32)), none], [aI (8 : Int32), aI (8 : Int32), aI (0 : Int32)], (cm n t v ld sh o cd pl ka kb kc, D, E))) rfl trivial ?_
  refine z_Ev_call0 (m' := m_X4_isFrom) (as := [aI (0 : Int32), aI (8 : Int32), aI (8 : Int32)]) (r := []) ((by have q := e_isFrom (xs := xs) (L := L) (0 : Int32) (8 : Int32) (8 : Int32) (cm n t v ld sh o cd pl ka kb kc) D E; rw [f_b_t (by decide)] at q; exact q)) rfl rfl ?_
  refine z_Ev_blk 1 (c' := ((if (1 : Int32) = 0 then 21 else 17), [some (aR 0 16), some (aI (2 : Int32)), some (aI (8 : Int32)), none], [], (cm n t v ld sh o cd pl ka kb kc, D, E))) rfl trivial ?_
  refine z_Ev_else (by decide) ?_
  refine z_Ev_blk 2 (c' := (22, [some (aR 0 16), some (aI (2 : Int32)), some (aI (8 : Int32)), none], [aI (1 : Int32)], (cm n t v ld sh o cd pl ka kb kc, D, E))) rfl trivial ?_
  refine z_Ev_call0 (m' := m_X4_requireArgument) (as := [aI (1 : Int32)]) (r := []) (e_reqA1 (cm n t v ld sh o cd pl ka kb kc) D E) rfl rfl ?_
  refine z_Ev_blk 6 (c' := (143, [some (aR 0 16), some (aI (2 : Int32)), some (aI (8 : Int32)), some (aR 0 1)], [], (cm n t v ld sh o cd pl ka kb kc, D, E))) rfl trivial ?_
  refine z_Ev_blk 4 (c' := (149, [some (aR 0 16), some (aI (2 : Int32)), some (aI (8 : Int32)), some (aR 0 1)], [aI (n 30)], (cm n t v ld sh o cd pl ka kb kc, D, E))) rfl ⟨rfl, trivial⟩ ?_
  exact z_Ev_iretE rfl rfl (by rfl) (by rfl)
theorem c_setOf0_3_0 {xs : Nat → Int32} {L : Nat}  (n t : Nat → Int32) (v : Nat → Nat → Int32) (ld sh o cd pl ka kb kc : Nat → Int32) (D : Nat → Nat → Int32) (E : Nat → Int64)  : z_Mt xs L m_X4_setOf [aR 0 16, aI (3 : Int32), aI (0 : Int32)] (cm n t v ld sh o cd pl ka kb kc, D, E) (.inl (some (aI (n 3)))) (cm n t v ld sh o cd pl ka kb kc, D, E) 0 := by
  refine z_Ev_blk 1 (c' := (1, [some (aR 0 16), some (aI (3 : Int32)), some (aI (0 : Int32)), none], [aI (3 : Int32)], (cm n t v ld sh o cd pl ka kb kc, D, E))) rfl trivial ?_
  refine z_Ev_call0 (m' := m_X4_isSet) (as := [aI (3 : Int32)]) (r := []) ((by have q := e_isSet (xs := xs) (L := L) (3 : Int32) (cm n t v ld sh o cd pl ka kb kc) D E; rw [f_b_t (by decide)] at q; exact q)) rfl rfl ?_
  refine z_Ev_blk 1 (c' := ((if (1 : Int32) = 0 then 21 else 7), [some (aR 0 16), some (aI (3 : Int32)), some (aI (0 : Int32)), none], [], (cm n t v ld sh o cd pl ka kb kc, D, E))) rfl trivial ?_
  refine z_Ev_else (by decide) ?_
  refine z_Ev_blk 3 (c' := (11, [some (aR 0 16), some (aI (3 : Int32)), some (aI (0 : Int32)), none], [aI (0 : Int32), aI (8 : Int32), aI (0 : Int32)], (cm n t v ld sh o cd pl ka kb kc, D, E))) rfl trivial ?_
  refine z_Ev_call0 (m' := m_X4_isFrom) (as := [aI (0 : Int32), aI (8 : Int32), aI (0 : Int32)]) (r := []) ((by have q := e_isFrom (xs := xs) (L := L) (0 : Int32) (8 : Int32) (0 : Int32) (cm n t v ld sh o cd pl ka kb kc) D E; rw [f_b_t (by decide)] at q; exact q)) rfl rfl ?_
  refine z_Ev_blk 1 (c' := ((if (1 : Int32) = 0 then 21 else 17), [some (aR 0 16), some (aI (3 : Int32)), some (aI (0 : Int32)), none], [], (cm n t v ld sh o cd pl ka kb kc, D, E))) rfl trivial ?_
  refine z_Ev_else (by decide) ?_
  refine z_Ev_blk 2 (c' := (22, [some (aR 0 16), some (aI (3 : Int32)), some (aI (0 : Int32)), none], [aI (1 : Int32)], (cm n t v ld sh o cd pl ka kb kc, D, E))) rfl trivial ?_
  refine z_Ev_call0 (m' := m_X4_requireArgument) (as := [aI (1 : Int32)]) (r := []) (e_reqA1 (cm n t v ld sh o cd pl ka kb kc) D E) rfl rfl ?_
  refine z_Ev_blk 6 (c' := (80, [some (aR 0 16), some (aI (3 : Int32)), some (aI (0 : Int32)), some (aR 0 1)], [], (cm n t v ld sh o cd pl ka kb kc, D, E))) rfl trivial ?_
  refine z_Ev_blk 4 (c' := (86, [some (aR 0 16), some (aI (3 : Int32)), some (aI (0 : Int32)), some (aR 0 1)], [aI (n 3)], (cm n t v ld sh o cd pl ka kb kc, D, E))) rfl ⟨rfl, trivial⟩ ?_
  exact z_Ev_iretE rfl rfl (by rfl) (by rfl)
theorem c_setOf0_3_1 {xs : Nat → Int32} {L : Nat}  (n t : Nat → Int32) (v : Nat → Nat → Int32) (ld sh o cd pl ka kb kc : Nat → Int32) (D : Nat → Nat → Int32) (E : Nat → Int64)  : z_Mt xs L m_X4_setOf [aR 0 16, aI (3 : Int32), aI (1 : Int32)] (cm n t v ld sh o cd pl ka kb kc, D, E) (.inl (some (aI (n 7)))) (cm n t v ld sh o cd pl ka kb kc, D, E) 0 := by
  refine z_Ev_blk 1 (c' := (1, [some (aR 0 16), some (aI (3 : Int32)), some (aI (1 : Int32)), none], [aI (3 : Int32)], (cm n t v ld sh o cd pl ka kb kc, D, E))) rfl trivial ?_
  refine z_Ev_call0 (m' := m_X4_isSet) (as := [aI (3 : Int32)]) (r := []) ((by have q := e_isSet (xs := xs) (L := L) (3 : Int32) (cm n t v ld sh o cd pl ka kb kc) D E; rw [f_b_t (by decide)] at q; exact q)) rfl rfl ?_
  refine z_Ev_blk 1 (c' := ((if (1 : Int32) = 0 then 21 else 7), [some (aR 0 16), some (aI (3 : Int32)), some (aI (1 : Int32)), none], [], (cm n t v ld sh o cd pl ka kb kc, D, E))) rfl trivial ?_
  refine z_Ev_else (by decide) ?_
  refine z_Ev_blk 3 (c' := (11, [some (aR 0 16), some (aI (3 : Int32)), some (aI (1 : Int32)), none], [aI (1 : Int32), aI (8 : Int32), aI (0 : Int32)], (cm n t v ld sh o cd pl ka kb kc, D, E))) rfl trivial ?_
  refine z_Ev_call0 (m' := m_X4_isFrom) (as := [aI (0 : Int32), aI (8 : Int32), aI (1 : Int32)]) (r := []) ((by have q := e_isFrom (xs := xs) (L := L) (0 : Int32) (8 : Int32) (1 : Int32) (cm n t v ld sh o cd pl ka kb kc) D E; rw [f_b_t (by decide)] at q; exact q)) rfl rfl ?_
  refine z_Ev_blk 1 (c' := ((if (1 : Int32) = 0 then 21 else 17), [some (aR 0 16), some (aI (3 : Int32)), some (aI (1 : Int32)), none], [], (cm n t v ld sh o cd pl ka kb kc, D, E))) rfl trivial ?_
  refine z_Ev_else (by decide) ?_
  refine z_Ev_blk 2 (c' := (22, [some (aR 0 16), some (aI (3 : Int32)), some (aI (1 : Int32)), none], [aI (1 : Int32)], (cm n t v ld sh o cd pl ka kb kc, D, E))) rfl trivial ?_
  refine z_Ev_call0 (m' := m_X4_requireArgument) (as := [aI (1 : Int32)]) (r := []) (e_reqA1 (cm n t v ld sh o cd pl ka kb kc) D E) rfl rfl ?_
  refine z_Ev_blk 6 (c' := (87, [some (aR 0 16), some (aI (3 : Int32)), some (aI (1 : Int32)), some (aR 0 1)], [], (cm n t v ld sh o cd pl ka kb kc, D, E))) rfl trivial ?_
  refine z_Ev_blk 4 (c' := (93, [some (aR 0 16), some (aI (3 : Int32)), some (aI (1 : Int32)), some (aR 0 1)], [aI (n 7)], (cm n t v ld sh o cd pl ka kb kc, D, E))) rfl ⟨rfl, trivial⟩ ?_
  exact z_Ev_iretE rfl rfl (by rfl) (by rfl)
theorem c_setOf0_3_2 {xs : Nat → Int32} {L : Nat}  (n t : Nat → Int32) (v : Nat → Nat → Int32) (ld sh o cd pl ka kb kc : Nat → Int32) (D : Nat → Nat → Int32) (E : Nat → Int64)  : z_Mt xs L m_X4_setOf [aR 0 16, aI (3 : Int32), aI (2 : Int32)] (cm n t v ld sh o cd pl ka kb kc, D, E) (.inl (some (aI (n 11)))) (cm n t v ld sh o cd pl ka kb kc, D, E) 0 := by
  refine z_Ev_blk 1 (c' := (1, [some (aR 0 16), some (aI (3 : Int32)), some (aI (2 : Int32)), none], [aI (3 : Int32)], (cm n t v ld sh o cd pl ka kb kc, D, E))) rfl trivial ?_
  refine z_Ev_call0 (m' := m_X4_isSet) (as := [aI (3 : Int32)]) (r := []) ((by have q := e_isSet (xs := xs) (L := L) (3 : Int32) (cm n t v ld sh o cd pl ka kb kc) D E; rw [f_b_t (by decide)] at q; exact q)) rfl rfl ?_
  refine z_Ev_blk 1 (c' := ((if (1 : Int32) = 0 then 21 else 7), [some (aR 0 16), some (aI (3 : Int32)), some (aI (2 : Int32)), none], [], (cm n t v ld sh o cd pl ka kb kc, D, E))) rfl trivial ?_
  refine z_Ev_else (by decide) ?_
  refine z_Ev_blk 3 (c' := (11, [some (aR 0 16), some (aI (3 : Int32)), some (aI (2 : Int32)), none], [aI (2 : Int32), aI (8 : Int32), aI (0 : Int32)], (cm n t v ld sh o cd pl ka kb kc, D, E))) rfl trivial ?_
  refine z_Ev_call0 (m' := m_X4_isFrom) (as := [aI (0 : Int32), aI (8 : Int32), aI (2 : Int32)]) (r := []) ((by have q := e_isFrom (xs := xs) (L := L) (0 : Int32) (8 : Int32) (2 : Int32) (cm n t v ld sh o cd pl ka kb kc) D E; rw [f_b_t (by decide)] at q; exact q)) rfl rfl ?_
  refine z_Ev_blk 1 (c' := ((if (1 : Int32) = 0 then 21 else 17), [some (aR 0 16), some (aI (3 : Int32)), some (aI (2 : Int32)), none], [], (cm n t v ld sh o cd pl ka kb kc, D, E))) rfl trivial ?_
  refine z_Ev_else (by decide) ?_
  refine z_Ev_blk 2 (c' := (22, [some (aR 0 16), some (aI (3 : Int32)), some (aI (2 : Int32)), none], [aI (1 : Int32)], (cm n t v ld sh o cd pl ka kb kc, D, E))) rfl trivial ?_
  refine z_Ev_call0 (m' := m_X4_requireArgument) (as := [aI (1 : Int32)]) (r := []) (e_reqA1 (cm n t v ld sh o cd pl ka kb kc) D E) rfl rfl ?_
  refine z_Ev_blk 6 (c' := (94, [some (aR 0 16), some (aI (3 : Int32)), some (aI (2 : Int32)), some (aR 0 1)], [], (cm n t v ld sh o cd pl ka kb kc, D, E))) rfl trivial ?_
  refine z_Ev_blk 4 (c' := (100, [some (aR 0 16), some (aI (3 : Int32)), some (aI (2 : Int32)), some (aR 0 1)], [aI (n 11)], (cm n t v ld sh o cd pl ka kb kc, D, E))) rfl ⟨rfl, trivial⟩ ?_
  exact z_Ev_iretE rfl rfl (by rfl) (by rfl)
theorem c_setOf0_3_3 {xs : Nat → Int32} {L : Nat}  (n t : Nat → Int32) (v : Nat → Nat → Int32) (ld sh o cd pl ka kb kc : Nat → Int32) (D : Nat → Nat → Int32) (E : Nat → Int64)  : z_Mt xs L m_X4_setOf [aR 0 16, aI (3 : Int32), aI (3 : Int32)] (cm n t v ld sh o cd pl ka kb kc, D, E) (.inl (some (aI (n 15)))) (cm n t v ld sh o cd pl ka kb kc, D, E) 0 := by
  refine z_Ev_blk 1 (c' := (1, [some (aR 0 16), some (aI (3 : Int32)), some (aI (3 : Int32)), none], [aI (3 : Int32)], (cm n t v ld sh o cd pl ka kb kc, D, E))) rfl trivial ?_
  refine z_Ev_call0 (m' := m_X4_isSet) (as := [aI (3 : Int32)]) (r := []) ((by have q := e_isSet (xs := xs) (L := L) (3 : Int32) (cm n t v ld sh o cd pl ka kb kc) D E; rw [f_b_t (by decide)] at q; exact q)) rfl rfl ?_
  refine z_Ev_blk 1 (c' := ((if (1 : Int32) = 0 then 21 else 7), [some (aR 0 16), some (aI (3 : Int32)), some (aI (3 : Int32)), none], [], (cm n t v ld sh o cd pl ka kb kc, D, E))) rfl trivial ?_
  refine z_Ev_else (by decide) ?_
  refine z_Ev_blk 3 (c' := (11, [some (aR 0 16), some (aI (3 : Int32)), some (aI (3 : Int32)), none], [aI (3 : Int32), aI (8 : Int32), aI (0 : Int32)], (cm n t v ld sh o cd pl ka kb kc, D, E))) rfl trivial ?_
  refine z_Ev_call0 (m' := m_X4_isFrom) (as := [aI (0 : Int32), aI (8 : Int32), aI (3 : Int32)]) (r := []) ((by have q := e_isFrom (xs := xs) (L := L) (0 : Int32) (8 : Int32) (3 : Int32) (cm n t v ld sh o cd pl ka kb kc) D E; rw [f_b_t (by decide)] at q; exact q)) rfl rfl ?_
  refine z_Ev_blk 1 (c' := ((if (1 : Int32) = 0 then 21 else 17), [some (aR 0 16), some (aI (3 : Int32)), some (aI (3 : Int32)), none], [], (cm n t v ld sh o cd pl ka kb kc, D, E))) rfl trivial ?_
  refine z_Ev_else (by decide) ?_
  refine z_Ev_blk 2 (c' := (22, [some (aR 0 16), some (aI (3 : Int32)), some (aI (3 : Int32)), none], [aI (1 : Int32)], (cm n t v ld sh o cd pl ka kb kc, D, E))) rfl trivial ?_
  refine z_Ev_call0 (m' := m_X4_requireArgument) (as := [aI (1 : Int32)]) (r := []) (e_reqA1 (cm n t v ld sh o cd pl ka kb kc) D E) rfl rfl ?_
  refine z_Ev_blk 6 (c' := (101, [some (aR 0 16), some (aI (3 : Int32)), some (aI (3 : Int32)), some (aR 0 1)], [], (cm n t v ld sh o cd pl ka kb kc, D, E))) rfl trivial ?_
  refine z_Ev_blk 4 (c' := (107, [some (aR 0 16), some (aI (3 : Int32)), some (aI (3 : Int32)), some (aR 0 1)], [aI (n 15)], (cm n t v ld sh o cd pl ka kb kc, D, E))) rfl ⟨rfl, trivial⟩ ?_
  exact z_Ev_iretE rfl rfl (by rfl) (by rfl)
theorem c_setOf0_3_4 {xs : Nat → Int32} {L : Nat}  (n t : Nat → Int32) (v : Nat → Nat → Int32) (ld sh o cd pl ka kb kc : Nat → Int32) (D : Nat → Nat → Int32) (E : Nat → Int64)  : z_Mt xs L m_X4_setOf [aR 0 16, aI (3 : Int32), aI (4 : Int32)] (cm n t v ld sh o cd pl ka kb kc, D, E) (.inl (some (aI (n 19)))) (cm n t v ld sh o cd pl ka kb kc, D, E) 0 := by
  refine z_Ev_blk 1 (c' := (1, [some (aR 0 16), some (aI (3 : Int32)), some (aI (4 : Int32)), none], [aI (3 : Int32)], (cm n t v ld sh o cd pl ka kb kc, D, E))) rfl trivial ?_
  refine z_Ev_call0 (m' := m_X4_isSet) (as := [aI (3 : Int32)]) (r := []) ((by have q := e_isSet (xs := xs) (L := L) (3 : Int32) (cm n t v ld sh o cd pl ka kb kc) D E; rw [f_b_t (by decide)] at q; exact q)) rfl rfl ?_
  refine z_Ev_blk 1 (c' := ((if (1 : Int32) = 0 then 21 else 7), [some (aR 0 16), some (aI (3 : Int32)), some (aI (4 : Int32)), none], [], (cm n t v ld sh o cd pl ka kb kc, D, E))) rfl trivial ?_
  refine z_Ev_else (by decide) ?_
  refine z_Ev_blk 3 (c' := (11, [some (aR 0 16), some (aI (3 : Int32)), some (aI (4 : Int32)), none], [aI (4 : Int32), aI (8 : Int32), aI (0 : Int32)], (cm n t v ld sh o cd pl ka kb kc, D, E))) rfl trivial ?_
  refine z_Ev_call0 (m' := m_X4_isFrom) (as := [aI (0 : Int32), aI (8 : Int32), aI (4 : Int32)]) (r := []) ((by have q := e_isFrom (xs := xs) (L := L) (0 : Int32) (8 : Int32) (4 : Int32) (cm n t v ld sh o cd pl ka kb kc) D E; rw [f_b_t (by decide)] at q; exact q)) rfl rfl ?_
  refine z_Ev_blk 1 (c' := ((if (1 : Int32) = 0 then 21 else 17), [some (aR 0 16), some (aI (3 : Int32)), some (aI (4 : Int32)), none], [], (cm n t v ld sh o cd pl ka kb kc, D, E))) rfl trivial ?_
  refine z_Ev_else (by decide) ?_
  refine z_Ev_blk 2 (c' := (22, [some (aR 0 16), some (aI (3 : Int32)), some (aI (4 : Int32)), none], [aI (1 : Int32)], (cm n t v ld sh o cd pl ka kb kc, D, E))) rfl trivial ?_
  refine z_Ev_call0 (m' := m_X4_requireArgument) (as := [aI (1 : Int32)]) (r := []) (e_reqA1 (cm n t v ld sh o cd pl ka kb kc) D E) rfl rfl ?_
  refine z_Ev_blk 6 (c' := (108, [some (aR 0 16), some (aI (3 : Int32)), some (aI (4 : Int32)), some (aR 0 1)], [], (cm n t v ld sh o cd pl ka kb kc, D, E))) rfl trivial ?_
  refine z_Ev_blk 4 (c' := (114, [some (aR 0 16), some (aI (3 : Int32)), some (aI (4 : Int32)), some (aR 0 1)], [aI (n 19)], (cm n t v ld sh o cd pl ka kb kc, D, E))) rfl ⟨rfl, trivial⟩ ?_
  exact z_Ev_iretE rfl rfl (by rfl) (by rfl)
theorem c_setOf0_3_5 {xs : Nat → Int32} {L : Nat}  (n t : Nat → Int32) (v : Nat → Nat → Int32) (ld sh o cd pl ka kb kc : Nat → Int32) (D : Nat → Nat → Int32) (E : Nat → Int64)  : z_Mt xs L m_X4_setOf [aR 0 16, aI (3 : Int32), aI (5 : Int32)] (cm n t v ld sh o cd pl ka kb kc, D, E) (.inl (some (aI (n 23)))) (cm n t v ld sh o cd pl ka kb kc, D, E) 0 := by
  refine z_Ev_blk 1 (c' := (1, [some (aR 0 16), some (aI (3 : Int32)), some (aI (5 : Int32)), none], [aI (3 : Int32)], (cm n t v ld sh o cd pl ka kb kc, D, E))) rfl trivial ?_
  refine z_Ev_call0 (m' := m_X4_isSet) (as := [aI (3 : Int32)]) (r := []) ((by have q := e_isSet (xs := xs) (L := L) (3 : Int32) (cm n t v ld sh o cd pl ka kb kc) D E; rw [f_b_t (by decide)] at q; exact q)) rfl rfl ?_
  refine z_Ev_blk 1 (c' := ((if (1 : Int32) = 0 then 21 else 7), [some (aR 0 16), some (aI (3 : Int32)), some (aI (5 : Int32)), none], [], (cm n t v ld sh o cd pl ka kb kc, D, E))) rfl trivial ?_
  refine z_Ev_else (by decide) ?_
  refine z_Ev_blk 3 (c' := (11, [some (aR 0 16), some (aI (3 : Int32)), some (aI (5 : Int32)), none], [aI (5 : Int32), aI (8 : Int32), aI (0 : Int32)], (cm n t v ld sh o cd pl ka kb kc, D, E))) rfl trivial ?_
  refine z_Ev_call0 (m' := m_X4_isFrom) (as := [aI (0 : Int32), aI (8 : Int32), aI (5 : Int32)]) (r := []) ((by have q := e_isFrom (xs := xs) (L := L) (0 : Int32) (8 : Int32) (5 : Int32) (cm n t v ld sh o cd pl ka kb kc) D E; rw [f_b_t (by decide)] at q; exact q)) rfl rfl ?_
  refine z_Ev_blk 1 (c' := ((if (1 : Int32) = 0 then 21 else 17), [some (aR 0 16), some (aI (3 : Int32)), some (aI (5 : Int32)), none], [], (cm n t v ld sh o cd pl ka kb kc, D, E))) rfl trivial ?_
  refine z_Ev_else (by decide) ?_
  refine z_Ev_blk 2 (c' := (22, [some (aR 0 16), some (aI (3 : Int32)), some (aI (5 : Int32)), none], [aI (1 : Int32)], (cm n t v ld sh o cd pl ka kb kc, D, E))) rfl trivial ?_
  refine z_Ev_call0 (m' := m_X4_requireArgument) (as := [aI (1 : Int32)]) (r := []) (e_reqA1 (cm n t v ld sh o cd pl ka kb kc) D E) rfl rfl ?_
  refine z_Ev_blk 6 (c' := (115, [some (aR 0 16), some (aI (3 : Int32)), some (aI (5 : Int32)), some (aR 0 1)], [], (cm n t v ld sh o cd pl ka kb kc, D, E))) rfl trivial ?_
  refine z_Ev_blk 4 (c' := (121, [some (aR 0 16), some (aI (3 : Int32)), some (aI (5 : Int32)), some (aR 0 1)], [aI (n 23)], (cm n t v ld sh o cd pl ka kb kc, D, E))) rfl ⟨rfl, trivial⟩ ?_
  exact z_Ev_iretE rfl rfl (by rfl) (by rfl)
theorem c_setOf0_3_6 {xs : Nat → Int32} {L : Nat} (LD SH : Nat → Int32) (n t : Nat → Int32) (v : Nat → Nat → Int32) (ld sh o cd pl ka kb kc : Nat → Int32) (D : Nat → Nat → Int32) (E : Nat → Int64) (hN : z_Mt xs L m_X4_shareOutNow [aR 0 16] (cm n t v ld sh o cd pl ka kb kc, D, E) (.inl none) (cm n t v LD SH o cd pl ka kb kc, D, E) 0) : z_Mt xs L m_X4_setOf [aR 0 16, aI (3 : Int32), aI (6 : Int32)] (cm n t v ld sh o cd pl ka kb kc, D, E) (.inl (some (aI (LD 3)))) (cm n t v LD SH o cd pl ka kb kc, D, E) 0 := by
  refine z_Ev_blk 1 (c' := (1, [some (aR 0 16), some (aI (3 : Int32)), some (aI (6 : Int32)), none], [aI (3 : Int32)], (cm n t v ld sh o cd pl ka kb kc, D, E))) rfl trivial ?_
  refine z_Ev_call0 (m' := m_X4_isSet) (as := [aI (3 : Int32)]) (r := []) ((by have q := e_isSet (xs := xs) (L := L) (3 : Int32) (cm n t v ld sh o cd pl ka kb kc) D E; rw [f_b_t (by decide)] at q; exact q)) rfl rfl ?_
  refine z_Ev_blk 1 (c' := ((if (1 : Int32) = 0 then 21 else 7), [some (aR 0 16), some (aI (3 : Int32)), some (aI (6 : Int32)), none], [], (cm n t v ld sh o cd pl ka kb kc, D, E))) rfl trivial ?_
  refine z_Ev_else (by decide) ?_
  refine z_Ev_blk 3 (c' := (11, [some (aR 0 16), some (aI (3 : Int32)), some (aI (6 : Int32)), none], [aI (6 : Int32), aI (8 : Int32), aI (0 : Int32)], (cm n t v ld sh o cd pl ka kb kc, D, E))) rfl trivial ?_
  refine z_Ev_call0 (m' := m_X4_isFrom) (as := [aI (0 : Int32), aI (8 : Int32), aI (6 : Int32)]) (r := []) ((by have q := e_isFrom (xs := xs) (L := L) (0 : Int32) (8 : Int32) (6 : Int32) (cm n t v ld sh o cd pl ka kb kc) D E; rw [f_b_t (by decide)] at q; exact q)) rfl rfl ?_
  refine z_Ev_blk 1 (c' := ((if (1 : Int32) = 0 then 21 else 17), [some (aR 0 16), some (aI (3 : Int32)), some (aI (6 : Int32)), none], [], (cm n t v ld sh o cd pl ka kb kc, D, E))) rfl trivial ?_
  refine z_Ev_else (by decide) ?_
  refine z_Ev_blk 2 (c' := (22, [some (aR 0 16), some (aI (3 : Int32)), some (aI (6 : Int32)), none], [aI (1 : Int32)], (cm n t v ld sh o cd pl ka kb kc, D, E))) rfl trivial ?_
  refine z_Ev_call0 (m' := m_X4_requireArgument) (as := [aI (1 : Int32)]) (r := []) (e_reqA1 (cm n t v ld sh o cd pl ka kb kc) D E) rfl rfl ?_
  refine z_Ev_blk 6 (c' := (122, [some (aR 0 16), some (aI (3 : Int32)), some (aI (6 : Int32)), some (aR 0 1)], [], (cm n t v ld sh o cd pl ka kb kc, D, E))) rfl trivial ?_
  refine z_Ev_blk 1 (c' := (123, [some (aR 0 16), some (aI (3 : Int32)), some (aI (6 : Int32)), some (aR 0 1)], [aR 0 16], (cm n t v ld sh o cd pl ka kb kc, D, E))) rfl trivial ?_
  refine z_Ev_call0 (m' := m_X4_shareOutNow) (as := [aR 0 16]) (r := []) (hN) rfl rfl ?_
  refine z_Ev_blk 5 (c' := (135, [some (aR 0 16), some (aI (3 : Int32)), some (aI (6 : Int32)), some (aR 0 1)], [aI (LD 3)], (cm n t v LD SH o cd pl ka kb kc, D, E))) rfl ⟨rfl, trivial⟩ ?_
  exact z_Ev_iretE rfl rfl (by rfl) (by rfl)
theorem c_setOf0_3_7 {xs : Nat → Int32} {L : Nat}  (n t : Nat → Int32) (v : Nat → Nat → Int32) (ld sh o cd pl ka kb kc : Nat → Int32) (D : Nat → Nat → Int32) (E : Nat → Int64)  : z_Mt xs L m_X4_setOf [aR 0 16, aI (3 : Int32), aI (7 : Int32)] (cm n t v ld sh o cd pl ka kb kc, D, E) (.inl (some (aI (n 27)))) (cm n t v ld sh o cd pl ka kb kc, D, E) 0 := by
  refine z_Ev_blk 1 (c' := (1, [some (aR 0 16), some (aI (3 : Int32)), some (aI (7 : Int32)), none], [aI (3 : Int32)], (cm n t v ld sh o cd pl ka kb kc, D, E))) rfl trivial ?_
  refine z_Ev_call0 (m' := m_X4_isSet) (as := [aI (3 : Int32)]) (r := []) ((by have q := e_isSet (xs := xs) (L := L) (3 : Int32) (cm n t v ld sh o cd pl ka kb kc) D E; rw [f_b_t (by decide)] at q; exact q)) rfl rfl ?_
  refine z_Ev_blk 1 (c' := ((if (1 : Int32) = 0 then 21 else 7), [some (aR 0 16), some (aI (3 : Int32)), some (aI (7 : Int32)), none], [], (cm n t v ld sh o cd pl ka kb kc, D, E))) rfl trivial ?_
  refine z_Ev_else (by decide) ?_
  refine z_Ev_blk 3 (c' := (11, [some (aR 0 16), some (aI (3 : Int32)), some (aI (7 : Int32)), none], [aI (7 : Int32), aI (8 : Int32), aI (0 : Int32)], (cm n t v ld sh o cd pl ka kb kc, D, E))) rfl trivial ?_
  refine z_Ev_call0 (m' := m_X4_isFrom) (as := [aI (0 : Int32), aI (8 : Int32), aI (7 : Int32)]) (r := []) ((by have q := e_isFrom (xs := xs) (L := L) (0 : Int32) (8 : Int32) (7 : Int32) (cm n t v ld sh o cd pl ka kb kc) D E; rw [f_b_t (by decide)] at q; exact q)) rfl rfl ?_
  refine z_Ev_blk 1 (c' := ((if (1 : Int32) = 0 then 21 else 17), [some (aR 0 16), some (aI (3 : Int32)), some (aI (7 : Int32)), none], [], (cm n t v ld sh o cd pl ka kb kc, D, E))) rfl trivial ?_
  refine z_Ev_else (by decide) ?_
  refine z_Ev_blk 2 (c' := (22, [some (aR 0 16), some (aI (3 : Int32)), some (aI (7 : Int32)), none], [aI (1 : Int32)], (cm n t v ld sh o cd pl ka kb kc, D, E))) rfl trivial ?_
  refine z_Ev_call0 (m' := m_X4_requireArgument) (as := [aI (1 : Int32)]) (r := []) (e_reqA1 (cm n t v ld sh o cd pl ka kb kc) D E) rfl rfl ?_
  refine z_Ev_blk 6 (c' := (136, [some (aR 0 16), some (aI (3 : Int32)), some (aI (7 : Int32)), some (aR 0 1)], [], (cm n t v ld sh o cd pl ka kb kc, D, E))) rfl trivial ?_
  refine z_Ev_blk 4 (c' := (142, [some (aR 0 16), some (aI (3 : Int32)), some (aI (7 : Int32)), some (aR 0 1)], [aI (n 27)], (cm n t v ld sh o cd pl ka kb kc, D, E))) rfl ⟨rfl, trivial⟩ ?_
  exact z_Ev_iretE rfl rfl (by rfl) (by rfl)
theorem c_setOf0_3_8 {xs : Nat → Int32} {L : Nat}  (n t : Nat → Int32) (v : Nat → Nat → Int32) (ld sh o cd pl ka kb kc : Nat → Int32) (D : Nat → Nat → Int32) (E : Nat → Int64)  : z_Mt xs L m_X4_setOf [aR 0 16, aI (3 : Int32), aI (8 : Int32)] (cm n t v ld sh o cd pl ka kb kc, D, E) (.inl (some (aI (n 31)))) (cm n t v ld sh o cd pl ka kb kc, D, E) 0 := by
  refine z_Ev_blk 1 (c' := (1, [some (aR 0 16), some (aI (3 : Int32)), some (aI (8 : Int32)), none], [aI (3 : Int32)], (cm n t v ld sh o cd pl ka kb kc, D, E))) rfl trivial ?_
  refine z_Ev_call0 (m' := m_X4_isSet) (as := [aI (3 : Int32)]) (r := []) ((by have q := e_isSet (xs := xs) (L := L) (3 : Int32) (cm n t v ld sh o cd pl ka kb kc) D E; rw [f_b_t (by decide)] at q; exact q)) rfl rfl ?_
  refine z_Ev_blk 1 (c' := ((if (1 : Int32) = 0 then 21 else 7), [some (aR 0 16), some (aI (3 : Int32)), some (aI (8 : Int32)), none], [], (cm n t v ld sh o cd pl ka kb kc, D, E))) rfl trivial ?_
  refine z_Ev_else (by decide) ?_
  refine z_Ev_blk 3 (c' := (11, [some (aR 0 16), some (aI (3 : Int32)), some (aI (8 : Int32)), none], [aI (8 : Int32), aI (8 : Int32), aI (0 : Int32)], (cm n t v ld sh o cd pl ka kb kc, D, E))) rfl trivial ?_
  refine z_Ev_call0 (m' := m_X4_isFrom) (as := [aI (0 : Int32), aI (8 : Int32), aI (8 : Int32)]) (r := []) ((by have q := e_isFrom (xs := xs) (L := L) (0 : Int32) (8 : Int32) (8 : Int32) (cm n t v ld sh o cd pl ka kb kc) D E; rw [f_b_t (by decide)] at q; exact q)) rfl rfl ?_
  refine z_Ev_blk 1 (c' := ((if (1 : Int32) = 0 then 21 else 17), [some (aR 0 16), some (aI (3 : Int32)), some (aI (8 : Int32)), none], [], (cm n t v ld sh o cd pl ka kb kc, D, E))) rfl trivial ?_
  refine z_Ev_else (by decide) ?_
  refine z_Ev_blk 2 (c' := (22, [some (aR 0 16), some (aI (3 : Int32)), some (aI (8 : Int32)), none], [aI (1 : Int32)], (cm n t v ld sh o cd pl ka kb kc, D, E))) rfl trivial ?_
  refine z_Ev_call0 (m' := m_X4_requireArgument) (as := [aI (1 : Int32)]) (r := []) (e_reqA1 (cm n t v ld sh o cd pl ka kb kc) D E) rfl rfl ?_
  refine z_Ev_blk 6 (c' := (143, [some (aR 0 16), some (aI (3 : Int32)), some (aI (8 : Int32)), some (aR 0 1)], [], (cm n t v ld sh o cd pl ka kb kc, D, E))) rfl trivial ?_
  refine z_Ev_blk 4 (c' := (149, [some (aR 0 16), some (aI (3 : Int32)), some (aI (8 : Int32)), some (aR 0 1)], [aI (n 31)], (cm n t v ld sh o cd pl ka kb kc, D, E))) rfl ⟨rfl, trivial⟩ ?_
  exact z_Ev_iretE rfl rfl (by rfl) (by rfl)
theorem c_setOfA {xs : Nat → Int32} {L : Nat} (x y : Int32) (n t : Nat → Int32) (v : Nat → Nat → Int32) (ld sh o cd pl ka kb kc : Nat → Int32) (D : Nat → Nat → Int32) (E : Nat → Int64) (hbad : ¬ ((0 ≤ x ∧ x ≤ 3) ∧ 0 ≤ y ∧ y ≤ 8)) : z_Mt xs L m_X4_setOf [aR 0 16, aI x, aI y] (cm n t v ld sh o cd pl ka kb kc, D, E) (.inr 0) (cm n t v ld sh o cd pl ka kb kc, D, E) 1 := by
  refine z_Ev_blk 1 (c' := (1, [some (aR 0 16), some (aI x), some (aI y), none], [aI x], (cm n t v ld sh o cd pl ka kb kc, D, E))) rfl trivial ?_
  refine z_Ev_call0 (m' := m_X4_isSet) (as := [aI x]) (r := []) (e_isSet x (cm n t v ld sh o cd pl ka kb kc) D E) rfl rfl ?_
  refine z_Ev_blk 1 (c' := ((if (f_b (0 ≤ x ∧ x ≤ 3)) = 0 then 21 else 7), [some (aR 0 16), some (aI x), some (aI y), none], [], (cm n t v ld sh o cd pl ka kb kc, D, E))) rfl trivial ?_
  refine z_Ev_ite (fun h1 => ?_) (fun h1 => ?_)
  · replace h1 := f_bZ h1
    refine z_Ev_blk 1 (c' := (22, [some (aR 0 16), some (aI x), some (aI y), none], [aI (0 : Int32)], (cm n t v ld sh o cd pl ka kb kc, D, E))) rfl trivial ?_
    exact z_Ev_thru (e_reqA0 (cm n t v ld sh o cd pl ka kb kc) D E) rfl rfl rfl
  · replace h1 := f_bQ h1
    refine z_Ev_blk 3 (c' := (11, [some (aR 0 16), some (aI x), some (aI y), none], [aI y, aI (8 : Int32), aI (0 : Int32)], (cm n t v ld sh o cd pl ka kb kc, D, E))) rfl trivial ?_
    refine z_Ev_call0 (m' := m_X4_isFrom) (as := [aI (0 : Int32), aI (8 : Int32), aI y]) (r := []) (e_isFrom (0 : Int32) (8 : Int32) y (cm n t v ld sh o cd pl ka kb kc) D E) rfl rfl ?_
    refine z_Ev_blk 1 (c' := ((if (f_b ((0 : Int32) ≤ y ∧ y ≤ (8 : Int32))) = 0 then 21 else 17), [some (aR 0 16), some (aI x), some (aI y), none], [], (cm n t v ld sh o cd pl ka kb kc, D, E))) rfl trivial ?_
    refine z_Ev_ite (fun h2 => ?_) (fun h2 => ?_)
    · replace h2 := f_bZ h2
      refine z_Ev_blk 1 (c' := (22, [some (aR 0 16), some (aI x), some (aI y), none], [aI (0 : Int32)], (cm n t v ld sh o cd pl ka kb kc, D, E))) rfl trivial ?_
      exact z_Ev_thru (e_reqA0 (cm n t v ld sh o cd pl ka kb kc) D E) rfl rfl rfl
    · replace h2 := f_bQ h2
      refine z_Ev_blk 2 (c' := (22, [some (aR 0 16), some (aI x), some (aI y), none], [aI (1 : Int32)], (cm n t v ld sh o cd pl ka kb kc, D, E))) rfl trivial ?_
      exact absurd ⟨h1, h2⟩ hbad
theorem c_hourA {xs : Nat → Int32} {L : Nat} (x y : Int32) (n t : Nat → Int32) (v : Nat → Nat → Int32) (ld sh o cd pl ka kb kc : Nat → Int32) (D : Nat → Nat → Int32) (E : Nat → Int64) (hbad : ¬ ((0 ≤ x ∧ x ≤ 47) ∧ 0 ≤ y ∧ y ≤ 6)) : z_Mt xs L m_X4_hour [aR 0 16, aI x, aI y] (cm n t v ld sh o cd pl ka kb kc, D, E) (.inr 0) (cm n t v ld sh o cd pl ka kb kc, D, E) 1 := by
  refine z_Ev_blk 1 (c' := (1, [some (aR 0 16), some (aI x), some (aI y)], [aI x], (cm n t v ld sh o cd pl ka kb kc, D, E))) rfl trivial ?_
  refine z_Ev_call0 (m' := m_X4_isHour) (as := [aI x]) (r := []) (e_isHour x (cm n t v ld sh o cd pl ka kb kc) D E) rfl rfl ?_
  refine z_Ev_blk 1 (c' := ((if (f_b (0 ≤ x ∧ x ≤ 47)) = 0 then 21 else 7), [some (aR 0 16), some (aI x), some (aI y)], [], (cm n t v ld sh o cd pl ka kb kc, D, E))) rfl trivial ?_
  refine z_Ev_ite (fun h1 => ?_) (fun h1 => ?_)
  · replace h1 := f_bZ h1
    refine z_Ev_blk 1 (c' := (22, [some (aR 0 16), some (aI x), some (aI y)], [aI (0 : Int32)], (cm n t v ld sh o cd pl ka kb kc, D, E))) rfl trivial ?_
    exact z_Ev_thru (e_reqA0 (cm n t v ld sh o cd pl ka kb kc) D E) rfl rfl rfl
  · replace h1 := f_bQ h1
    refine z_Ev_blk 3 (c' := (11, [some (aR 0 16), some (aI x), some (aI y)], [aI y, aI (6 : Int32), aI (0 : Int32)], (cm n t v ld sh o cd pl ka kb kc, D, E))) rfl trivial ?_
    refine z_Ev_call0 (m' := m_X4_isFrom) (as := [aI (0 : Int32), aI (6 : Int32), aI y]) (r := []) (e_isFrom (0 : Int32) (6 : Int32) y (cm n t v ld sh o cd pl ka kb kc) D E) rfl rfl ?_
    refine z_Ev_blk 1 (c' := ((if (f_b ((0 : Int32) ≤ y ∧ y ≤ (6 : Int32))) = 0 then 21 else 17), [some (aR 0 16), some (aI x), some (aI y)], [], (cm n t v ld sh o cd pl ka kb kc, D, E))) rfl trivial ?_
    refine z_Ev_ite (fun h2 => ?_) (fun h2 => ?_)
    · replace h2 := f_bZ h2
      refine z_Ev_blk 1 (c' := (22, [some (aR 0 16), some (aI x), some (aI y)], [aI (0 : Int32)], (cm n t v ld sh o cd pl ka kb kc, D, E))) rfl trivial ?_
      exact z_Ev_thru (e_reqA0 (cm n t v ld sh o cd pl ka kb kc) D E) rfl rfl rfl
    · replace h2 := f_bQ h2
      refine z_Ev_blk 2 (c' := (22, [some (aR 0 16), some (aI x), some (aI y)], [aI (1 : Int32)], (cm n t v ld sh o cd pl ka kb kc, D, E))) rfl trivial ?_
      exact absurd ⟨h1, h2⟩ hbad
theorem c_cheapestA {xs : Nat → Int32} {L : Nat} (x y : Int32) (n t : Nat → Int32) (v : Nat → Nat → Int32) (ld sh o cd pl ka kb kc : Nat → Int32) (D : Nat → Nat → Int32) (E : Nat → Int64) (hbad : ¬ ((0 ≤ x ∧ x ≤ 47) ∧ 0 ≤ y ∧ y ≤ 1)) : z_Mt xs L m_X4_cheapest [aR 0 16, aI x, aI y] (cm n t v ld sh o cd pl ka kb kc, D, E) (.inr 0) (cm n t v ld sh o cd pl ka kb kc, D, E) 1 := by
  refine z_Ev_blk 1 (c' := (1, [some (aR 0 16), some (aI x), some (aI y), none, none, none, none, none, none], [aI x], (cm n t v ld sh o cd pl ka kb kc, D, E))) rfl trivial ?_
  refine z_Ev_call0 (m' := m_X4_isHour) (as := [aI x]) (r := []) (e_isHour x (cm n t v ld sh o cd pl ka kb kc) D E) rfl rfl ?_
  refine z_Ev_blk 1 (c' := ((if (f_b (0 ≤ x ∧ x ≤ 47)) = 0 then 20 else 7), [some (aR 0 16), some (aI x), some (aI y), none, none, none, none, none, none], [], (cm n t v ld sh o cd pl ka kb kc, D, E))) rfl trivial ?_
  refine z_Ev_ite (fun h1 => ?_) (fun h1 => ?_)
  · replace h1 := f_bZ h1
    refine z_Ev_blk 1 (c' := (21, [some (aR 0 16), some (aI x), some (aI y), none, none, none, none, none, none], [aI (0 : Int32)], (cm n t v ld sh o cd pl ka kb kc, D, E))) rfl trivial ?_
    exact z_Ev_thru (e_reqA0 (cm n t v ld sh o cd pl ka kb kc) D E) rfl rfl rfl
  · replace h1 := f_bQ h1
    refine z_Ev_blk 3 (c' := (10, [some (aR 0 16), some (aI x), some (aI y), none, none, none, none, none, none], [aI y, aI (1 : Int32), aI (0 : Int32)], (cm n t v ld sh o cd pl ka kb kc, D, E))) rfl trivial ?_
    refine z_Ev_call0 (m' := m_X4_isFrom) (as := [aI (0 : Int32), aI (1 : Int32), aI y]) (r := []) (e_isFrom (0 : Int32) (1 : Int32) y (cm n t v ld sh o cd pl ka kb kc) D E) rfl rfl ?_
    refine z_Ev_blk 1 (c' := ((if (f_b ((0 : Int32) ≤ y ∧ y ≤ (1 : Int32))) = 0 then 20 else 16), [some (aR 0 16), some (aI x), some (aI y), none, none, none, none, none, none], [], (cm n t v ld sh o cd pl ka kb kc, D, E))) rfl trivial ?_
    refine z_Ev_ite (fun h2 => ?_) (fun h2 => ?_)
    · replace h2 := f_bZ h2
      refine z_Ev_blk 1 (c' := (21, [some (aR 0 16), some (aI x), some (aI y), none, none, none, none, none, none], [aI (0 : Int32)], (cm n t v ld sh o cd pl ka kb kc, D, E))) rfl trivial ?_
      exact z_Ev_thru (e_reqA0 (cm n t v ld sh o cd pl ka kb kc) D E) rfl rfl rfl
    · replace h2 := f_bQ h2
      refine z_Ev_blk 2 (c' := (21, [some (aR 0 16), some (aI x), some (aI y), none, none, none, none, none, none], [aI (1 : Int32)], (cm n t v ld sh o cd pl ka kb kc, D, E))) rfl trivial ?_
      exact absurd ⟨h1, h2⟩ hbad
theorem c_hour0_0 {xs : Nat → Int32} {L : Nat} (h : Nat) (n t : Nat → Int32) (v : Nat → Nat → Int32) (ld sh o cd pl ka kb kc : Nat → Int32) (D : Nat → Nat → Int32) (E : Nat → Int64) (hh : h < 48) : z_Mt xs L m_X4_hour [aR 0 16, aI (nI h), aI (0 : Int32)] (cm n t v ld sh o cd pl ka kb kc, D, E) (.inl (some (aI (n (40 + h))))) (cm n t v ld sh o cd pl ka kb kc, D, E) 0 := by
  refine z_Ev_blk 1 (c' := (1, [some (aR 0 16), some (aI (nI h)), some (aI (0 : Int32))], [aI (nI h)], (cm n t v ld sh o cd pl ka kb kc, D, E))) rfl trivial ?_
  refine z_Ev_call0 (m' := m_X4_isHour) (as := [aI (nI h)]) (r := []) ((by have q := e_isHour (xs := xs) (L := L) (nI h) (cm n t v ld sh o cd pl ka kb kc) D E; rw [f_b_t (nI47 hh)] at q; exact q)) rfl rfl ?_
  refine z_Ev_blk 1 (c' := ((if (1 : Int32) = 0 then 21 else 7), [some (aR 0 16), some (aI (nI h)), some (aI (0 : Int32))], [], (cm n t v ld sh o cd pl ka kb kc, D, E))) rfl trivial ?_
  refine z_Ev_else (by decide) ?_
  refine z_Ev_blk 3 (c' := (11, [some (aR 0 16), some (aI (nI h)), some (aI (0 : Int32))], [aI (0 : Int32), aI (6 : Int32), aI (0 : Int32)], (cm n t v ld sh o cd pl ka kb kc, D, E))) rfl trivial ?_
  refine z_Ev_call0 (m' := m_X4_isFrom) (as := [aI (0 : Int32), aI (6 : Int32), aI (0 : Int32)]) (r := []) ((by have q := e_isFrom (xs := xs) (L := L) (0 : Int32) (6 : Int32) (0 : Int32) (cm n t v ld sh o cd pl ka kb kc) D E; rw [f_b_t (by decide)] at q; exact q)) rfl rfl ?_
  refine z_Ev_blk 1 (c' := ((if (1 : Int32) = 0 then 21 else 17), [some (aR 0 16), some (aI (nI h)), some (aI (0 : Int32))], [], (cm n t v ld sh o cd pl ka kb kc, D, E))) rfl trivial ?_
  refine z_Ev_else (by decide) ?_
  refine z_Ev_blk 2 (c' := (22, [some (aR 0 16), some (aI (nI h)), some (aI (0 : Int32))], [aI (1 : Int32)], (cm n t v ld sh o cd pl ka kb kc, D, E))) rfl trivial ?_
  refine z_Ev_call0 (m' := m_X4_requireArgument) (as := [aI (1 : Int32)]) (r := []) (e_reqA1 (cm n t v ld sh o cd pl ka kb kc) D E) rfl rfl ?_
  refine z_Ev_blk 2 (c' := ((if (0 : Int32) = 0 then 40 else 29), [some (aR 0 16), some (aI (nI h)), some (aI (0 : Int32))], [], (cm n t v ld sh o cd pl ka kb kc, D, E))) rfl trivial ?_
  refine z_Ev_if (by decide) ?_
  refine z_Ev_blk 7 (c' := (51, [some (aR 0 16), some (aI (nI h)), some (aI (0 : Int32))], [aI ((cm n t v ld sh o cd pl ka kb kc) 0 11 ((nI h).toNatClampNeg))], (cm n t v ld sh o cd pl ka kb kc, D, E))) rfl ⟨rfl, (inb_nI (show h < 48 by omega) (by decide)), trivial⟩ ?_
  rw [nI_clamp (show h < 2 ^ 31 by omega), cmn_r11_0 (show h < 48 by omega)]
  refine z_Ev_blk 1 (c' := (55, [some (aR 0 16), some (aI (nI h)), some (aI (0 : Int32))], [aI (n (40 + h))], (cm n t v ld sh o cd pl ka kb kc, D, E))) rfl trivial ?_
  exact z_Ev_iretE rfl rfl (by first | rfl | simp [*]) (by rfl)
theorem c_hour0_1 {xs : Nat → Int32} {L : Nat} (h : Nat) (n t : Nat → Int32) (v : Nat → Nat → Int32) (ld sh o cd pl ka kb kc : Nat → Int32) (D : Nat → Nat → Int32) (E : Nat → Int64) (hh : h < 48) : z_Mt xs L m_X4_hour [aR 0 16, aI (nI h), aI (1 : Int32)] (cm n t v ld sh o cd pl ka kb kc, D, E) (.inl (some (aI (if n 34 ≤ nI h then -1 else n (88 + 6 * h + 0))))) (cm n t v ld sh o cd pl ka kb kc, D, E) 0 := by
  refine z_Ev_blk 1 (c' := (1, [some (aR 0 16), some (aI (nI h)), some (aI (1 : Int32))], [aI (nI h)], (cm n t v ld sh o cd pl ka kb kc, D, E))) rfl trivial ?_
  refine z_Ev_call0 (m' := m_X4_isHour) (as := [aI (nI h)]) (r := []) ((by have q := e_isHour (xs := xs) (L := L) (nI h) (cm n t v ld sh o cd pl ka kb kc) D E; rw [f_b_t (nI47 hh)] at q; exact q)) rfl rfl ?_
  refine z_Ev_blk 1 (c' := ((if (1 : Int32) = 0 then 21 else 7), [some (aR 0 16), some (aI (nI h)), some (aI (1 : Int32))], [], (cm n t v ld sh o cd pl ka kb kc, D, E))) rfl trivial ?_
  refine z_Ev_else (by decide) ?_
  refine z_Ev_blk 3 (c' := (11, [some (aR 0 16), some (aI (nI h)), some (aI (1 : Int32))], [aI (1 : Int32), aI (6 : Int32), aI (0 : Int32)], (cm n t v ld sh o cd pl ka kb kc, D, E))) rfl trivial ?_
  refine z_Ev_call0 (m' := m_X4_isFrom) (as := [aI (0 : Int32), aI (6 : Int32), aI (1 : Int32)]) (r := []) ((by have q := e_isFrom (xs := xs) (L := L) (0 : Int32) (6 : Int32) (1 : Int32) (cm n t v ld sh o cd pl ka kb kc) D E; rw [f_b_t (by decide)] at q; exact q)) rfl rfl ?_
  refine z_Ev_blk 1 (c' := ((if (1 : Int32) = 0 then 21 else 17), [some (aR 0 16), some (aI (nI h)), some (aI (1 : Int32))], [], (cm n t v ld sh o cd pl ka kb kc, D, E))) rfl trivial ?_
  refine z_Ev_else (by decide) ?_
  refine z_Ev_blk 2 (c' := (22, [some (aR 0 16), some (aI (nI h)), some (aI (1 : Int32))], [aI (1 : Int32)], (cm n t v ld sh o cd pl ka kb kc, D, E))) rfl trivial ?_
  refine z_Ev_call0 (m' := m_X4_requireArgument) (as := [aI (1 : Int32)]) (r := []) (e_reqA1 (cm n t v ld sh o cd pl ka kb kc) D E) rfl rfl ?_
  refine z_Ev_blk 2 (c' := ((if (1 : Int32) = 0 then 40 else 29), [some (aR 0 16), some (aI (nI h)), some (aI (1 : Int32))], [], (cm n t v ld sh o cd pl ka kb kc, D, E))) rfl trivial ?_
  refine z_Ev_else (by decide) ?_
  refine z_Ev_blk 5 (c' := ((if (n 34) ≤ (nI h) then 54 else 40), [some (aR 0 16), some (aI (nI h)), some (aI (1 : Int32))], [], (cm n t v ld sh o cd pl ka kb kc, D, E))) rfl trivial ?_
  refine z_Ev_ite (fun h1 => ?_) (fun h1 => ?_)
  · skip
    refine z_Ev_blk 1 (c' := (55, [some (aR 0 16), some (aI (nI h)), some (aI (1 : Int32))], [aI (-1 : Int32)], (cm n t v ld sh o cd pl ka kb kc, D, E))) rfl trivial ?_
    exact z_Ev_iretE rfl rfl (by first | rfl | simp [*]) (by rfl)
  · skip
    refine z_Ev_blk 7 (c' := (51, [some (aR 0 16), some (aI (nI h)), some (aI (1 : Int32))], [aI ((cm n t v ld sh o cd pl ka kb kc) 1 11 ((nI h).toNatClampNeg))], (cm n t v ld sh o cd pl ka kb kc, D, E))) rfl ⟨rfl, (inb_nI (show h < 48 by omega) (by decide)), trivial⟩ ?_
    rw [nI_clamp (show h < 2 ^ 31 by omega), cmn_r11_1 (show h < 48 by omega)]
    refine z_Ev_blk 1 (c' := (55, [some (aR 0 16), some (aI (nI h)), some (aI (1 : Int32))], [aI (n (88 + 6 * h + 0))], (cm n t v ld sh o cd pl ka kb kc, D, E))) rfl trivial ?_
    exact z_Ev_iretE rfl rfl (by first | rfl | simp [*]) (by rfl)
theorem c_hour0_2 {xs : Nat → Int32} {L : Nat} (h : Nat) (n t : Nat → Int32) (v : Nat → Nat → Int32) (ld sh o cd pl ka kb kc : Nat → Int32) (D : Nat → Nat → Int32) (E : Nat → Int64) (hh : h < 48) : z_Mt xs L m_X4_hour [aR 0 16, aI (nI h), aI (2 : Int32)] (cm n t v ld sh o cd pl ka kb kc, D, E) (.inl (some (aI (if n 34 ≤ nI h then -1 else n (88 + 6 * h + 1))))) (cm n t v ld sh o cd pl ka kb kc, D, E) 0 := by
  refine z_Ev_blk 1 (c' := (1, [some (aR 0 16), some (aI (nI h)), some (aI (2 : Int32))], [aI (nI h)], (cm n t v ld sh o cd pl ka kb kc, D, E))) rfl trivial ?_
  refine z_Ev_call0 (m' := m_X4_isHour) (as := [aI (nI h)]) (r := []) ((by have q := e_isHour (xs := xs) (L := L) (nI h) (cm n t v ld sh o cd pl ka kb kc) D E; rw [f_b_t (nI47 hh)] at q; exact q)) rfl rfl ?_
  refine z_Ev_blk 1 (c' := ((if (1 : Int32) = 0 then 21 else 7), [some (aR 0 16), some (aI (nI h)), some (aI (2 : Int32))], [], (cm n t v ld sh o cd pl ka kb kc, D, E))) rfl trivial ?_
  refine z_Ev_else (by decide) ?_
  refine z_Ev_blk 3 (c' := (11, [some (aR 0 16), some (aI (nI h)), some (aI (2 : Int32))], [aI (2 : Int32), aI (6 : Int32), aI (0 : Int32)], (cm n t v ld sh o cd pl ka kb kc, D, E))) rfl trivial ?_
  refine z_Ev_call0 (m' := m_X4_isFrom) (as := [aI (0 : Int32), aI (6 : Int32), aI (2 : Int32)]) (r := []) ((by have q := e_isFrom (xs := xs) (L := L) (0 : Int32) (6 : Int32) (2 : Int32) (cm n t v ld sh o cd pl ka kb kc) D E; rw [f_b_t (by decide)] at q; exact q)) rfl rfl ?_
  refine z_Ev_blk 1 (c' := ((if (1 : Int32) = 0 then 21 else 17), [some (aR 0 16), some (aI (nI h)), some (aI (2 : Int32))], [], (cm n t v ld sh o cd pl ka kb kc, D, E))) rfl trivial ?_
  refine z_Ev_else (by decide) ?_
  refine z_Ev_blk 2 (c' := (22, [some (aR 0 16), some (aI (nI h)), some (aI (2 : Int32))], [aI (1 : Int32)], (cm n t v ld sh o cd pl ka kb kc, D, E))) rfl trivial ?_
  refine z_Ev_call0 (m' := m_X4_requireArgument) (as := [aI (1 : Int32)]) (r := []) (e_reqA1 (cm n t v ld sh o cd pl ka kb kc) D E) rfl rfl ?_
  refine z_Ev_blk 2 (c' := ((if (2 : Int32) = 0 then 40 else 29), [some (aR 0 16), some (aI (nI h)), some (aI (2 : Int32))], [], (cm n t v ld sh o cd pl ka kb kc, D, E))) rfl trivial ?_
  refine z_Ev_else (by decide) ?_
  refine z_Ev_blk 5 (c' := ((if (n 34) ≤ (nI h) then 54 else 40), [some (aR 0 16), some (aI (nI h)), some (aI (2 : Int32))], [], (cm n t v ld sh o cd pl ka kb kc, D, E))) rfl trivial ?_
  refine z_Ev_ite (fun h1 => ?_) (fun h1 => ?_)
  · skip
    refine z_Ev_blk 1 (c' := (55, [some (aR 0 16), some (aI (nI h)), some (aI (2 : Int32))], [aI (-1 : Int32)], (cm n t v ld sh o cd pl ka kb kc, D, E))) rfl trivial ?_
    exact z_Ev_iretE rfl rfl (by first | rfl | simp [*]) (by rfl)
  · skip
    refine z_Ev_blk 7 (c' := (51, [some (aR 0 16), some (aI (nI h)), some (aI (2 : Int32))], [aI ((cm n t v ld sh o cd pl ka kb kc) 2 11 ((nI h).toNatClampNeg))], (cm n t v ld sh o cd pl ka kb kc, D, E))) rfl ⟨rfl, (inb_nI (show h < 48 by omega) (by decide)), trivial⟩ ?_
    rw [nI_clamp (show h < 2 ^ 31 by omega), cmn_r11_2 (show h < 48 by omega)]
    refine z_Ev_blk 1 (c' := (55, [some (aR 0 16), some (aI (nI h)), some (aI (2 : Int32))], [aI (n (88 + 6 * h + 1))], (cm n t v ld sh o cd pl ka kb kc, D, E))) rfl trivial ?_
    exact z_Ev_iretE rfl rfl (by first | rfl | simp [*]) (by rfl)
theorem c_hour0_3 {xs : Nat → Int32} {L : Nat} (h : Nat) (n t : Nat → Int32) (v : Nat → Nat → Int32) (ld sh o cd pl ka kb kc : Nat → Int32) (D : Nat → Nat → Int32) (E : Nat → Int64) (hh : h < 48) : z_Mt xs L m_X4_hour [aR 0 16, aI (nI h), aI (3 : Int32)] (cm n t v ld sh o cd pl ka kb kc, D, E) (.inl (some (aI (if n 34 ≤ nI h then -1 else n (88 + 6 * h + 2))))) (cm n t v ld sh o cd pl ka kb kc, D, E) 0 := by
  refine z_Ev_blk 1 (c' := (1, [some (aR 0 16), some (aI (nI h)), some (aI (3 : Int32))], [aI (nI h)], (cm n t v ld sh o cd pl ka kb kc, D, E))) rfl trivial ?_
  refine z_Ev_call0 (m' := m_X4_isHour) (as := [aI (nI h)]) (r := []) ((by have q := e_isHour (xs := xs) (L := L) (nI h) (cm n t v ld sh o cd pl ka kb kc) D E; rw [f_b_t (nI47 hh)] at q; exact q)) rfl rfl ?_
  refine z_Ev_blk 1 (c' := ((if (1 : Int32) = 0 then 21 else 7), [some (aR 0 16), some (aI (nI h)), some (aI (3 : Int32))], [], (cm n t v ld sh o cd pl ka kb kc, D, E))) rfl trivial ?_
  refine z_Ev_else (by decide) ?_
  refine z_Ev_blk 3 (c' := (11, [some (aR 0 16), some (aI (nI h)), some (aI (3 : Int32))], [aI (3 : Int32), aI (6 : Int32), aI (0 : Int32)], (cm n t v ld sh o cd pl ka kb kc, D, E))) rfl trivial ?_
  refine z_Ev_call0 (m' := m_X4_isFrom) (as := [aI (0 : Int32), aI (6 : Int32), aI (3 : Int32)]) (r := []) ((by have q := e_isFrom (xs := xs) (L := L) (0 : Int32) (6 : Int32) (3 : Int32) (cm n t v ld sh o cd pl ka kb kc) D E; rw [f_b_t (by decide)] at q; exact q)) rfl rfl ?_
  refine z_Ev_blk 1 (c' := ((if (1 : Int32) = 0 then 21 else 17), [some (aR 0 16), some (aI (nI h)), some (aI (3 : Int32))], [], (cm n t v ld sh o cd pl ka kb kc, D, E))) rfl trivial ?_
  refine z_Ev_else (by decide) ?_
  refine z_Ev_blk 2 (c' := (22, [some (aR 0 16), some (aI (nI h)), some (aI (3 : Int32))], [aI (1 : Int32)], (cm n t v ld sh o cd pl ka kb kc, D, E))) rfl trivial ?_
  refine z_Ev_call0 (m' := m_X4_requireArgument) (as := [aI (1 : Int32)]) (r := []) (e_reqA1 (cm n t v ld sh o cd pl ka kb kc) D E) rfl rfl ?_
  refine z_Ev_blk 2 (c' := ((if (3 : Int32) = 0 then 40 else 29), [some (aR 0 16), some (aI (nI h)), some (aI (3 : Int32))], [], (cm n t v ld sh o cd pl ka kb kc, D, E))) rfl trivial ?_
  refine z_Ev_else (by decide) ?_
  refine z_Ev_blk 5 (c' := ((if (n 34) ≤ (nI h) then 54 else 40), [some (aR 0 16), some (aI (nI h)), some (aI (3 : Int32))], [], (cm n t v ld sh o cd pl ka kb kc, D, E))) rfl trivial ?_
  refine z_Ev_ite (fun h1 => ?_) (fun h1 => ?_)
  · skip
    refine z_Ev_blk 1 (c' := (55, [some (aR 0 16), some (aI (nI h)), some (aI (3 : Int32))], [aI (-1 : Int32)], (cm n t v ld sh o cd pl ka kb kc, D, E))) rfl trivial ?_
    exact z_Ev_iretE rfl rfl (by first | rfl | simp [*]) (by rfl)
  · skip
    refine z_Ev_blk 7 (c' := (51, [some (aR 0 16), some (aI (nI h)), some (aI (3 : Int32))], [aI ((cm n t v ld sh o cd pl ka kb kc) 3 11 ((nI h).toNatClampNeg))], (cm n t v ld sh o cd pl ka kb kc, D, E))) rfl ⟨rfl, (inb_nI (show h < 48 by omega) (by decide)), trivial⟩ ?_
    rw [nI_clamp (show h < 2 ^ 31 by omega), cmn_r11_3 (show h < 48 by omega)]
    refine z_Ev_blk 1 (c' := (55, [some (aR 0 16), some (aI (nI h)), some (aI (3 : Int32))], [aI (n (88 + 6 * h + 2))], (cm n t v ld sh o cd pl ka kb kc, D, E))) rfl trivial ?_
    exact z_Ev_iretE rfl rfl (by first | rfl | simp [*]) (by rfl)
theorem c_hour0_4 {xs : Nat → Int32} {L : Nat} (h : Nat) (n t : Nat → Int32) (v : Nat → Nat → Int32) (ld sh o cd pl ka kb kc : Nat → Int32) (D : Nat → Nat → Int32) (E : Nat → Int64) (hh : h < 48) : z_Mt xs L m_X4_hour [aR 0 16, aI (nI h), aI (4 : Int32)] (cm n t v ld sh o cd pl ka kb kc, D, E) (.inl (some (aI (if n 34 ≤ nI h then -1 else n (88 + 6 * h + 3))))) (cm n t v ld sh o cd pl ka kb kc, D, E) 0 := by
  refine z_Ev_blk 1 (c' := (1, [some (aR 0 16), some (aI (nI h)), some (aI (4 : Int32))], [aI (nI h)], (cm n t v ld sh o cd pl ka kb kc, D, E))) rfl trivial ?_
  refine z_Ev_call0 (m' := m_X4_isHour) (as := [aI (nI h)]) (r := []) ((by have q := e_isHour (xs := xs) (L := L) (nI h) (cm n t v ld sh o cd pl ka kb kc) D E; rw [f_b_t (nI47 hh)] at q; exact q)) rfl rfl ?_
  refine z_Ev_blk 1 (c' := ((if (1 : Int32) = 0 then 21 else 7), [some (aR 0 16), some (aI (nI h)), some (aI (4 : Int32))], [], (cm n t v ld sh o cd pl ka kb kc, D, E))) rfl trivial ?_
  refine z_Ev_else (by decide) ?_
  refine z_Ev_blk 3 (c' := (11, [some (aR 0 16), some (aI (nI h)), some (aI (4 : Int32))], [aI (4 : Int32), aI (6 : Int32), aI (0 : Int32)], (cm n t v ld sh o cd pl ka kb kc, D, E))) rfl trivial ?_
  refine z_Ev_call0 (m' := m_X4_isFrom) (as := [aI (0 : Int32), aI (6 : Int32), aI (4 : Int32)]) (r := []) ((by have q := e_isFrom (xs := xs) (L := L) (0 : Int32) (6 : Int32) (4 : Int32) (cm n t v ld sh o cd pl ka kb kc) D E; rw [f_b_t (by decide)] at q; exact q)) rfl rfl ?_
  refine z_Ev_blk 1 (c' := ((if (1 : Int32) = 0 then 21 else 17), [some (aR 0 16), some (aI (nI h)), some (aI (4 : Int32))], [], (cm n t v ld sh o cd pl ka kb kc, D, E))) rfl trivial ?_
  refine z_Ev_else (by decide) ?_
  refine z_Ev_blk 2 (c' := (22, [some (aR 0 16), some (aI (nI h)), some (aI (4 : Int32))], [aI (1 : Int32)], (cm n t v ld sh o cd pl ka kb kc, D, E))) rfl trivial ?_
  refine z_Ev_call0 (m' := m_X4_requireArgument) (as := [aI (1 : Int32)]) (r := []) (e_reqA1 (cm n t v ld sh o cd pl ka kb kc) D E) rfl rfl ?_
  refine z_Ev_blk 2 (c' := ((if (4 : Int32) = 0 then 40 else 29), [some (aR 0 16), some (aI (nI h)), some (aI (4 : Int32))], [], (cm n t v ld sh o cd pl ka kb kc, D, E))) rfl trivial ?_
  refine z_Ev_else (by decide) ?_
  refine z_Ev_blk 5 (c' := ((if (n 34) ≤ (nI h) then 54 else 40), [some (aR 0 16), some (aI (nI h)), some (aI (4 : Int32))], [], (cm n t v ld sh o cd pl ka kb kc, D, E))) rfl trivial ?_
  refine z_Ev_ite (fun h1 => ?_) (fun h1 => ?_)
  · skip
    refine z_Ev_blk 1 (c' := (55, [some (aR 0 16), some (aI (nI h)), some (aI (4 : Int32))], [aI (-1 : Int32)], (cm n t v ld sh o cd pl ka kb kc, D, E))) rfl trivial ?_
    exact z_Ev_iretE rfl rfl (by first | rfl | simp [*]) (by rfl)
  · skip
    refine z_Ev_blk 7 (c' := (51, [some (aR 0 16), some (aI (nI h)), some (aI (4 : Int32))], [aI ((cm n t v ld sh o cd pl ka kb kc) 4 11 ((nI h).toNatClampNeg))], (cm n t v ld sh o cd pl ka kb kc, D, E))) rfl ⟨rfl, (inb_nI (show h < 48 by omega) (by decide)), trivial⟩ ?_
    rw [nI_clamp (show h < 2 ^ 31 by omega), cmn_r11_4 (show h < 48 by omega)]
    refine z_Ev_blk 1 (c' := (55, [some (aR 0 16), some (aI (nI h)), some (aI (4 : Int32))], [aI (n (88 + 6 * h + 3))], (cm n t v ld sh o cd pl ka kb kc, D, E))) rfl trivial ?_
    exact z_Ev_iretE rfl rfl (by first | rfl | simp [*]) (by rfl)
theorem c_hour0_5 {xs : Nat → Int32} {L : Nat} (h : Nat) (n t : Nat → Int32) (v : Nat → Nat → Int32) (ld sh o cd pl ka kb kc : Nat → Int32) (D : Nat → Nat → Int32) (E : Nat → Int64) (hh : h < 48) : z_Mt xs L m_X4_hour [aR 0 16, aI (nI h), aI (5 : Int32)] (cm n t v ld sh o cd pl ka kb kc, D, E) (.inl (some (aI (if n 34 ≤ nI h then -1 else n (88 + 6 * h + 4))))) (cm n t v ld sh o cd pl ka kb kc, D, E) 0 := by
  refine z_Ev_blk 1 (c' := (1, [some (aR 0 16), some (aI (nI h)), some (aI (5 : Int32))], [aI (nI h)], (cm n t v ld sh o cd pl ka kb kc, D, E))) rfl trivial ?_
  refine z_Ev_call0 (m' := m_X4_isHour) (as := [aI (nI h)]) (r := []) ((by have q := e_isHour (xs := xs) (L := L) (nI h) (cm n t v ld sh o cd pl ka kb kc) D E; rw [f_b_t (nI47 hh)] at q; exact q)) rfl rfl ?_
  refine z_Ev_blk 1 (c' := ((if (1 : Int32) = 0 then 21 else 7), [some (aR 0 16), some (aI (nI h)), some (aI (5 : Int32))], [], (cm n t v ld sh o cd pl ka kb kc, D, E))) rfl trivial ?_
  refine z_Ev_else (by decide) ?_
  refine z_Ev_blk 3 (c' := (11, [some (aR 0 16), some (aI (nI h)), some (aI (5 : Int32))], [aI (5 : Int32), aI (6 : Int32), aI (0 : Int32)], (cm n t v ld sh o cd pl ka kb kc, D, E))) rfl trivial ?_
  refine z_Ev_call0 (m' := m_X4_isFrom) (as := [aI (0 : Int32), aI (6 : Int32), aI (5 : Int32)]) (r := []) ((by have q := e_isFrom (xs := xs) (L := L) (0 : Int32) (6 : Int32) (5 : Int32) (cm n t v ld sh o cd pl ka kb kc) D E; rw [f_b_t (by decide)] at q; exact q)) rfl rfl ?_
  refine z_Ev_blk 1 (c' := ((if (1 : Int32) = 0 then 21 else 17), [some (aR 0 16), some (aI (nI h)), some (aI (5 : Int32))], [], (cm n t v ld sh o cd pl ka kb kc, D, E))) rfl trivial ?_
  refine z_Ev_else (by decide) ?_
  refine z_Ev_blk 2 (c' := (22, [some (aR 0 16), some (aI (nI h)), some (aI (5 : Int32))], [aI (1 : Int32)], (cm n t v ld sh o cd pl ka kb kc, D, E))) rfl trivial ?_
  refine z_Ev_call0 (m' := m_X4_requireArgument) (as := [aI (1 : Int32)]) (r := []) (e_reqA1 (cm n t v ld sh o cd pl ka kb kc) D E) rfl rfl ?_
  refine z_Ev_blk 2 (c' := ((if (5 : Int32) = 0 then 40 else 29), [some (aR 0 16), some (aI (nI h)), some (aI (5 : Int32))], [], (cm n t v ld sh o cd pl ka kb kc, D, E))) rfl trivial ?_
  refine z_Ev_else (by decide) ?_
  refine z_Ev_blk 5 (c' := ((if (n 34) ≤ (nI h) then 54 else 40), [some (aR 0 16), some (aI (nI h)), some (aI (5 : Int32))], [], (cm n t v ld sh o cd pl ka kb kc, D, E))) rfl trivial ?_
  refine z_Ev_ite (fun h1 => ?_) (fun h1 => ?_)
  · skip
    refine z_Ev_blk 1 (c' := (55, [some (aR 0 16), some (aI (nI h)), some (aI (5 : Int32))], [aI (-1 : Int32)], (cm n t v ld sh o cd pl ka kb kc, D, E))) rfl trivial ?_
    exact z_Ev_iretE rfl rfl (by first | rfl | simp [*]) (by rfl)
  · skip
    refine z_Ev_blk 7 (c' := (51, [some (aR 0 16), some (aI (nI h)), some (aI (5 : Int32))], [aI ((cm n t v ld sh o cd pl ka kb kc) 5 11 ((nI h).toNatClampNeg))], (cm n t v ld sh o cd pl ka kb kc, D, E))) rfl ⟨rfl, (inb_nI (show h < 48 by omega) (by decide)), trivial⟩ ?_
    rw [nI_clamp (show h < 2 ^ 31 by omega), cmn_r11_5 (show h < 48 by omega)]
    refine z_Ev_blk 1 (c' := (55, [some (aR 0 16), some (aI (nI h)), some (aI (5 : Int32))], [aI (n (88 + 6 * h + 4))], (cm n t v ld sh o cd pl ka kb kc, D, E))) rfl trivial ?_
    exact z_Ev_iretE rfl rfl (by first | rfl | simp [*]) (by rfl)
theorem c_hour0_6 {xs : Nat → Int32} {L : Nat} (h : Nat) (n t : Nat → Int32) (v : Nat → Nat → Int32) (ld sh o cd pl ka kb kc : Nat → Int32) (D : Nat → Nat → Int32) (E : Nat → Int64) (hh : h < 48) : z_Mt xs L m_X4_hour [aR 0 16, aI (nI h), aI (6 : Int32)] (cm n t v ld sh o cd pl ka kb kc, D, E) (.inl (some (aI (if n 34 ≤ nI h then -1 else n (88 + 6 * h + 5))))) (cm n t v ld sh o cd pl ka kb kc, D, E) 0 := by
  refine z_Ev_blk 1 (c' := (1, [some (aR 0 16), some (aI (nI h)), some (aI (6 : Int32))], [aI (nI h)], (cm n t v ld sh o cd pl ka kb kc, D, E))) rfl trivial ?_
  refine z_Ev_call0 (m' := m_X4_isHour) (as := [aI (nI h)]) (r := []) ((by have q := e_isHour (xs := xs) (L := L) (nI h) (cm n t v ld sh o cd pl ka kb kc) D E; rw [f_b_t (nI47 hh)] at q; exact q)) rfl rfl ?_
  refine z_Ev_blk 1 (c' := ((if (1 : Int32) = 0 then 21 else 7), [some (aR 0 16), some (aI (nI h)), some (aI (6 : Int32))], [], (cm n t v ld sh o cd pl ka kb kc, D, E))) rfl trivial ?_
  refine z_Ev_else (by decide) ?_
  refine z_Ev_blk 3 (c' := (11, [some (aR 0 16), some (aI (nI h)), some (aI (6 : Int32))], [aI (6 : Int32), aI (6 : Int32), aI (0 : Int32)], (cm n t v ld sh o cd pl ka kb kc, D, E))) rfl trivial ?_
  refine z_Ev_call0 (m' := m_X4_isFrom) (as := [aI (0 : Int32), aI (6 : Int32), aI (6 : Int32)]) (r := []) ((by have q := e_isFrom (xs := xs) (L := L) (0 : Int32) (6 : Int32) (6 : Int32) (cm n t v ld sh o cd pl ka kb kc) D E; rw [f_b_t (by decide)] at q; exact q)) rfl rfl ?_
  refine z_Ev_blk 1 (c' := ((if (1 : Int32) = 0 then 21 else 17), [some (aR 0 16), some (aI (nI h)), some (aI (6 : Int32))], [], (cm n t v ld sh o cd pl ka kb kc, D, E))) rfl trivial ?_
  refine z_Ev_else (by decide) ?_
  refine z_Ev_blk 2 (c' := (22, [some (aR 0 16), some (aI (nI h)), some (aI (6 : Int32))], [aI (1 : Int32)], (cm n t v ld sh o cd pl ka kb kc, D, E))) rfl trivial ?_
  refine z_Ev_call0 (m' := m_X4_requireArgument) (as := [aI (1 : Int32)]) (r := []) (e_reqA1 (cm n t v ld sh o cd pl ka kb kc) D E) rfl rfl ?_
  refine z_Ev_blk 2 (c' := ((if (6 : Int32) = 0 then 40 else 29), [some (aR 0 16), some (aI (nI h)), some (aI (6 : Int32))], [], (cm n t v ld sh o cd pl ka kb kc, D, E))) rfl trivial ?_
  refine z_Ev_else (by decide) ?_
  refine z_Ev_blk 5 (c' := ((if (n 34) ≤ (nI h) then 54 else 40), [some (aR 0 16), some (aI (nI h)), some (aI (6 : Int32))], [], (cm n t v ld sh o cd pl ka kb kc, D, E))) rfl trivial ?_
  refine z_Ev_ite (fun h1 => ?_) (fun h1 => ?_)
  · skip
    refine z_Ev_blk 1 (c' := (55, [some (aR 0 16), some (aI (nI h)), some (aI (6 : Int32))], [aI (-1 : Int32)], (cm n t v ld sh o cd pl ka kb kc, D, E))) rfl trivial ?_
    exact z_Ev_iretE rfl rfl (by first | rfl | simp [*]) (by rfl)
  · skip
    refine z_Ev_blk 7 (c' := (51, [some (aR 0 16), some (aI (nI h)), some (aI (6 : Int32))], [aI ((cm n t v ld sh o cd pl ka kb kc) 6 11 ((nI h).toNatClampNeg))], (cm n t v ld sh o cd pl ka kb kc, D, E))) rfl ⟨rfl, (inb_nI (show h < 48 by omega) (by decide)), trivial⟩ ?_
    rw [nI_clamp (show h < 2 ^ 31 by omega), cmn_r11_6 (show h < 48 by omega)]
    refine z_Ev_blk 1 (c' := (55, [some (aR 0 16), some (aI (nI h)), some (aI (6 : Int32))], [aI (n (88 + 6 * h + 5))], (cm n t v ld sh o cd pl ka kb kc, D, E))) rfl trivial ?_
    exact z_Ev_iretE rfl rfl (by first | rfl | simp [*]) (by rfl)
theorem cp_skip {xs : Nat → Int32} {L : Nat} {o_ : z_Rs} {M' : Mem} {kk : Nat} (i : Nat) (x y lost A best least : Int32) (n t : Nat → Int32) (v : Nat → Nat → Int32) (ld sh o cd pl ka kb kc : Nat → Int32) (D : Nat → Nat → Int32) (E : Nat → Int64) (hi : i < 16) (hsk : ¬ nI i &&& lost = 0) (K : z_Ev xs L m_X4_cheapest (55, [some (aR 0 16), some (aI x), some (aI y), some (aI lost), some (aI A), some (aI best), some (aI least), some (aI (nI (i + 1))), none], [], (cm n t v ld sh o cd pl ka kb kc, D, E)) o_ M' kk) : z_Ev xs L m_X4_cheapest (55, [some (aR 0 16), some (aI x), some (aI y), some (aI lost), some (aI A), some (aI best), some (aI least), some (aI (nI i)), none], [], (cm n t v ld sh o cd pl ka kb kc, D, E)) o_ M' kk := by
  refine z_Ev_blk 3 (c' := ((if (16 : Int32) ≤ (nI i) then 146 else 62), [some (aR 0 16), some (aI x), some (aI y), some (aI lost), some (aI A), some (aI best), some (aI least), some (aI (nI i)), none], [], (cm n t v ld sh o cd pl ka kb kc, D, E))) rfl trivial ?_
  refine z_Ev_else (nI_ge (b := 16) hi (by decide)) ?_
  refine z_Ev_blk 4 (c' := ((if ((nI i) &&& lost) = 0 then 72 else 69), [some (aR 0 16), some (aI x), some (aI y), some (aI lost), some (aI A), some (aI best), some (aI least), some (aI (nI i)), none], [], (cm n t v ld sh o cd pl ka kb kc, D, E))) rfl trivial ?_
  refine z_Ev_else (hsk) ?_
  refine z_Ev_blk 3 (c' := (55, [some (aR 0 16), some (aI x), some (aI y), some (aI lost), some (aI A), some (aI best), some (aI least), some (aI ((nI i) + (1 : Int32))), none], [], (cm n t v ld sh o cd pl ka kb kc, D, E))) rfl trivial ?_
  refine z_Ev_fgt [true, true, true, true, true, true, true, true, false] ?_
  exact z_Ev_eq (c := (55, [some (aR 0 16), some (aI x), some (aI y), some (aI lost), some (aI A), some (aI best), some (aI least), some (aI ((nI i) + (1 : Int32))), none], [], (cm n t v ld sh o cd pl ka kb kc, D, E))) (c' := (55, [some (aR 0 16), some (aI x), some (aI y), some (aI lost), some (aI A), some (aI best), some (aI least), some (aI (nI (i + 1))), none], [], (cm n t v ld sh o cd pl ka kb kc, D, E))) (by rw [nI_1]) K
theorem cp_do {xs : Nat → Int32} {L : Nat} {o_ : z_Rs} {M' : Mem} {kk : Nat} (i : Nat) (x y lost A best least : Int32) (F : Int32) (LD SH : Nat → Int32) (n t : Nat → Int32) (v : Nat → Nat → Int32) (ld sh o cd pl ka kb kc : Nat → Int32) (D : Nat → Nat → Int32) (E : Nat → Int64) (hi : i < 16) (hsk : nI i &&& lost = 0) (hLD : (cGv (cI n) 0 (nI i) A ld).1 = LD) (hSH : cOb (cI n) 0 (nI i) A ld sh = SH) (hF : sFu (md g0 n) LD = F) (K : z_Ev xs L m_X4_cheapest (55, [some (aR 0 16), some (aI x), some (aI y), some (aI lost), some (aI A), some (aI (if ¬ SH 4 = 0 ∧ (best = -1 ∨ F < least) then nI i else best)), some (aI (if ¬ SH 4 = 0 ∧ (best = -1 ∨ F < least) then F else least)), some (aI (nI (i + 1))), none], [], (cm n t v LD SH o cd pl ka kb kc, D, E)) o_ M' kk) : z_Ev xs L m_X4_cheapest (55, [some (aR 0 16), some (aI x), some (aI y), some (aI lost), some (aI A), some (aI best), some (aI least), some (aI (nI i)), none], [], (cm n t v ld sh o cd pl ka kb kc, D, E)) o_ M' kk := by
  refine z_Ev_blk 3 (c' := ((if (16 : Int32) ≤ (nI i) then 146 else 62), [some (aR 0 16), some (aI x), some (aI y), some (aI lost), some (aI A), some (aI best), some (aI least), some (aI (nI i)), none], [], (cm n t v ld sh o cd pl ka kb kc, D, E))) rfl trivial ?_
  refine z_Ev_else (nI_ge (b := 16) hi (by decide)) ?_
  refine z_Ev_blk 4 (c' := ((if ((nI i) &&& lost) = 0 then 72 else 69), [some (aR 0 16), some (aI x), some (aI y), some (aI lost), some (aI A), some (aI best), some (aI least), some (aI (nI i)), none], [], (cm n t v ld sh o cd pl ka kb kc, D, E))) rfl trivial ?_
  refine z_Ev_if (hsk) ?_
  refine z_Ev_blk 7 (c' := (87, [some (aR 0 16), some (aI x), some (aI y), some (aI lost), some (aI A), some (aI best), some (aI least), some (aI (nI i)), none], [aI A, aI (nI i), aR 0 1, aR 0 23], (cm n t v ld sh o cd pl ka kb kc, D, E))) rfl trivial ?_
  refine z_Ev_call0 (m' := m_X3_shareOut) (as := [aR 0 23, aR 0 1, aI (nI i), aI A]) (r := []) (c_share_0 (nI i) A n t v ld sh o cd pl ka kb kc D E) rfl rfl ?_
  rw [hLD, hSH]
  refine z_Ev_blk 6 (c' := (104, [some (aR 0 16), some (aI x), some (aI y), some (aI lost), some (aI A), some (aI best), some (aI least), some (aI (nI i)), none], [aR 0 24, aR 0 1], (cm n t v LD SH o cd pl ka kb kc, D, E))) rfl trivial ?_
  refine z_Ev_call0 (m' := m_X0_fuelFor) (as := [aR 0 1, aR 0 24]) (r := []) ((by have q := c_fuelFor (xs := xs) (L := L) n t v LD SH o cd pl ka kb kc D E; rw [hF] at q; exact q)) rfl rfl ?_
  refine z_Ev_blk 5 (c' := ((if (SH 4) = 0 then 140 else 119), [some (aR 0 16), some (aI x), some (aI y), some (aI lost), some (aI A), some (aI best), some (aI least), some (aI (nI i)), some (aI F)], [], (cm n t v LD SH o cd pl ka kb kc, D, E))) rfl trivial ?_
  refine z_Ev_ite (fun h1 => ?_) (fun h1 => ?_)
  · skip
    refine z_Ev_blk 2 (c' := (55, [some (aR 0 16), some (aI x), some (aI y), some (aI lost), some (aI A), some (aI best), some (aI least), some (aI ((nI i) + (1 : Int32))), some (aI F)], [], (cm n t v LD SH o cd pl ka kb kc, D, E))) rfl trivial ?_
    refine z_Ev_fgt [true, true, true, true, true, true, true, true, false] ?_
    exact z_Ev_eq (c := (55, [some (aR 0 16), some (aI x), some (aI y), some (aI lost), some (aI A), some (aI best), some (aI least), some (aI ((nI i) + (1 : Int32))), none], [], (cm n t v LD SH o cd pl ka kb kc, D, E))) (c' := (55, [some (aR 0 16), some (aI x), some (aI y), some (aI lost), some (aI A), some (aI (if ¬ SH 4 = 0 ∧ (best = -1 ∨ F < least) then nI i else best)), some (aI (if ¬ SH 4 = 0 ∧ (best = -1 ∨ F < least) then F else least)), some (aI (nI (i + 1))), none], [], (cm n t v LD SH o cd pl ka kb kc, D, E))) (by (try simp only [← Int32.not_le] at *); simp [nI_1, *]) K
  · skip
    refine z_Ev_blk 3 (c' := ((if best = (-1 : Int32) then 132 else 125), [some (aR 0 16), some (aI x), some (aI y), some (aI lost), some (aI A), some (aI best), some (aI least), some (aI (nI i)), some (aI F)], [], (cm n t v LD SH o cd pl ka kb kc, D, E))) rfl trivial ?_
    refine z_Ev_ite (fun h2 => ?_) (fun h2 => ?_)
    · skip
      refine z_Ev_blk 6 (c' := (55, [some (aR 0 16), some (aI x), some (aI y), some (aI lost), some (aI A), some (aI (nI i)), some (aI F), some (aI ((nI i) + (1 : Int32))), some (aI F)], [], (cm n t v LD SH o cd pl ka kb kc, D, E))) rfl trivial ?_
      refine z_Ev_fgt [true, true, true, true, true, true, true, true, false] ?_
      exact z_Ev_eq (c := (55, [some (aR 0 16), some (aI x), some (aI y), some (aI lost), some (aI A), some (aI (nI i)), some (aI F), some (aI ((nI i) + (1 : Int32))), none], [], (cm n t v LD SH o cd pl ka kb kc, D, E))) (c' := (55, [some (aR 0 16), some (aI x), some (aI y), some (aI lost), some (aI A), some (aI (if ¬ SH 4 = 0 ∧ (best = -1 ∨ F < least) then nI i else best)), some (aI (if ¬ SH 4 = 0 ∧ (best = -1 ∨ F < least) then F else least)), some (aI (nI (i + 1))), none], [], (cm n t v LD SH o cd pl ka kb kc, D, E))) (by (try simp only [← Int32.not_le] at *); simp [nI_1, *]) K
    · skip
      refine z_Ev_blk 3 (c' := ((if least ≤ F then 140 else 132), [some (aR 0 16), some (aI x), some (aI y), some (aI lost), some (aI A), some (aI best), some (aI least), some (aI (nI i)), some (aI F)], [], (cm n t v LD SH o cd pl ka kb kc, D, E))) rfl trivial ?_
      refine z_Ev_ite (fun h3 => ?_) (fun h3 => ?_)
      · skip
        refine z_Ev_blk 2 (c' := (55, [some (aR 0 16), some (aI x), some (aI y), some (aI lost), some (aI A), some (aI best), some (aI least), some (aI ((nI i) + (1 : Int32))), some (aI F)], [], (cm n t v LD SH o cd pl ka kb kc, D, E))) rfl trivial ?_
        refine z_Ev_fgt [true, true, true, true, true, true, true, true, false] ?_
        exact z_Ev_eq (c := (55, [some (aR 0 16), some (aI x), some (aI y), some (aI lost), some (aI A), some (aI best), some (aI least), some (aI ((nI i) + (1 : Int32))), none], [], (cm n t v LD SH o cd pl ka kb kc, D, E))) (c' := (55, [some (aR 0 16), some (aI x), some (aI y), some (aI lost), some (aI A), some (aI (if ¬ SH 4 = 0 ∧ (best = -1 ∨ F < least) then nI i else best)), some (aI (if ¬ SH 4 = 0 ∧ (best = -1 ∨ F < least) then F else least)), some (aI (nI (i + 1))), none], [], (cm n t v LD SH o cd pl ka kb kc, D, E))) (by (try simp only [← Int32.not_le] at *); simp [nI_1, *]) K
      · skip
        refine z_Ev_blk 6 (c' := (55, [some (aR 0 16), some (aI x), some (aI y), some (aI lost), some (aI A), some (aI (nI i)), some (aI F), some (aI ((nI i) + (1 : Int32))), some (aI F)], [], (cm n t v LD SH o cd pl ka kb kc, D, E))) rfl trivial ?_
        refine z_Ev_fgt [true, true, true, true, true, true, true, true, false] ?_
        exact z_Ev_eq (c := (55, [some (aR 0 16), some (aI x), some (aI y), some (aI lost), some (aI A), some (aI (nI i)), some (aI F), some (aI ((nI i) + (1 : Int32))), none], [], (cm n t v LD SH o cd pl ka kb kc, D, E))) (c' := (55, [some (aR 0 16), some (aI x), some (aI y), some (aI lost), some (aI A), some (aI (if ¬ SH 4 = 0 ∧ (best = -1 ∨ F < least) then nI i else best)), some (aI (if ¬ SH 4 = 0 ∧ (best = -1 ∨ F < least) then F else least)), some (aI (nI (i + 1))), none], [], (cm n t v LD SH o cd pl ka kb kc, D, E))) (by (try simp only [← Int32.not_le] at *); simp [nI_1, *]) K
theorem cp_end_0 {xs : Nat → Int32} {L : Nat} (x lost A best least : Int32) (n t : Nat → Int32) (v : Nat → Nat → Int32) (ld sh o cd pl ka kb kc : Nat → Int32) (D : Nat → Nat → Int32) (E : Nat → Int64) : z_Ev xs L m_X4_cheapest (55, [some (aR 0 16), some (aI x), some (aI (0 : Int32)), some (aI lost), some (aI A), some (aI best), some (aI least), some (aI (16 : Int32)), none], [], (cm n t v ld sh o cd pl ka kb kc, D, E)) (.inl (some (aI best))) (cm n t v ld sh o cd pl ka kb kc, D, E) 0 := by
  refine z_Ev_blk 3 (c' := ((if (16 : Int32) ≤ (16 : Int32) then 146 else 62), [some (aR 0 16), some (aI x), some (aI (0 : Int32)), some (aI lost), some (aI A), some (aI best), some (aI least), some (aI (16 : Int32)), none], [], (cm n t v ld sh o cd pl ka kb kc, D, E))) rfl trivial ?_
  refine z_Ev_if (by decide) ?_
  refine z_Ev_blk 2 (c' := ((if (0 : Int32) = 0 then 150 else 155), [some (aR 0 16), some (aI x), some (aI (0 : Int32)), some (aI lost), some (aI A), some (aI best), some (aI least), some (aI (16 : Int32)), none], [], (cm n t v ld sh o cd pl ka kb kc, D, E))) rfl trivial ?_
  refine z_Ev_if (by decide) ?_
  refine z_Ev_blk 2 (c' := (157, [some (aR 0 16), some (aI x), some (aI (0 : Int32)), some (aI lost), some (aI A), some (aI best), some (aI least), some (aI (16 : Int32)), none], [aI best], (cm n t v ld sh o cd pl ka kb kc, D, E))) rfl trivial ?_
  exact z_Ev_iretE rfl rfl (by rfl) (by rfl)
theorem cp_beg_0 {xs : Nat → Int32} {L : Nat} {o_ : z_Rs} {M' : Mem} {kk : Nat} (h : Nat) (A : Int32) (n t : Nat → Int32) (v : Nat → Nat → Int32) (ld sh o cd pl ka kb kc : Nat → Int32) (D : Nat → Nat → Int32) (E : Nat → Int64) (hh : h < 48) (hA : cld n h = A) (K : z_Ev xs L m_X4_cheapest (55, [some (aR 0 16), some (aI (nI h)), some (aI (0 : Int32)), some (aI (mkF (fun j => n (16 + j)) 3)), some (aI A), some (aI (-1 : Int32)), some (aI (-1 : Int32)), some (aI (0 : Int32)), none], [], (cm n t v ld sh o cd pl ka kb kc, D, E)) o_ M' kk) : z_Ev xs L m_X4_cheapest (0, [some (aR 0 16), some (aI (nI h)), some (aI (0 : Int32)), none, none, none, none, none, none], [], (cm n t v ld sh o cd pl ka kb kc, D, E)) o_ M' kk := by
  refine z_Ev_blk 1 (c' := (1, [some (aR 0 16), some (aI (nI h)), some (aI (0 : Int32)), none, none, none, none, none, none], [aI (nI h)], (cm n t v ld sh o cd pl ka kb kc, D, E))) rfl trivial ?_
  refine z_Ev_call0 (m' := m_X4_isHour) (as := [aI (nI h)]) (r := []) ((by have q := e_isHour (xs := xs) (L := L) (nI h) (cm n t v ld sh o cd pl ka kb kc) D E; rw [f_b_t (nI47 hh)] at q; exact q)) rfl rfl ?_
  refine z_Ev_blk 1 (c' := ((if (1 : Int32) = 0 then 20 else 7), [some (aR 0 16), some (aI (nI h)), some (aI (0 : Int32)), none, none, none, none, none, none], [], (cm n t v ld sh o cd pl ka kb kc, D, E))) rfl trivial ?_
  refine z_Ev_else (by decide) ?_
  refine z_Ev_blk 3 (c' := (10, [some (aR 0 16), some (aI (nI h)), some (aI (0 : Int32)), none, none, none, none, none, none], [aI (0 : Int32), aI (1 : Int32), aI (0 : Int32)], (cm n t v ld sh o cd pl ka kb kc, D, E))) rfl trivial ?_
  refine z_Ev_call0 (m' := m_X4_isFrom) (as := [aI (0 : Int32), aI (1 : Int32), aI (0 : Int32)]) (r := []) ((by have q := e_isFrom (xs := xs) (L := L) (0 : Int32) (1 : Int32) (0 : Int32) (cm n t v ld sh o cd pl ka kb kc) D E; rw [f_b_t (by decide)] at q; exact q)) rfl rfl ?_
  refine z_Ev_blk 1 (c' := ((if (1 : Int32) = 0 then 20 else 16), [some (aR 0 16), some (aI (nI h)), some (aI (0 : Int32)), none, none, none, none, none, none], [], (cm n t v ld sh o cd pl ka kb kc, D, E))) rfl trivial ?_
  refine z_Ev_else (by decide) ?_
  refine z_Ev_blk 2 (c' := (21, [some (aR 0 16), some (aI (nI h)), some (aI (0 : Int32)), none, none, none, none, none, none], [aI (1 : Int32)], (cm n t v ld sh o cd pl ka kb kc, D, E))) rfl trivial ?_
  refine z_Ev_call0 (m' := m_X4_requireArgument) (as := [aI (1 : Int32)]) (r := []) (e_reqA1 (cm n t v ld sh o cd pl ka kb kc) D E) rfl rfl ?_
  refine z_Ev_blk 4 (c' := (32, [some (aR 0 16), some (aI (nI h)), some (aI (0 : Int32)), none, none, none, none, none, none], [aI (3 : Int32), aR 0 1], (cm n t v ld sh o cd pl ka kb kc, D, E))) rfl trivial ?_
  refine z_Ev_call0 (m' := m_X0_maskOf) (as := [aR 0 1, aI (3 : Int32)]) (r := []) (c_maskOf_0 (3 : Int32) n t v ld sh o cd pl ka kb kc D E) rfl rfl ?_
  refine z_Ev_blk 4 (c' := (41, [some (aR 0 16), some (aI (nI h)), some (aI (0 : Int32)), some (aI (mkF (fun j => n (16 + j)) 3)), none, none, none, none, none], [aI (nI h), aR 0 0], (cm n t v ld sh o cd pl ka kb kc, D, E))) rfl trivial ?_
  refine z_Ev_call0 (m' := m_X1_loadOf) (as := [aR 0 0, aI (nI h)]) (r := []) ((by have q := c_loadOf_0 (xs := xs) (L := L) h n t v ld sh o cd pl ka kb kc D E hh; rw [hA] at q; exact q)) rfl rfl ?_
  refine z_Ev_blk 7 (c' := (55, [some (aR 0 16), some (aI (nI h)), some (aI (0 : Int32)), some (aI (mkF (fun j => n (16 + j)) 3)), some (aI A), some (aI (-1 : Int32)), some (aI (-1 : Int32)), some (aI (0 : Int32)), none], [], (cm n t v ld sh o cd pl ka kb kc, D, E))) rfl trivial ?_
  exact K
theorem cp_end_1 {xs : Nat → Int32} {L : Nat} (x lost A best least : Int32) (n t : Nat → Int32) (v : Nat → Nat → Int32) (ld sh o cd pl ka kb kc : Nat → Int32) (D : Nat → Nat → Int32) (E : Nat → Int64) : z_Ev xs L m_X4_cheapest (55, [some (aR 0 16), some (aI x), some (aI (1 : Int32)), some (aI lost), some (aI A), some (aI best), some (aI least), some (aI (16 : Int32)), none], [], (cm n t v ld sh o cd pl ka kb kc, D, E)) (.inl (some (aI least))) (cm n t v ld sh o cd pl ka kb kc, D, E) 0 := by
  refine z_Ev_blk 3 (c' := ((if (16 : Int32) ≤ (16 : Int32) then 146 else 62), [some (aR 0 16), some (aI x), some (aI (1 : Int32)), some (aI lost), some (aI A), some (aI best), some (aI least), some (aI (16 : Int32)), none], [], (cm n t v ld sh o cd pl ka kb kc, D, E))) rfl trivial ?_
  refine z_Ev_if (by decide) ?_
  refine z_Ev_blk 2 (c' := ((if (1 : Int32) = 0 then 150 else 155), [some (aR 0 16), some (aI x), some (aI (1 : Int32)), some (aI lost), some (aI A), some (aI best), some (aI least), some (aI (16 : Int32)), none], [], (cm n t v ld sh o cd pl ka kb kc, D, E))) rfl trivial ?_
  refine z_Ev_else (by decide) ?_
  refine z_Ev_blk 1 (c' := (157, [some (aR 0 16), some (aI x), some (aI (1 : Int32)), some (aI lost), some (aI A), some (aI best), some (aI least), some (aI (16 : Int32)), none], [aI least], (cm n t v ld sh o cd pl ka kb kc, D, E))) rfl trivial ?_
  exact z_Ev_iretE rfl rfl (by rfl) (by rfl)
theorem cp_beg_1 {xs : Nat → Int32} {L : Nat} {o_ : z_Rs} {M' : Mem} {kk : Nat} (h : Nat) (A : Int32) (n t : Nat → Int32) (v : Nat → Nat → Int32) (ld sh o cd pl ka kb kc : Nat → Int32) (D : Nat → Nat → Int32) (E : Nat → Int64) (hh : h < 48) (hA : cld n h = A) (K : z_Ev xs L m_X4_cheapest (55, [some (aR 0 16), some (aI (nI h)), some (aI (1 : Int32)), some (aI (mkF (fun j => n (16 + j)) 3)), some (aI A), some (aI (-1 : Int32)), some (aI (-1 : Int32)), some (aI (0 : Int32)), none], [], (cm n t v ld sh o cd pl ka kb kc, D, E)) o_ M' kk) : z_Ev xs L m_X4_cheapest (0, [some (aR 0 16), some (aI (nI h)), some (aI (1 : Int32)), none, none, none, none, none, none], [], (cm n t v ld sh o cd pl ka kb kc, D, E)) o_ M' kk := by
  refine z_Ev_blk 1 (c' := (1, [some (aR 0 16), some (aI (nI h)), some (aI (1 : Int32)), none, none, none, none, none, none], [aI (nI h)], (cm n t v ld sh o cd pl ka kb kc, D, E))) rfl trivial ?_
  refine z_Ev_call0 (m' := m_X4_isHour) (as := [aI (nI h)]) (r := []) ((by have q := e_isHour (xs := xs) (L := L) (nI h) (cm n t v ld sh o cd pl ka kb kc) D E; rw [f_b_t (nI47 hh)] at q; exact q)) rfl rfl ?_
  refine z_Ev_blk 1 (c' := ((if (1 : Int32) = 0 then 20 else 7), [some (aR 0 16), some (aI (nI h)), some (aI (1 : Int32)), none, none, none, none, none, none], [], (cm n t v ld sh o cd pl ka kb kc, D, E))) rfl trivial ?_
  refine z_Ev_else (by decide) ?_
  refine z_Ev_blk 3 (c' := (10, [some (aR 0 16), some (aI (nI h)), some (aI (1 : Int32)), none, none, none, none, none, none], [aI (1 : Int32), aI (1 : Int32), aI (0 : Int32)], (cm n t v ld sh o cd pl ka kb kc, D, E))) rfl trivial ?_
  refine z_Ev_call0 (m' := m_X4_isFrom) (as := [aI (0 : Int32), aI (1 : Int32), aI (1 : Int32)]) (r := []) ((by have q := e_isFrom (xs := xs) (L := L) (0 : Int32) (1 : Int32) (1 : Int32) (cm n t v ld sh o cd pl ka kb kc) D E; rw [f_b_t (by decide)] at q; exact q)) rfl rfl ?_
  refine z_Ev_blk 1 (c' := ((if (1 : Int32) = 0 then 20 else 16), [some (aR 0 16), some (aI (nI h)), some (aI (1 : Int32)), none, none, none, none, none, none], [], (cm n t v ld sh o cd pl ka kb kc, D, E))) rfl trivial ?_
  refine z_Ev_else (by decide) ?_
  refine z_Ev_blk 2 (c' := (21, [some (aR 0 16), some (aI (nI h)), some (aI (1 : Int32)), none, none, none, none, none, none], [aI (1 : Int32)], (cm n t v ld sh o cd pl ka kb kc, D, E))) rfl trivial ?_
  refine z_Ev_call0 (m' := m_X4_requireArgument) (as := [aI (1 : Int32)]) (r := []) (e_reqA1 (cm n t v ld sh o cd pl ka kb kc) D E) rfl rfl ?_
  refine z_Ev_blk 4 (c' := (32, [some (aR 0 16), some (aI (nI h)), some (aI (1 : Int32)), none, none, none, none, none, none], [aI (3 : Int32), aR 0 1], (cm n t v ld sh o cd pl ka kb kc, D, E))) rfl trivial ?_
  refine z_Ev_call0 (m' := m_X0_maskOf) (as := [aR 0 1, aI (3 : Int32)]) (r := []) (c_maskOf_0 (3 : Int32) n t v ld sh o cd pl ka kb kc D E) rfl rfl ?_
  refine z_Ev_blk 4 (c' := (41, [some (aR 0 16), some (aI (nI h)), some (aI (1 : Int32)), some (aI (mkF (fun j => n (16 + j)) 3)), none, none, none, none, none], [aI (nI h), aR 0 0], (cm n t v ld sh o cd pl ka kb kc, D, E))) rfl trivial ?_
  refine z_Ev_call0 (m' := m_X1_loadOf) (as := [aR 0 0, aI (nI h)]) (r := []) ((by have q := c_loadOf_0 (xs := xs) (L := L) h n t v ld sh o cd pl ka kb kc D E hh; rw [hA] at q; exact q)) rfl rfl ?_
  refine z_Ev_blk 7 (c' := (55, [some (aR 0 16), some (aI (nI h)), some (aI (1 : Int32)), some (aI (mkF (fun j => n (16 + j)) 3)), some (aI A), some (aI (-1 : Int32)), some (aI (-1 : Int32)), some (aI (0 : Int32)), none], [], (cm n t v ld sh o cd pl ka kb kc, D, E))) rfl trivial ?_
  exact K
def fdN (Z : Nat → Int32) : Nat → Nat → Int32
  | 0, _ => -1
  | d + 1, h => if 0 < Z (88 + 6 * h + 1) then nI h else fdN Z d (h + 1)

theorem fd_1 {xs : Nat → Int32} {L : Nat} {o_ : z_Rs} {M' : Mem} {kk : Nat} (h : Nat) (n t : Nat → Int32) (v : Nat → Nat → Int32) (ld sh o cd pl ka kb kc : Nat → Int32) (D : Nat → Nat → Int32) (E : Nat → Int64) (hh : h < 48) (hz : ¬ 0 < t (88 + 6 * h + 1)) (K : z_Ev xs L m_X4_firstDark (32, [some (aR 0 16), some (aI (nI (h + 1)))], [], (cm n t v ld sh o cd pl ka kb kc, D, E)) o_ M' kk) : z_Ev xs L m_X4_firstDark (32, [some (aR 0 16), some (aI (nI h))], [], (cm n t v ld sh o cd pl ka kb kc, D, E)) o_ M' kk := by
  refine z_Ev_blk 3 (c' := ((if (48 : Int32) ≤ (nI h) then 60 else 38), [some (aR 0 16), some (aI (nI h))], [], (cm n t v ld sh o cd pl ka kb kc, D, E))) rfl trivial ?_
  refine z_Ev_else (nI_ge (b := 48) hh (by decide)) ?_
  refine z_Ev_blk 7 (c' := (49, [some (aR 0 16), some (aI (nI h))], [aI ((cm n t v ld sh o cd pl ka kb kc) 9 11 ((nI h).toNatClampNeg))], (cm n t v ld sh o cd pl ka kb kc, D, E))) rfl ⟨rfl, (inb_nI (show h < 48 by omega) (by decide)), trivial⟩ ?_
  rw [nI_clamp (show h < 2 ^ 31 by omega), cmt_r11_2 (show h < 48 by omega)]
  refine z_Ev_blk 1 (c' := ((if (t (88 + 6 * h + 1)) ≤ 0 then 54 else 52), [some (aR 0 16), some (aI (nI h))], [], (cm n t v ld sh o cd pl ka kb kc, D, E))) rfl trivial ?_
  refine z_Ev_if (Int32.not_lt.mp hz) ?_
  refine z_Ev_blk 2 (c' := (32, [some (aR 0 16), some (aI ((nI h) + (1 : Int32)))], [], (cm n t v ld sh o cd pl ka kb kc, D, E))) rfl trivial ?_
  refine z_Ev_fgt [true, true] ?_
  exact z_Ev_eq (c := (32, [some (aR 0 16), some (aI ((nI h) + (1 : Int32)))], [], (cm n t v ld sh o cd pl ka kb kc, D, E))) (c' := (32, [some (aR 0 16), some (aI (nI (h + 1)))], [], (cm n t v ld sh o cd pl ka kb kc, D, E))) (by rw [nI_1]) K
theorem fd_y {xs : Nat → Int32} {L : Nat} (h : Nat) (n t : Nat → Int32) (v : Nat → Nat → Int32) (ld sh o cd pl ka kb kc : Nat → Int32) (D : Nat → Nat → Int32) (E : Nat → Int64) (hh : h < 48) (hz : 0 < t (88 + 6 * h + 1)) : z_Ev xs L m_X4_firstDark (32, [some (aR 0 16), some (aI (nI h))], [], (cm n t v ld sh o cd pl ka kb kc, D, E)) (.inl (some (aI (nI h)))) (cm n t v ld sh o cd pl ka kb kc, D, E) 0 := by
  refine z_Ev_blk 3 (c' := ((if (48 : Int32) ≤ (nI h) then 60 else 38), [some (aR 0 16), some (aI (nI h))], [], (cm n t v ld sh o cd pl ka kb kc, D, E))) rfl trivial ?_
  refine z_Ev_else (nI_ge (b := 48) hh (by decide)) ?_
  refine z_Ev_blk 7 (c' := (49, [some (aR 0 16), some (aI (nI h))], [aI ((cm n t v ld sh o cd pl ka kb kc) 9 11 ((nI h).toNatClampNeg))], (cm n t v ld sh o cd pl ka kb kc, D, E))) rfl ⟨rfl, (inb_nI (show h < 48 by omega) (by decide)), trivial⟩ ?_
  rw [nI_clamp (show h < 2 ^ 31 by omega), cmt_r11_2 (show h < 48 by omega)]
  refine z_Ev_blk 1 (c' := ((if (t (88 + 6 * h + 1)) ≤ 0 then 54 else 52), [some (aR 0 16), some (aI (nI h))], [], (cm n t v ld sh o cd pl ka kb kc, D, E))) rfl trivial ?_
  refine z_Ev_else (Int32.not_le.mpr hz) ?_
  refine z_Ev_blk 1 (c' := (53, [some (aR 0 16), some (aI (nI h))], [aI (nI h)], (cm n t v ld sh o cd pl ka kb kc, D, E))) rfl trivial ?_
  exact z_Ev_iretE rfl rfl (by rfl) (by rfl)
theorem fd_e {xs : Nat → Int32} {L : Nat}  (n t : Nat → Int32) (v : Nat → Nat → Int32) (ld sh o cd pl ka kb kc : Nat → Int32) (D : Nat → Nat → Int32) (E : Nat → Int64)  : z_Ev xs L m_X4_firstDark (32, [some (aR 0 16), some (aI (nI 48))], [], (cm n t v ld sh o cd pl ka kb kc, D, E)) (.inl (some (aI (-1)))) (cm n t v ld sh o cd pl ka kb kc, D, E) 0 := by
  refine z_Ev_blk 3 (c' := ((if (48 : Int32) ≤ (nI 48) then 60 else 38), [some (aR 0 16), some (aI (nI 48))], [], (cm n t v ld sh o cd pl ka kb kc, D, E))) rfl trivial ?_
  refine z_Ev_if (by decide) ?_
  refine z_Ev_blk 1 (c' := (61, [some (aR 0 16), some (aI (nI 48))], [aI (-1 : Int32)], (cm n t v ld sh o cd pl ka kb kc, D, E))) rfl trivial ?_
  exact z_Ev_iretE rfl rfl (by rfl) (by rfl)
theorem fd_all {xs : Nat → Int32} {L : Nat} (n t : Nat → Int32) (v : Nat → Nat → Int32) (ld sh o cd pl ka kb kc : Nat → Int32) (D : Nat → Nat → Int32) (E : Nat → Int64) : ∀ (d h : Nat), h + d = 48 → z_Ev xs L m_X4_firstDark (32, [some (aR 0 16), some (aI (nI h))], [], (cm n t v ld sh o cd pl ka kb kc, D, E)) (.inl (some (aI (fdN t d h)))) (cm n t v ld sh o cd pl ka kb kc, D, E) 0 := by
  intro d
  induction d with
  | zero =>
    intro h hd
    have e : h = 48 := by omega
    subst e
    exact fd_e n t v ld sh o cd pl ka kb kc D E
  | succ d ih =>
    intro h hd
    unfold fdN
    by_cases q : 0 < t (88 + 6 * h + 1)
    · rw [if_pos q]
      exact fd_y h n t v ld sh o cd pl ka kb kc D E (by omega) q
    · rw [if_neg q]
      exact fd_1 h n t v ld sh o cd pl ka kb kc D E (by omega) q (ih (h + 1) (by omega))
theorem c_firstDark0 {xs : Nat → Int32} {L : Nat} (H : Nat) (Z LD SH : Nat → Int32) (n t : Nat → Int32) (v : Nat → Nat → Int32) (ld sh o cd pl ka kb kc : Nat → Int32) (D : Nat → Nat → Int32) (E : Nat → Int64) (hV : Vs n H) (h34 : n 34 = nI H) (hH : H ≤ 48) (hb5 : z_isB (n 36) = true) (hb6 : z_isB (n 37) = true) (hY : cTI (48 - H) (n, ld, sh) = (Z, LD, SH)) : z_Mt xs L m_X4_firstDark [aR 0 16] (cm n t v ld sh o cd pl ka kb kc, D, E) (.inl (some (aI (fdN Z (48 - H) H)))) (cm n Z v LD SH o cd pl ka kb kc, D, E) 0 := by
  refine z_Ev_blk 4 (c' := (8, [some (aR 0 16), none], [aR 0 0, aR 1 0], (cm n t v ld sh o cd pl ka kb kc, D, E))) rfl trivial ?_
  refine z_Ev_call0 (m' := m_X1_copyFrom) (as := [aR 1 0, aR 0 0]) (r := []) (c_copy_tn n t v ld sh o cd pl ka kb kc D E hb5 hb6) rfl rfl ?_
  refine z_Ev_blk 5 (c' := (21, [some (aR 0 16), none], [aR 0 23, aI (48 : Int32), aR 1 0], (cm n n v ld sh o cd pl ka kb kc, D, E))) rfl trivial ?_
  refine z_Ev_call0 (m' := m_X1_letHoursGoBy) (as := [aR 1 0, aI (48 : Int32), aR 0 23]) (r := []) ((by have q := c_hours_1 (xs := xs) (L := L) n n v ld sh o cd pl ka kb kc D E 48 H (by decide) hV; rw [show min (48 - 0) (48 - H) = 48 - H by omega, hY] at q; exact q)) rfl rfl ?_
  refine z_Ev_blk 3 (c' := (31, [some (aR 0 16), none], [aI (n 34)], (cm n Z v LD SH o cd pl ka kb kc, D, E))) rfl trivial ?_
  rw [h34]
  refine z_Ev_blk 1 (c' := (32, [some (aR 0 16), some (aI (nI H))], [], (cm n Z v LD SH o cd pl ka kb kc, D, E))) rfl trivial ?_
  exact fd_all n Z v LD SH o cd pl ka kb kc D E (48 - H) H (by omega)
theorem c_ifShed0_0 {xs : Nat → Int32} {L : Nat} (H : Nat) (Z LD SH Z2 LD2 SH2 : Nat → Int32) (n t : Nat → Int32) (v : Nat → Nat → Int32) (ld sh o cd pl ka kb kc : Nat → Int32) (D : Nat → Nat → Int32) (E : Nat → Int64) (hV : Vs n H) (hb5 : z_isB (n 36) = true) (hb6 : z_isB (n 37) = true) (hY : cTI (48 - H) (n, ld, sh) = (Z, LD, SH)) (hZ : Z 34 = nI 48) (hs : ¬ n 37 = 0) (hV2 : Vs (upd n 37 0) H) (hY2 : cTI (48 - H) (upd n 37 0, LD, SH) = (Z2, LD2, SH2)) (hZ2 : Z2 34 = nI 48) : z_Mt xs L m_X4_ifShed [aR 0 16] (cm n t v ld sh o cd pl ka kb kc, D, E) (.inl (some (aI (dkN Z 48 - dkN Z2 48 + 100)))) (cm n Z2 v LD2 SH2 o cd pl ka kb kc, D, E) 0 := by
  refine z_Ev_blk 4 (c' := (8, [some (aR 0 16), none], [aR 0 0, aR 1 0], (cm n t v ld sh o cd pl ka kb kc, D, E))) rfl trivial ?_
  refine z_Ev_call0 (m' := m_X1_copyFrom) (as := [aR 1 0, aR 0 0]) (r := []) (c_copy_tn n t v ld sh o cd pl ka kb kc D E hb5 hb6) rfl rfl ?_
  refine z_Ev_blk 5 (c' := (21, [some (aR 0 16), none], [aR 0 23, aI (48 : Int32), aR 1 0], (cm n n v ld sh o cd pl ka kb kc, D, E))) rfl trivial ?_
  refine z_Ev_call0 (m' := m_X1_letHoursGoBy) (as := [aR 1 0, aI (48 : Int32), aR 0 23]) (r := []) ((by have q := c_hours_1 (xs := xs) (L := L) n n v ld sh o cd pl ka kb kc D E 48 H (by decide) hV; rw [show min (48 - 0) (48 - H) = 48 - H by omega, hY] at q; exact q)) rfl rfl ?_
  refine z_Ev_blk 2 (c' := (28, [some (aR 0 16), none], [aR 1 0], (cm n Z v LD SH o cd pl ka kb kc, D, E))) rfl trivial ?_
  refine z_Ev_call0 (m' := m_X1_darkHours) (as := [aR 1 0]) (r := []) (c_darkHours_1 n Z v LD SH o cd pl ka kb kc D E 48 hZ (by decide)) rfl rfl ?_
  refine z_Ev_blk 5 (c' := (40, [some (aR 0 16), some (aI (dkN Z 48))], [aR 0 0, aR 1 0], (cm n Z v LD SH o cd pl ka kb kc, D, E))) rfl trivial ?_
  refine z_Ev_call0 (m' := m_X1_copyFrom) (as := [aR 1 0, aR 0 0]) (r := []) (c_copy_tn n Z v LD SH o cd pl ka kb kc D E hb5 hb6) rfl rfl ?_
  refine z_Ev_blk 6 (c' := ((if (n 37) = 0 then 57 else 61), [some (aR 0 16), some (aI (dkN Z 48))], [aR 1 0], (cm n n v LD SH o cd pl ka kb kc, D, E))) rfl trivial ?_
  refine z_Ev_else (hs) ?_
  refine z_Ev_blk 2 (c' := (65, [some (aR 0 16), some (aI (dkN Z 48))], [], (up3 (cm n n v LD SH o cd pl ka kb kc) 1 0 6 (0 : Int32), D, E))) rfl ⟨rfl, trivial⟩ ?_
  rw [cmt_0_6]
  refine z_Ev_blk 5 (c' := (75, [some (aR 0 16), some (aI (dkN Z 48))], [aR 0 23, aI (48 : Int32), aR 1 0], (cm n (upd n 37 (0 : Int32)) v LD SH o cd pl ka kb kc, D, E))) rfl trivial ?_
  refine z_Ev_call0 (m' := m_X1_letHoursGoBy) (as := [aR 1 0, aI (48 : Int32), aR 0 23]) (r := []) ((by have q := c_hours_1 (xs := xs) (L := L) n (upd n 37 (0 : Int32)) v LD SH o cd pl ka kb kc D E 48 H (by decide) hV2; rw [show min (48 - 0) (48 - H) = 48 - H by omega, hY2] at q; exact q)) rfl rfl ?_
  refine z_Ev_blk 3 (c' := (83, [some (aR 0 16), some (aI (dkN Z 48))], [aR 1 0, aI (dkN Z 48)], (cm n Z2 v LD2 SH2 o cd pl ka kb kc, D, E))) rfl trivial ?_
  refine z_Ev_call0 (m' := m_X1_darkHours) (as := [aR 1 0]) (r := [aI (dkN Z 48)]) (c_darkHours_1 n Z2 v LD2 SH2 o cd pl ka kb kc D E 48 hZ2 (by decide)) rfl rfl ?_
  refine z_Ev_blk 3 (c' := (90, [some (aR 0 16), some (aI (dkN Z 48))], [aI (((dkN Z 48) - (dkN Z2 48)) + (100 : Int32))], (cm n Z2 v LD2 SH2 o cd pl ka kb kc, D, E))) rfl trivial ?_
  exact z_Ev_iretE rfl rfl (by rfl) (by rfl)
theorem c_ifShed0_1 {xs : Nat → Int32} {L : Nat} (H : Nat) (Z LD SH Z2 LD2 SH2 : Nat → Int32) (n t : Nat → Int32) (v : Nat → Nat → Int32) (ld sh o cd pl ka kb kc : Nat → Int32) (D : Nat → Nat → Int32) (E : Nat → Int64) (hV : Vs n H) (hb5 : z_isB (n 36) = true) (hb6 : z_isB (n 37) = true) (hY : cTI (48 - H) (n, ld, sh) = (Z, LD, SH)) (hZ : Z 34 = nI 48) (hs : n 37 = 0) (hV2 : Vs (upd n 37 1) H) (hY2 : cTI (48 - H) (upd n 37 1, LD, SH) = (Z2, LD2, SH2)) (hZ2 : Z2 34 = nI 48) : z_Mt xs L m_X4_ifShed [aR 0 16] (cm n t v ld sh o cd pl ka kb kc, D, E) (.inl (some (aI (dkN Z 48 - dkN Z2 48 + 100)))) (cm n Z2 v LD2 SH2 o cd pl ka kb kc, D, E) 0 := by
  refine z_Ev_blk 4 (c' := (8, [some (aR 0 16), none], [aR 0 0, aR 1 0], (cm n t v ld sh o cd pl ka kb kc, D, E))) rfl trivial ?_
  refine z_Ev_call0 (m' := m_X1_copyFrom) (as := [aR 1 0, aR 0 0]) (r := []) (c_copy_tn n t v ld sh o cd pl ka kb kc D E hb5 hb6) rfl rfl ?_
  refine z_Ev_blk 5 (c' := (21, [some (aR 0 16), none], [aR 0 23, aI (48 : Int32), aR 1 0], (cm n n v ld sh o cd pl ka kb kc, D, E))) rfl trivial ?_
  refine z_Ev_call0 (m' := m_X1_letHoursGoBy) (as := [aR 1 0, aI (48 : Int32), aR 0 23]) (r := []) ((by have q := c_hours_1 (xs := xs) (L := L) n n v ld sh o cd pl ka kb kc D E 48 H (by decide) hV; rw [show min (48 - 0) (48 - H) = 48 - H by omega, hY] at q; exact q)) rfl rfl ?_
  refine z_Ev_blk 2 (c' := (28, [some (aR 0 16), none], [aR 1 0], (cm n Z v LD SH o cd pl ka kb kc, D, E))) rfl trivial ?_
  refine z_Ev_call0 (m' := m_X1_darkHours) (as := [aR 1 0]) (r := []) (c_darkHours_1 n Z v LD SH o cd pl ka kb kc D E 48 hZ (by decide)) rfl rfl ?_
  refine z_Ev_blk 5 (c' := (40, [some (aR 0 16), some (aI (dkN Z 48))], [aR 0 0, aR 1 0], (cm n Z v LD SH o cd pl ka kb kc, D, E))) rfl trivial ?_
  refine z_Ev_call0 (m' := m_X1_copyFrom) (as := [aR 1 0, aR 0 0]) (r := []) (c_copy_tn n Z v LD SH o cd pl ka kb kc D E hb5 hb6) rfl rfl ?_
  refine z_Ev_blk 6 (c' := ((if (n 37) = 0 then 57 else 61), [some (aR 0 16), some (aI (dkN Z 48))], [aR 1 0], (cm n n v LD SH o cd pl ka kb kc, D, E))) rfl trivial ?_
  refine z_Ev_if (hs) ?_
  refine z_Ev_blk 3 (c' := (65, [some (aR 0 16), some (aI (dkN Z 48))], [], (up3 (cm n n v LD SH o cd pl ka kb kc) 1 0 6 (1 : Int32), D, E))) rfl ⟨rfl, trivial⟩ ?_
  rw [cmt_0_6]
  refine z_Ev_blk 5 (c' := (75, [some (aR 0 16), some (aI (dkN Z 48))], [aR 0 23, aI (48 : Int32), aR 1 0], (cm n (upd n 37 (1 : Int32)) v LD SH o cd pl ka kb kc, D, E))) rfl trivial ?_
  refine z_Ev_call0 (m' := m_X1_letHoursGoBy) (as := [aR 1 0, aI (48 : Int32), aR 0 23]) (r := []) ((by have q := c_hours_1 (xs := xs) (L := L) n (upd n 37 (1 : Int32)) v LD SH o cd pl ka kb kc D E 48 H (by decide) hV2; rw [show min (48 - 0) (48 - H) = 48 - H by omega, hY2] at q; exact q)) rfl rfl ?_
  refine z_Ev_blk 3 (c' := (83, [some (aR 0 16), some (aI (dkN Z 48))], [aR 1 0, aI (dkN Z 48)], (cm n Z2 v LD2 SH2 o cd pl ka kb kc, D, E))) rfl trivial ?_
  refine z_Ev_call0 (m' := m_X1_darkHours) (as := [aR 1 0]) (r := [aI (dkN Z 48)]) (c_darkHours_1 n Z2 v LD2 SH2 o cd pl ka kb kc D E 48 hZ2 (by decide)) rfl rfl ?_
  refine z_Ev_blk 3 (c' := (90, [some (aR 0 16), some (aI (dkN Z 48))], [aI (((dkN Z 48) - (dkN Z2 48)) + (100 : Int32))], (cm n Z2 v LD2 SH2 o cd pl ka kb kc, D, E))) rfl trivial ?_
  exact z_Ev_iretE rfl rfl (by rfl) (by rfl)
theorem bs_skip_0 {xs : Nat → Int32} {L : Nat} {o_ : z_Rs} {M' : Mem} {kk : Nat} (few least best : Int32) (n t : Nat → Int32) (v : Nat → Nat → Int32) (ld sh o cd pl ka kb kc : Nat → Int32) (D : Nat → Nat → Int32) (E : Nat → Int64) (hp : ¬ n 16 = 0) (K : z_Ev xs L m_X4_bestStart (39, [some (aR 0 16), some (aI few), some (aI least), some (aI best), some (aI (1 : Int32)), none, none, none], [], (cm n t v ld sh o cd pl ka kb kc, D, E)) o_ M' kk) : z_Ev xs L m_X4_bestStart (39, [some (aR 0 16), some (aI few), some (aI least), some (aI best), some (aI (0 : Int32)), none, none, none], [], (cm n t v ld sh o cd pl ka kb kc, D, E)) o_ M' kk := by
  refine z_Ev_blk 3 (c' := ((if (4 : Int32) ≤ (0 : Int32) then 171 else 45), [some (aR 0 16), some (aI few), some (aI least), some (aI best), some (aI (0 : Int32)), none, none, none], [], (cm n t v ld sh o cd pl ka kb kc, D, E))) rfl trivial ?_
  refine z_Ev_else (by decide) ?_
  refine z_Ev_blk 7 (c' := ((if (n 16) = 0 then 64 else 61), [some (aR 0 16), some (aI few), some (aI least), some (aI best), some (aI (0 : Int32)), none, none, none], [], (cm n t v ld sh o cd pl ka kb kc, D, E))) rfl ⟨rfl, trivial⟩ ?_
  refine z_Ev_else (hp) ?_
  refine z_Ev_blk 3 (c' := (39, [some (aR 0 16), some (aI few), some (aI least), some (aI best), some (aI (1 : Int32)), none, none, none], [], (cm n t v ld sh o cd pl ka kb kc, D, E))) rfl trivial ?_
  refine z_Ev_fgt [true, true, true, true, true, false, false, false] ?_
  exact z_Ev_eq (c := (39, [some (aR 0 16), some (aI few), some (aI least), some (aI best), some (aI (1 : Int32)), none, none, none], [], (cm n t v ld sh o cd pl ka kb kc, D, E))) (c' := (39, [some (aR 0 16), some (aI few), some (aI least), some (aI best), some (aI (1 : Int32)), none, none, none], [], (cm n t v ld sh o cd pl ka kb kc, D, E))) (by first | rfl | simp []) K
theorem bs_do_0 {xs : Nat → Int32} {L : Nat} {o_ : z_Rs} {M' : Mem} {kk : Nat} (few least best d u : Int32) (H : Nat) (Z LD SH : Nat → Int32) (n t : Nat → Int32) (v : Nat → Nat → Int32) (ld sh o cd pl ka kb kc : Nat → Int32) (D : Nat → Nat → Int32) (E : Nat → Int64) (hp : n 16 = 0) (hV : Vs (upd (upd n 20 (n 12)) 16 (if n 12 = 0 then 2 else 1)) H) (hb5 : z_isB (n 36) = true) (hb6 : z_isB (n 37) = true) (hY : cTI (48 - H) (upd (upd n 20 (n 12)) 16 (if n 12 = 0 then 2 else 1), ld, sh) = (Z, LD, SH)) (hZ : Z 34 = nI 48) (hd : dkN Z 48 = d) (hu : fulF Z = u) (K : z_Ev xs L m_X4_bestStart (39, [some (aR 0 16), some (aI (if d < few ∨ (¬ best = -1 ∧ d = few ∧ u < least) then d else few)), some (aI (if d < few ∨ (¬ best = -1 ∧ d = few ∧ u < least) then u else least)), some (aI (if d < few ∨ (¬ best = -1 ∧ d = few ∧ u < least) then 0 else best)), some (aI (1 : Int32)), none, none, none], [], (cm n Z v LD SH o cd pl ka kb kc, D, E)) o_ M' kk) : z_Ev xs L m_X4_bestStart (39, [some (aR 0 16), some (aI few), some (aI least), some (aI best), some (aI (0 : Int32)), none, none, none], [], (cm n t v ld sh o cd pl ka kb kc, D, E)) o_ M' kk := by
  refine z_Ev_blk 3 (c' := ((if (4 : Int32) ≤ (0 : Int32) then 171 else 45), [some (aR 0 16), some (aI few), some (aI least), some (aI best), some (aI (0 : Int32)), none, none, none], [], (cm n t v ld sh o cd pl ka kb kc, D, E))) rfl trivial ?_
  refine z_Ev_else (by decide) ?_
  refine z_Ev_blk 7 (c' := ((if (n 16) = 0 then 64 else 61), [some (aR 0 16), some (aI few), some (aI least), some (aI best), some (aI (0 : Int32)), none, none, none], [], (cm n t v ld sh o cd pl ka kb kc, D, E))) rfl ⟨rfl, trivial⟩ ?_
  refine z_Ev_if (hp) ?_
  refine z_Ev_blk 4 (c' := (72, [some (aR 0 16), some (aI few), some (aI least), some (aI best), some (aI (0 : Int32)), none, none, none], [aR 0 0, aR 1 0], (cm n t v ld sh o cd pl ka kb kc, D, E))) rfl trivial ?_
  refine z_Ev_call0 (m' := m_X1_copyFrom) (as := [aR 1 0, aR 0 0]) (r := []) (c_copy_tn n t v ld sh o cd pl ka kb kc D E hb5 hb6) rfl rfl ?_
  refine z_Ev_blk 4 (c' := (84, [some (aR 0 16), some (aI few), some (aI least), some (aI best), some (aI (0 : Int32)), none, none, none], [aI (0 : Int32), aR 1 1], (cm n n v ld sh o cd pl ka kb kc, D, E))) rfl trivial ?_
  refine z_Ev_call0 (m' := m_X0_begin) (as := [aR 1 1, aI (0 : Int32)]) (r := []) (c_begin_1_0 n n v ld sh o cd pl ka kb kc D E) rfl rfl ?_
  refine z_Ev_blk 5 (c' := (97, [some (aR 0 16), some (aI few), some (aI least), some (aI best), some (aI (0 : Int32)), none, none, none], [aR 0 23, aI (48 : Int32), aR 1 0], (cm n (upd (upd n 20 (n 12)) 16 (if n 12 = 0 then 2 else 1)) v ld sh o cd pl ka kb kc, D, E))) rfl trivial ?_
  refine z_Ev_call0 (m' := m_X1_letHoursGoBy) (as := [aR 1 0, aI (48 : Int32), aR 0 23]) (r := []) ((by have q := c_hours_1 (xs := xs) (L := L) n (upd (upd n 20 (n 12)) 16 (if n 12 = 0 then 2 else 1)) v ld sh o cd pl ka kb kc D E 48 H (by decide) hV; rw [show min (48 - 0) (48 - H) = 48 - H by omega, hY] at q; exact q)) rfl rfl ?_
  refine z_Ev_blk 2 (c' := (104, [some (aR 0 16), some (aI few), some (aI least), some (aI best), some (aI (0 : Int32)), none, none, none], [aR 1 0], (cm n Z v LD SH o cd pl ka kb kc, D, E))) rfl trivial ?_
  refine z_Ev_call0 (m' := m_X1_darkHours) (as := [aR 1 0]) (r := []) ((by have q := c_darkHours_1 (xs := xs) (L := L) n Z v LD SH o cd pl ka kb kc D E 48 hZ (by decide); rw [hd] at q; exact q)) rfl rfl ?_
  refine z_Ev_blk 4 (c' := (116, [some (aR 0 16), some (aI few), some (aI least), some (aI best), some (aI (0 : Int32)), some (aI d), none, none], [aR 1 1], (cm n Z v LD SH o cd pl ka kb kc, D, E))) rfl trivial ?_
  refine z_Ev_call0 (m' := m_X0_fuelSoFar) (as := [aR 1 1]) (r := []) ((by have q := c_fuelSoFar_1 (xs := xs) (L := L) n Z v LD SH o cd pl ka kb kc D E; rw [hu] at q; exact q)) rfl rfl ?_
  refine z_Ev_blk 4 (c' := ((if best = (-1 : Int32) then 142 else 126), [some (aR 0 16), some (aI few), some (aI least), some (aI best), some (aI (0 : Int32)), some (aI d), some (aI u), none], [], (cm n Z v LD SH o cd pl ka kb kc, D, E))) rfl trivial ?_
  refine z_Ev_ite (fun h1 => ?_) (fun h1 => ?_)
  · skip
    refine z_Ev_blk 5 (c' := ((if d < few then 156 else 151), [some (aR 0 16), some (aI few), some (aI least), some (aI best), some (aI (0 : Int32)), some (aI d), some (aI u), some (aI (0 : Int32))], [], (cm n Z v LD SH o cd pl ka kb kc, D, E))) rfl trivial ?_
    refine z_Ev_ite (fun h2 => ?_) (fun h2 => ?_)
    · skip
      refine z_Ev_blk 8 (c' := (39, [some (aR 0 16), some (aI d), some (aI u), some (aI (0 : Int32)), some (aI (1 : Int32)), some (aI d), some (aI u), some (aI (0 : Int32))], [], (cm n Z v LD SH o cd pl ka kb kc, D, E))) rfl trivial ?_
      refine z_Ev_fgt [true, true, true, true, true, false, false, false] ?_
      exact z_Ev_eq (c := (39, [some (aR 0 16), some (aI d), some (aI u), some (aI (0 : Int32)), some (aI (1 : Int32)), none, none, none], [], (cm n Z v LD SH o cd pl ka kb kc, D, E))) (c' := (39, [some (aR 0 16), some (aI (if d < few ∨ (¬ best = -1 ∧ d = few ∧ u < least) then d else few)), some (aI (if d < few ∨ (¬ best = -1 ∧ d = few ∧ u < least) then u else least)), some (aI (if d < few ∨ (¬ best = -1 ∧ d = few ∧ u < least) then 0 else best)), some (aI (1 : Int32)), none, none, none], [], (cm n Z v LD SH o cd pl ka kb kc, D, E))) (by (try simp only [← Int32.not_le] at *); first | (simp [*]; done) | (exfalso; subst h3; exact h5 (Int32.le_refl _))) K
    · skip
      refine z_Ev_blk 2 (c' := ((if (0 : Int32) = 0 then 165 else 156), [some (aR 0 16), some (aI few), some (aI least), some (aI best), some (aI (0 : Int32)), some (aI d), some (aI u), some (aI (0 : Int32))], [], (cm n Z v LD SH o cd pl ka kb kc, D, E))) rfl trivial ?_
      refine z_Ev_if (by decide) ?_
      refine z_Ev_blk 2 (c' := (39, [some (aR 0 16), some (aI few), some (aI least), some (aI best), some (aI (1 : Int32)), some (aI d), some (aI u), some (aI (0 : Int32))], [], (cm n Z v LD SH o cd pl ka kb kc, D, E))) rfl trivial ?_
      refine z_Ev_fgt [true, true, true, true, true, false, false, false] ?_
      exact z_Ev_eq (c := (39, [some (aR 0 16), some (aI few), some (aI least), some (aI best), some (aI (1 : Int32)), none, none, none], [], (cm n Z v LD SH o cd pl ka kb kc, D, E))) (c' := (39, [some (aR 0 16), some (aI (if d < few ∨ (¬ best = -1 ∧ d = few ∧ u < least) then d else few)), some (aI (if d < few ∨ (¬ best = -1 ∧ d = few ∧ u < least) then u else least)), some (aI (if d < few ∨ (¬ best = -1 ∧ d = few ∧ u < least) then 0 else best)), some (aI (1 : Int32)), none, none, none], [], (cm n Z v LD SH o cd pl ka kb kc, D, E))) (by (try simp only [← Int32.not_le] at *); first | (simp [*]; done) | (exfalso; subst h3; exact h5 (Int32.le_refl _))) K
  · skip
    refine z_Ev_blk 3 (c' := ((if d = few then 132 else 142), [some (aR 0 16), some (aI few), some (aI least), some (aI best), some (aI (0 : Int32)), some (aI d), some (aI u), none], [], (cm n Z v LD SH o cd pl ka kb kc, D, E))) rfl trivial ?_
    refine z_Ev_ite (fun h3 => ?_) (fun h3 => ?_)
    · skip
      refine z_Ev_blk 3 (c' := ((if least ≤ u then 142 else 138), [some (aR 0 16), some (aI few), some (aI least), some (aI best), some (aI (0 : Int32)), some (aI d), some (aI u), none], [], (cm n Z v LD SH o cd pl ka kb kc, D, E))) rfl trivial ?_
      refine z_Ev_ite (fun h4 => ?_) (fun h4 => ?_)
      · skip
        refine z_Ev_blk 5 (c' := ((if d < few then 156 else 151), [some (aR 0 16), some (aI few), some (aI least), some (aI best), some (aI (0 : Int32)), some (aI d), some (aI u), some (aI (0 : Int32))], [], (cm n Z v LD SH o cd pl ka kb kc, D, E))) rfl trivial ?_
        refine z_Ev_ite (fun h5 => ?_) (fun h5 => ?_)
        · skip
          refine z_Ev_blk 8 (c' := (39, [some (aR 0 16), some (aI d), some (aI u), some (aI (0 : Int32)), some (aI (1 : Int32)), some (aI d), some (aI u), some (aI (0 : Int32))], [], (cm n Z v LD SH o cd pl ka kb kc, D, E))) rfl trivial ?_
          refine z_Ev_fgt [true, true, true, true, true, false, false, false] ?_
          exact z_Ev_eq (c := (39, [some (aR 0 16), some (aI d), some (aI u), some (aI (0 : Int32)), some (aI (1 : Int32)), none, none, none], [], (cm n Z v LD SH o cd pl ka kb kc, D, E))) (c' := (39, [some (aR 0 16), some (aI (if d < few ∨ (¬ best = -1 ∧ d = few ∧ u < least) then d else few)), some (aI (if d < few ∨ (¬ best = -1 ∧ d = few ∧ u < least) then u else least)), some (aI (if d < few ∨ (¬ best = -1 ∧ d = few ∧ u < least) then 0 else best)), some (aI (1 : Int32)), none, none, none], [], (cm n Z v LD SH o cd pl ka kb kc, D, E))) (by (try simp only [← Int32.not_le] at *); first | (simp [*]; done) | (exfalso; subst h3; exact h5 (Int32.le_refl _))) K
        · skip
          refine z_Ev_blk 2 (c' := ((if (0 : Int32) = 0 then 165 else 156), [some (aR 0 16), some (aI few), some (aI least), some (aI best), some (aI (0 : Int32)), some (aI d), some (aI u), some (aI (0 : Int32))], [], (cm n Z v LD SH o cd pl ka kb kc, D, E))) rfl trivial ?_
          refine z_Ev_if (by decide) ?_
          refine z_Ev_blk 2 (c' := (39, [some (aR 0 16), some (aI few), some (aI least), some (aI best), some (aI (1 : Int32)), some (aI d), some (aI u), some (aI (0 : Int32))], [], (cm n Z v LD SH o cd pl ka kb kc, D, E))) rfl trivial ?_
          refine z_Ev_fgt [true, true, true, true, true, false, false, false] ?_
          exact z_Ev_eq (c := (39, [some (aR 0 16), some (aI few), some (aI least), some (aI best), some (aI (1 : Int32)), none, none, none], [], (cm n Z v LD SH o cd pl ka kb kc, D, E))) (c' := (39, [some (aR 0 16), some (aI (if d < few ∨ (¬ best = -1 ∧ d = few ∧ u < least) then d else few)), some (aI (if d < few ∨ (¬ best = -1 ∧ d = few ∧ u < least) then u else least)), some (aI (if d < few ∨ (¬ best = -1 ∧ d = few ∧ u < least) then 0 else best)), some (aI (1 : Int32)), none, none, none], [], (cm n Z v LD SH o cd pl ka kb kc, D, E))) (by (try simp only [← Int32.not_le] at *); first | (simp [*]; done) | (exfalso; subst h3; exact h5 (Int32.le_refl _))) K
      · skip
        refine z_Ev_blk 6 (c' := ((if d < few then 156 else 151), [some (aR 0 16), some (aI few), some (aI least), some (aI best), some (aI (0 : Int32)), some (aI d), some (aI u), some (aI (1 : Int32))], [], (cm n Z v LD SH o cd pl ka kb kc, D, E))) rfl trivial ?_
        refine z_Ev_ite (fun h6 => ?_) (fun h6 => ?_)
        · skip
          refine z_Ev_blk 8 (c' := (39, [some (aR 0 16), some (aI d), some (aI u), some (aI (0 : Int32)), some (aI (1 : Int32)), some (aI d), some (aI u), some (aI (1 : Int32))], [], (cm n Z v LD SH o cd pl ka kb kc, D, E))) rfl trivial ?_
          refine z_Ev_fgt [true, true, true, true, true, false, false, false] ?_
          exact z_Ev_eq (c := (39, [some (aR 0 16), some (aI d), some (aI u), some (aI (0 : Int32)), some (aI (1 : Int32)), none, none, none], [], (cm n Z v LD SH o cd pl ka kb kc, D, E))) (c' := (39, [some (aR 0 16), some (aI (if d < few ∨ (¬ best = -1 ∧ d = few ∧ u < least) then d else few)), some (aI (if d < few ∨ (¬ best = -1 ∧ d = few ∧ u < least) then u else least)), some (aI (if d < few ∨ (¬ best = -1 ∧ d = few ∧ u < least) then 0 else best)), some (aI (1 : Int32)), none, none, none], [], (cm n Z v LD SH o cd pl ka kb kc, D, E))) (by (try simp only [← Int32.not_le] at *); first | (simp [*]; done) | (exfalso; subst h3; exact h5 (Int32.le_refl _))) K
        · skip
          refine z_Ev_blk 2 (c' := ((if (1 : Int32) = 0 then 165 else 156), [some (aR 0 16), some (aI few), some (aI least), some (aI best), some (aI (0 : Int32)), some (aI d), some (aI u), some (aI (1 : Int32))], [], (cm n Z v LD SH o cd pl ka kb kc, D, E))) rfl trivial ?_
          refine z_Ev_else (by decide) ?_
          refine z_Ev_blk 8 (c' := (39, [some (aR 0 16), some (aI d), some (aI u), some (aI (0 : Int32)), some (aI (1 : Int32)), some (aI d), some (aI u), some (aI (1 : Int32))], [], (cm n Z v LD SH o cd pl ka kb kc, D, E))) rfl trivial ?_
          refine z_Ev_fgt [true, true, true, true, true, false, false, false] ?_
          exact z_Ev_eq (c := (39, [some (aR 0 16), some (aI d), some (aI u), some (aI (0 : Int32)), some (aI (1 : Int32)), none, none, none], [], (cm n Z v LD SH o cd pl ka kb kc, D, E))) (c' := (39, [some (aR 0 16), some (aI (if d < few ∨ (¬ best = -1 ∧ d = few ∧ u < least) then d else few)), some (aI (if d < few ∨ (¬ best = -1 ∧ d = few ∧ u < least) then u else least)), some (aI (if d < few ∨ (¬ best = -1 ∧ d = few ∧ u < least) then 0 else best)), some (aI (1 : Int32)), none, none, none], [], (cm n Z v LD SH o cd pl ka kb kc, D, E))) (by (try simp only [← Int32.not_le] at *); first | (simp [*]; done) | (exfalso; subst h3; exact h5 (Int32.le_refl _))) K
    · skip
      refine z_Ev_blk 5 (c' := ((if d < few then 156 else 151), [some (aR 0 16), some (aI few), some (aI least), some (aI best), some (aI (0 : Int32)), some (aI d), some (aI u), some (aI (0 : Int32))], [], (cm n Z v LD SH o cd pl ka kb kc, D, E))) rfl trivial ?_
      refine z_Ev_ite (fun h7 => ?_) (fun h7 => ?_)
      · skip
        refine z_Ev_blk 8 (c' := (39, [some (aR 0 16), some (aI d), some (aI u), some (aI (0 : Int32)), some (aI (1 : Int32)), some (aI d), some (aI u), some (aI (0 : Int32))], [], (cm n Z v LD SH o cd pl ka kb kc, D, E))) rfl trivial ?_
        refine z_Ev_fgt [true, true, true, true, true, false, false, false] ?_
        exact z_Ev_eq (c := (39, [some (aR 0 16), some (aI d), some (aI u), some (aI (0 : Int32)), some (aI (1 : Int32)), none, none, none], [], (cm n Z v LD SH o cd pl ka kb kc, D, E))) (c' := (39, [some (aR 0 16), some (aI (if d < few ∨ (¬ best = -1 ∧ d = few ∧ u < least) then d else few)), some (aI (if d < few ∨ (¬ best = -1 ∧ d = few ∧ u < least) then u else least)), some (aI (if d < few ∨ (¬ best = -1 ∧ d = few ∧ u < least) then 0 else best)), some (aI (1 : Int32)), none, none, none], [], (cm n Z v LD SH o cd pl ka kb kc, D, E))) (by (try simp only [← Int32.not_le] at *); first | (simp [*]; done) | (exfalso; subst h3; exact h5 (Int32.le_refl _))) K
      · skip
        refine z_Ev_blk 2 (c' := ((if (0 : Int32) = 0 then 165 else 156), [some (aR 0 16), some (aI few), some (aI least), some (aI best), some (aI (0 : Int32)), some (aI d), some (aI u), some (aI (0 : Int32))], [], (cm n Z v LD SH o cd pl ka kb kc, D, E))) rfl trivial ?_
        refine z_Ev_if (by decide) ?_
        refine z_Ev_blk 2 (c' := (39, [some (aR 0 16), some (aI few), some (aI least), some (aI best), some (aI (1 : Int32)), some (aI d), some (aI u), some (aI (0 : Int32))], [], (cm n Z v LD SH o cd pl ka kb kc, D, E))) rfl trivial ?_
        refine z_Ev_fgt [true, true, true, true, true, false, false, false] ?_
        exact z_Ev_eq (c := (39, [some (aR 0 16), some (aI few), some (aI least), some (aI best), some (aI (1 : Int32)), none, none, none], [], (cm n Z v LD SH o cd pl ka kb kc, D, E))) (c' := (39, [some (aR 0 16), some (aI (if d < few ∨ (¬ best = -1 ∧ d = few ∧ u < least) then d else few)), some (aI (if d < few ∨ (¬ best = -1 ∧ d = few ∧ u < least) then u else least)), some (aI (if d < few ∨ (¬ best = -1 ∧ d = few ∧ u < least) then 0 else best)), some (aI (1 : Int32)), none, none, none], [], (cm n Z v LD SH o cd pl ka kb kc, D, E))) (by (try simp only [← Int32.not_le] at *); first | (simp [*]; done) | (exfalso; subst h3; exact h5 (Int32.le_refl _))) K
theorem bs_skip_1 {xs : Nat → Int32} {L : Nat} {o_ : z_Rs} {M' : Mem} {kk : Nat} (few least best : Int32) (n t : Nat → Int32) (v : Nat → Nat → Int32) (ld sh o cd pl ka kb kc : Nat → Int32) (D : Nat → Nat → Int32) (E : Nat → Int64) (hp : ¬ n 17 = 0) (K : z_Ev xs L m_X4_bestStart (39, [some (aR 0 16), some (aI few), some (aI least), some (aI best), some (aI (2 : Int32)), none, none, none], [], (cm n t v ld sh o cd pl ka kb kc, D, E)) o_ M' kk) : z_Ev xs L m_X4_bestStart (39, [some (aR 0 16), some (aI few), some (aI least), some (aI best), some (aI (1 : Int32)), none, none, none], [], (cm n t v ld sh o cd pl ka kb kc, D, E)) o_ M' kk := by
  refine z_Ev_blk 3 (c' := ((if (4 : Int32) ≤ (1 : Int32) then 171 else 45), [some (aR 0 16), some (aI few), some (aI least), some (aI best), some (aI (1 : Int32)), none, none, none], [], (cm n t v ld sh o cd pl ka kb kc, D, E))) rfl trivial ?_
  refine z_Ev_else (by decide) ?_
  refine z_Ev_blk 7 (c' := ((if (n 17) = 0 then 64 else 61), [some (aR 0 16), some (aI few), some (aI least), some (aI best), some (aI (1 : Int32)), none, none, none], [], (cm n t v ld sh o cd pl ka kb kc, D, E))) rfl ⟨rfl, trivial⟩ ?_
  refine z_Ev_else (hp) ?_
  refine z_Ev_blk 3 (c' := (39, [some (aR 0 16), some (aI few), some (aI least), some (aI best), some (aI (2 : Int32)), none, none, none], [], (cm n t v ld sh o cd pl ka kb kc, D, E))) rfl trivial ?_
  refine z_Ev_fgt [true, true, true, true, true, false, false, false] ?_
  exact z_Ev_eq (c := (39, [some (aR 0 16), some (aI few), some (aI least), some (aI best), some (aI (2 : Int32)), none, none, none], [], (cm n t v ld sh o cd pl ka kb kc, D, E))) (c' := (39, [some (aR 0 16), some (aI few), some (aI least), some (aI best), some (aI (2 : Int32)), none, none, none], [], (cm n t v ld sh o cd pl ka kb kc, D, E))) (by first | rfl | simp []) K
theorem bs_do_1 {xs : Nat → Int32} {L : Nat} {o_ : z_Rs} {M' : Mem} {kk : Nat} (few least best d u : Int32) (H : Nat) (Z LD SH : Nat → Int32) (n t : Nat → Int32) (v : Nat → Nat → Int32) (ld sh o cd pl ka kb kc : Nat → Int32) (D : Nat → Nat → Int32) (E : Nat → Int64) (hp : n 17 = 0) (hV : Vs (upd (upd n 21 (n 13)) 17 (if n 13 = 0 then 2 else 1)) H) (hb5 : z_isB (n 36) = true) (hb6 : z_isB (n 37) = true) (hY : cTI (48 - H) (upd (upd n 21 (n 13)) 17 (if n 13 = 0 then 2 else 1), ld, sh) = (Z, LD, SH)) (hZ : Z 34 = nI 48) (hd : dkN Z 48 = d) (hu : fulF Z = u) (K : z_Ev xs L m_X4_bestStart (39, [some (aR 0 16), some (aI (if d < few ∨ (¬ best = -1 ∧ d = few ∧ u < least) then d else few)), some (aI (if d < few ∨ (¬ best = -1 ∧ d = few ∧ u < least) then u else least)), some (aI (if d < few ∨ (¬ best = -1 ∧ d = few ∧ u < least) then 1 else best)), some (aI (2 : Int32)), none, none, none], [], (cm n Z v LD SH o cd pl ka kb kc, D, E)) o_ M' kk) : z_Ev xs L m_X4_bestStart (39, [some (aR 0 16), some (aI few), some (aI least), some (aI best), some (aI (1 : Int32)), none, none, none], [], (cm n t v ld sh o cd pl ka kb kc, D, E)) o_ M' kk := by
  refine z_Ev_blk 3 (c' := ((if (4 : Int32) ≤ (1 : Int32) then 171 else 45), [some (aR 0 16), some (aI few), some (aI least), some (aI best), some (aI (1 : Int32)), none, none, none], [], (cm n t v ld sh o cd pl ka kb kc, D, E))) rfl trivial ?_
  refine z_Ev_else (by decide) ?_
  refine z_Ev_blk 7 (c' := ((if (n 17) = 0 then 64 else 61), [some (aR 0 16), some (aI few), some (aI least), some (aI best), some (aI (1 : Int32)), none, none, none], [], (cm n t v ld sh o cd pl ka kb kc, D, E))) rfl ⟨rfl, trivial⟩ ?_
  refine z_Ev_if (hp) ?_
  refine z_Ev_blk 4 (c' := (72, [some (aR 0 16), some (aI few), some (aI least), some (aI best), some (aI (1 : Int32)), none, none, none], [aR 0 0, aR 1 0], (cm n t v ld sh o cd pl ka kb kc, D, E))) rfl trivial ?_
  refine z_Ev_call0 (m' := m_X1_copyFrom) (as := [aR 1 0, aR 0 0]) (r := []) (c_copy_tn n t v ld sh o cd pl ka kb kc D E hb5 hb6) rfl rfl ?_
  refine z_Ev_blk 4 (c' := (84, [some (aR 0 16), some (aI few), some (aI least), some (aI best), some (aI (1 : Int32)), none, none, none], [aI (1 : Int32), aR 1 1], (cm n n v ld sh o cd pl ka kb kc, D, E))) rfl trivial ?_
  refine z_Ev_call0 (m' := m_X0_begin) (as := [aR 1 1, aI (1 : Int32)]) (r := []) (c_begin_1_1 n n v ld sh o cd pl ka kb kc D E) rfl rfl ?_
  refine z_Ev_blk 5 (c' := (97, [some (aR 0 16), some (aI few), some (aI least), some (aI best), some (aI (1 : Int32)), none, none, none], [aR 0 23, aI (48 : Int32), aR 1 0], (cm n (upd (upd n 21 (n 13)) 17 (if n 13 = 0 then 2 else 1)) v ld sh o cd pl ka kb kc, D, E))) rfl trivial ?_
  refine z_Ev_call0 (m' := m_X1_letHoursGoBy) (as := [aR 1 0, aI (48 : Int32), aR 0 23]) (r := []) ((by have q := c_hours_1 (xs := xs) (L := L) n (upd (upd n 21 (n 13)) 17 (if n 13 = 0 then 2 else 1)) v ld sh o cd pl ka kb kc D E 48 H (by decide) hV; rw [show min (48 - 0) (48 - H) = 48 - H by omega, hY] at q; exact q)) rfl rfl ?_
  refine z_Ev_blk 2 (c' := (104, [some (aR 0 16), some (aI few), some (aI least), some (aI best), some (aI (1 : Int32)), none, none, none], [aR 1 0], (cm n Z v LD SH o cd pl ka kb kc, D, E))) rfl trivial ?_
  refine z_Ev_call0 (m' := m_X1_darkHours) (as := [aR 1 0]) (r := []) ((by have q := c_darkHours_1 (xs := xs) (L := L) n Z v LD SH o cd pl ka kb kc D E 48 hZ (by decide); rw [hd] at q; exact q)) rfl rfl ?_
  refine z_Ev_blk 4 (c' := (116, [some (aR 0 16), some (aI few), some (aI least), some (aI best), some (aI (1 : Int32)), some (aI d), none, none], [aR 1 1], (cm n Z v LD SH o cd pl ka kb kc, D, E))) rfl trivial ?_
  refine z_Ev_call0 (m' := m_X0_fuelSoFar) (as := [aR 1 1]) (r := []) ((by have q := c_fuelSoFar_1 (xs := xs) (L := L) n Z v LD SH o cd pl ka kb kc D E; rw [hu] at q; exact q)) rfl rfl ?_
  refine z_Ev_blk 4 (c' := ((if best = (-1 : Int32) then 142 else 126), [some (aR 0 16), some (aI few), some (aI least), some (aI best), some (aI (1 : Int32)), some (aI d), some (aI u), none], [], (cm n Z v LD SH o cd pl ka kb kc, D, E))) rfl trivial ?_
  refine z_Ev_ite (fun h1 => ?_) (fun h1 => ?_)
  · skip
    refine z_Ev_blk 5 (c' := ((if d < few then 156 else 151), [some (aR 0 16), some (aI few), some (aI least), some (aI best), some (aI (1 : Int32)), some (aI d), some (aI u), some (aI (0 : Int32))], [], (cm n Z v LD SH o cd pl ka kb kc, D, E))) rfl trivial ?_
    refine z_Ev_ite (fun h2 => ?_) (fun h2 => ?_)
    · skip
      refine z_Ev_blk 8 (c' := (39, [some (aR 0 16), some (aI d), some (aI u), some (aI (1 : Int32)), some (aI (2 : Int32)), some (aI d), some (aI u), some (aI (0 : Int32))], [], (cm n Z v LD SH o cd pl ka kb kc, D, E))) rfl trivial ?_
      refine z_Ev_fgt [true, true, true, true, true, false, false, false] ?_
      exact z_Ev_eq (c := (39, [some (aR 0 16), some (aI d), some (aI u), some (aI (1 : Int32)), some (aI (2 : Int32)), none, none, none], [], (cm n Z v LD SH o cd pl ka kb kc, D, E))) (c' := (39, [some (aR 0 16), some (aI (if d < few ∨ (¬ best = -1 ∧ d = few ∧ u < least) then d else few)), some (aI (if d < few ∨ (¬ best = -1 ∧ d = few ∧ u < least) then u else least)), some (aI (if d < few ∨ (¬ best = -1 ∧ d = few ∧ u < least) then 1 else best)), some (aI (2 : Int32)), none, none, none], [], (cm n Z v LD SH o cd pl ka kb kc, D, E))) (by (try simp only [← Int32.not_le] at *); first | (simp [*]; done) | (exfalso; subst h3; exact h5 (Int32.le_refl _))) K
    · skip
      refine z_Ev_blk 2 (c' := ((if (0 : Int32) = 0 then 165 else 156), [some (aR 0 16), some (aI few), some (aI least), some (aI best), some (aI (1 : Int32)), some (aI d), some (aI u), some (aI (0 : Int32))], [], (cm n Z v LD SH o cd pl ka kb kc, D, E))) rfl trivial ?_
      refine z_Ev_if (by decide) ?_
      refine z_Ev_blk 2 (c' := (39, [some (aR 0 16), some (aI few), some (aI least), some (aI best), some (aI (2 : Int32)), some (aI d), some (aI u), some (aI (0 : Int32))], [], (cm n Z v LD SH o cd pl ka kb kc, D, E))) rfl trivial ?_
      refine z_Ev_fgt [true, true, true, true, true, false, false, false] ?_
      exact z_Ev_eq (c := (39, [some (aR 0 16), some (aI few), some (aI least), some (aI best), some (aI (2 : Int32)), none, none, none], [], (cm n Z v LD SH o cd pl ka kb kc, D, E))) (c' := (39, [some (aR 0 16), some (aI (if d < few ∨ (¬ best = -1 ∧ d = few ∧ u < least) then d else few)), some (aI (if d < few ∨ (¬ best = -1 ∧ d = few ∧ u < least) then u else least)), some (aI (if d < few ∨ (¬ best = -1 ∧ d = few ∧ u < least) then 1 else best)), some (aI (2 : Int32)), none, none, none], [], (cm n Z v LD SH o cd pl ka kb kc, D, E))) (by (try simp only [← Int32.not_le] at *); first | (simp [*]; done) | (exfalso; subst h3; exact h5 (Int32.le_refl _))) K
  · skip
    refine z_Ev_blk 3 (c' := ((if d = few then 132 else 142), [some (aR 0 16), some (aI few), some (aI least), some (aI best), some (aI (1 : Int32)), some (aI d), some (aI u), none], [], (cm n Z v LD SH o cd pl ka kb kc, D, E))) rfl trivial ?_
    refine z_Ev_ite (fun h3 => ?_) (fun h3 => ?_)
    · skip
      refine z_Ev_blk 3 (c' := ((if least ≤ u then 142 else 138), [some (aR 0 16), some (aI few), some (aI least), some (aI best), some (aI (1 : Int32)), some (aI d), some (aI u), none], [], (cm n Z v LD SH o cd pl ka kb kc, D, E))) rfl trivial ?_
      refine z_Ev_ite (fun h4 => ?_) (fun h4 => ?_)
      · skip
        refine z_Ev_blk 5 (c' := ((if d < few then 156 else 151), [some (aR 0 16), some (aI few), some (aI least), some (aI best), some (aI (1 : Int32)), some (aI d), some (aI u), some (aI (0 : Int32))], [], (cm n Z v LD SH o cd pl ka kb kc, D, E))) rfl trivial ?_
        refine z_Ev_ite (fun h5 => ?_) (fun h5 => ?_)
        · skip
          refine z_Ev_blk 8 (c' := (39, [some (aR 0 16), some (aI d), some (aI u), some (aI (1 : Int32)), some (aI (2 : Int32)), some (aI d), some (aI u), some (aI (0 : Int32))], [], (cm n Z v LD SH o cd pl ka kb kc, D, E))) rfl trivial ?_
          refine z_Ev_fgt [true, true, true, true, true, false, false, false] ?_
          exact z_Ev_eq (c := (39, [some (aR 0 16), some (aI d), some (aI u), some (aI (1 : Int32)), some (aI (2 : Int32)), none, none, none], [], (cm n Z v LD SH o cd pl ka kb kc, D, E))) (c' := (39, [some (aR 0 16), some (aI (if d < few ∨ (¬ best = -1 ∧ d = few ∧ u < least) then d else few)), some (aI (if d < few ∨ (¬ best = -1 ∧ d = few ∧ u < least) then u else least)), some (aI (if d < few ∨ (¬ best = -1 ∧ d = few ∧ u < least) then 1 else best)), some (aI (2 : Int32)), none, none, none], [], (cm n Z v LD SH o cd pl ka kb kc, D, E))) (by (try simp only [← Int32.not_le] at *); first | (simp [*]; done) | (exfalso; subst h3; exact h5 (Int32.le_refl _))) K
        · skip
          refine z_Ev_blk 2 (c' := ((if (0 : Int32) = 0 then 165 else 156), [some (aR 0 16), some (aI few), some (aI least), some (aI best), some (aI (1 : Int32)), some (aI d), some (aI u), some (aI (0 : Int32))], [], (cm n Z v LD SH o cd pl ka kb kc, D, E))) rfl trivial ?_
          refine z_Ev_if (by decide) ?_
          refine z_Ev_blk 2 (c' := (39, [some (aR 0 16), some (aI few), some (aI least), some (aI best), some (aI (2 : Int32)), some (aI d), some (aI u), some (aI (0 : Int32))], [], (cm n Z v LD SH o cd pl ka kb kc, D, E))) rfl trivial ?_
          refine z_Ev_fgt [true, true, true, true, true, false, false, false] ?_
          exact z_Ev_eq (c := (39, [some (aR 0 16), some (aI few), some (aI least), some (aI best), some (aI (2 : Int32)), none, none, none], [], (cm n Z v LD SH o cd pl ka kb kc, D, E))) (c' := (39, [some (aR 0 16), some (aI (if d < few ∨ (¬ best = -1 ∧ d = few ∧ u < least) then d else few)), some (aI (if d < few ∨ (¬ best = -1 ∧ d = few ∧ u < least) then u else least)), some (aI (if d < few ∨ (¬ best = -1 ∧ d = few ∧ u < least) then 1 else best)), some (aI (2 : Int32)), none, none, none], [], (cm n Z v LD SH o cd pl ka kb kc, D, E))) (by (try simp only [← Int32.not_le] at *); first | (simp [*]; done) | (exfalso; subst h3; exact h5 (Int32.le_refl _))) K
      · skip
        refine z_Ev_blk 6 (c' := ((if d < few then 156 else 151), [some (aR 0 16), some (aI few), some (aI least), some (aI best), some (aI (1 : Int32)), some (aI d), some (aI u), some (aI (1 : Int32))], [], (cm n Z v LD SH o cd pl ka kb kc, D, E))) rfl trivial ?_
        refine z_Ev_ite (fun h6 => ?_) (fun h6 => ?_)
        · skip
          refine z_Ev_blk 8 (c' := (39, [some (aR 0 16), some (aI d), some (aI u), some (aI (1 : Int32)), some (aI (2 : Int32)), some (aI d), some (aI u), some (aI (1 : Int32))], [], (cm n Z v LD SH o cd pl ka kb kc, D, E))) rfl trivial ?_
          refine z_Ev_fgt [true, true, true, true, true, false, false, false] ?_
          exact z_Ev_eq (c := (39, [some (aR 0 16), some (aI d), some (aI u), some (aI (1 : Int32)), some (aI (2 : Int32)), none, none, none], [], (cm n Z v LD SH o cd pl ka kb kc, D, E))) (c' := (39, [some (aR 0 16), some (aI (if d < few ∨ (¬ best = -1 ∧ d = few ∧ u < least) then d else few)), some (aI (if d < few ∨ (¬ best = -1 ∧ d = few ∧ u < least) then u else least)), some (aI (if d < few ∨ (¬ best = -1 ∧ d = few ∧ u < least) then 1 else best)), some (aI (2 : Int32)), none, none, none], [], (cm n Z v LD SH o cd pl ka kb kc, D, E))) (by (try simp only [← Int32.not_le] at *); first | (simp [*]; done) | (exfalso; subst h3; exact h5 (Int32.le_refl _))) K
        · skip
          refine z_Ev_blk 2 (c' := ((if (1 : Int32) = 0 then 165 else 156), [some (aR 0 16), some (aI few), some (aI least), some (aI best), some (aI (1 : Int32)), some (aI d), some (aI u), some (aI (1 : Int32))], [], (cm n Z v LD SH o cd pl ka kb kc, D, E))) rfl trivial ?_
          refine z_Ev_else (by decide) ?_
          refine z_Ev_blk 8 (c' := (39, [some (aR 0 16), some (aI d), some (aI u), some (aI (1 : Int32)), some (aI (2 : Int32)), some (aI d), some (aI u), some (aI (1 : Int32))], [], (cm n Z v LD SH o cd pl ka kb kc, D, E))) rfl trivial ?_
          refine z_Ev_fgt [true, true, true, true, true, false, false, false] ?_
          exact z_Ev_eq (c := (39, [some (aR 0 16), some (aI d), some (aI u), some (aI (1 : Int32)), some (aI (2 : Int32)), none, none, none], [], (cm n Z v LD SH o cd pl ka kb kc, D, E))) (c' := (39, [some (aR 0 16), some (aI (if d < few ∨ (¬ best = -1 ∧ d = few ∧ u < least) then d else few)), some (aI (if d < few ∨ (¬ best = -1 ∧ d = few ∧ u < least) then u else least)), some (aI (if d < few ∨ (¬ best = -1 ∧ d = few ∧ u < least) then 1 else best)), some (aI (2 : Int32)), none, none, none], [], (cm n Z v LD SH o cd pl ka kb kc, D, E))) (by (try simp only [← Int32.not_le] at *); first | (simp [*]; done) | (exfalso; subst h3; exact h5 (Int32.le_refl _))) K
    · skip
      refine z_Ev_blk 5 (c' := ((if d < few then 156 else 151), [some (aR 0 16), some (aI few), some (aI least), some (aI best), some (aI (1 : Int32)), some (aI d), some (aI u), some (aI (0 : Int32))], [], (cm n Z v LD SH o cd pl ka kb kc, D, E))) rfl trivial ?_
      refine z_Ev_ite (fun h7 => ?_) (fun h7 => ?_)
      · skip
        refine z_Ev_blk 8 (c' := (39, [some (aR 0 16), some (aI d), some (aI u), some (aI (1 : Int32)), some (aI (2 : Int32)), some (aI d), some (aI u), some (aI (0 : Int32))], [], (cm n Z v LD SH o cd pl ka kb kc, D, E))) rfl trivial ?_
        refine z_Ev_fgt [true, true, true, true, true, false, false, false] ?_
        exact z_Ev_eq (c := (39, [some (aR 0 16), some (aI d), some (aI u), some (aI (1 : Int32)), some (aI (2 : Int32)), none, none, none], [], (cm n Z v LD SH o cd pl ka kb kc, D, E))) (c' := (39, [some (aR 0 16), some (aI (if d < few ∨ (¬ best = -1 ∧ d = few ∧ u < least) then d else few)), some (aI (if d < few ∨ (¬ best = -1 ∧ d = few ∧ u < least) then u else least)), some (aI (if d < few ∨ (¬ best = -1 ∧ d = few ∧ u < least) then 1 else best)), some (aI (2 : Int32)), none, none, none], [], (cm n Z v LD SH o cd pl ka kb kc, D, E))) (by (try simp only [← Int32.not_le] at *); first | (simp [*]; done) | (exfalso; subst h3; exact h5 (Int32.le_refl _))) K
      · skip
        refine z_Ev_blk 2 (c' := ((if (0 : Int32) = 0 then 165 else 156), [some (aR 0 16), some (aI few), some (aI least), some (aI best), some (aI (1 : Int32)), some (aI d), some (aI u), some (aI (0 : Int32))], [], (cm n Z v LD SH o cd pl ka kb kc, D, E))) rfl trivial ?_
        refine z_Ev_if (by decide) ?_
        refine z_Ev_blk 2 (c' := (39, [some (aR 0 16), some (aI few), some (aI least), some (aI best), some (aI (2 : Int32)), some (aI d), some (aI u), some (aI (0 : Int32))], [], (cm n Z v LD SH o cd pl ka kb kc, D, E))) rfl trivial ?_
        refine z_Ev_fgt [true, true, true, true, true, false, false, false] ?_
        exact z_Ev_eq (c := (39, [some (aR 0 16), some (aI few), some (aI least), some (aI best), some (aI (2 : Int32)), none, none, none], [], (cm n Z v LD SH o cd pl ka kb kc, D, E))) (c' := (39, [some (aR 0 16), some (aI (if d < few ∨ (¬ best = -1 ∧ d = few ∧ u < least) then d else few)), some (aI (if d < few ∨ (¬ best = -1 ∧ d = few ∧ u < least) then u else least)), some (aI (if d < few ∨ (¬ best = -1 ∧ d = few ∧ u < least) then 1 else best)), some (aI (2 : Int32)), none, none, none], [], (cm n Z v LD SH o cd pl ka kb kc, D, E))) (by (try simp only [← Int32.not_le] at *); first | (simp [*]; done) | (exfalso; subst h3; exact h5 (Int32.le_refl _))) K
theorem bs_skip_2 {xs : Nat → Int32} {L : Nat} {o_ : z_Rs} {M' : Mem} {kk : Nat} (few least best : Int32) (n t : Nat → Int32) (v : Nat → Nat → Int32) (ld sh o cd pl ka kb kc : Nat → Int32) (D : Nat → Nat → Int32) (E : Nat → Int64) (hp : ¬ n 18 = 0) (K : z_Ev xs L m_X4_bestStart (39, [some (aR 0 16), some (aI few), some (aI least), some (aI best), some (aI (3 : Int32)), none, none, none], [], (cm n t v ld sh o cd pl ka kb kc, D, E)) o_ M' kk) : z_Ev xs L m_X4_bestStart (39, [some (aR 0 16), some (aI few), some (aI least), some (aI best), some (aI (2 : Int32)), none, none, none], [], (cm n t v ld sh o cd pl ka kb kc, D, E)) o_ M' kk := by
  refine z_Ev_blk 3 (c' := ((if (4 : Int32) ≤ (2 : Int32) then 171 else 45), [some (aR 0 16), some (aI few), some (aI least), some (aI best), some (aI (2 : Int32)), none, none, none], [], (cm n t v ld sh o cd pl ka kb kc, D, E))) rfl trivial ?_
  refine z_Ev_else (by decide) ?_
  refine z_Ev_blk 7 (c' := ((if (n 18) = 0 then 64 else 61), [some (aR 0 16), some (aI few), some (aI least), some (aI best), some (aI (2 : Int32)), none, none, none], [], (cm n t v ld sh o cd pl ka kb kc, D, E))) rfl ⟨rfl, trivial⟩ ?_
  refine z_Ev_else (hp) ?_
  refine z_Ev_blk 3 (c' := (39, [some (aR 0 16), some (aI few), some (aI least), some (aI best), some (aI (3 : Int32)), none, none, none], [], (cm n t v ld sh o cd pl ka kb kc, D, E))) rfl trivial ?_
  refine z_Ev_fgt [true, true, true, true, true, false, false, false] ?_
  exact z_Ev_eq (c := (39, [some (aR 0 16), some (aI few), some (aI least), some (aI best), some (aI (3 : Int32)), none, none, none], [], (cm n t v ld sh o cd pl ka kb kc, D, E))) (c' := (39, [some (aR 0 16), some (aI few), some (aI least), some (aI best), some (aI (3 : Int32)), none, none, none], [], (cm n t v ld sh o cd pl ka kb kc, D, E))) (by first | rfl | simp []) K
theorem bs_do_2 {xs : Nat → Int32} {L : Nat} {o_ : z_Rs} {M' : Mem} {kk : Nat} (few least best d u : Int32) (H : Nat) (Z LD SH : Nat → Int32) (n t : Nat → Int32) (v : Nat → Nat → Int32) (ld sh o cd pl ka kb kc : Nat → Int32) (D : Nat → Nat → Int32) (E : Nat → Int64) (hp : n 18 = 0) (hV : Vs (upd (upd n 22 (n 14)) 18 (if n 14 = 0 then 2 else 1)) H) (hb5 : z_isB (n 36) = true) (hb6 : z_isB (n 37) = true) (hY : cTI (48 - H) (upd (upd n 22 (n 14)) 18 (if n 14 = 0 then 2 else 1), ld, sh) = (Z, LD, SH)) (hZ : Z 34 = nI 48) (hd : dkN Z 48 = d) (hu : fulF Z = u) (K : z_Ev xs L m_X4_bestStart (39, [some (aR 0 16), some (aI (if d < few ∨ (¬ best = -1 ∧ d = few ∧ u < least) then d else few)), some (aI (if d < few ∨ (¬ best = -1 ∧ d = few ∧ u < least) then u else least)), some (aI (if d < few ∨ (¬ best = -1 ∧ d = few ∧ u < least) then 2 else best)), some (aI (3 : Int32)), none, none, none], [], (cm n Z v LD SH o cd pl ka kb kc, D, E)) o_ M' kk) : z_Ev xs L m_X4_bestStart (39, [some (aR 0 16), some (aI few), some (aI least), some (aI best), some (aI (2 : Int32)), none, none, none], [], (cm n t v ld sh o cd pl ka kb kc, D, E)) o_ M' kk := by
  refine z_Ev_blk 3 (c' := ((if (4 : Int32) ≤ (2 : Int32) then 171 else 45), [some (aR 0 16), some (aI few), some (aI least), some (aI best), some (aI (2 : Int32)), none, none, none], [], (cm n t v ld sh o cd pl ka kb kc, D, E))) rfl trivial ?_
  refine z_Ev_else (by decide) ?_
  refine z_Ev_blk 7 (c' := ((if (n 18) = 0 then 64 else 61), [some (aR 0 16), some (aI few), some (aI least), some (aI best), some (aI (2 : Int32)), none, none, none], [], (cm n t v ld sh o cd pl ka kb kc, D, E))) rfl ⟨rfl, trivial⟩ ?_
  refine z_Ev_if (hp) ?_
  refine z_Ev_blk 4 (c' := (72, [some (aR 0 16), some (aI few), some (aI least), some (aI best), some (aI (2 : Int32)), none, none, none], [aR 0 0, aR 1 0], (cm n t v ld sh o cd pl ka kb kc, D, E))) rfl trivial ?_
  refine z_Ev_call0 (m' := m_X1_copyFrom) (as := [aR 1 0, aR 0 0]) (r := []) (c_copy_tn n t v ld sh o cd pl ka kb kc D E hb5 hb6) rfl rfl ?_
  refine z_Ev_blk 4 (c' := (84, [some (aR 0 16), some (aI few), some (aI least), some (aI best), some (aI (2 : Int32)), none, none, none], [aI (2 : Int32), aR 1 1], (cm n n v ld sh o cd pl ka kb kc, D, E))) rfl trivial ?_
  refine z_Ev_call0 (m' := m_X0_begin) (as := [aR 1 1, aI (2 : Int32)]) (r := []) (c_begin_1_2 n n v ld sh o cd pl ka kb kc D E) rfl rfl ?_
  refine z_Ev_blk 5 (c' := (97, [some (aR 0 16), some (aI few), some (aI least), some (aI best), some (aI (2 : Int32)), none, none, none], [aR 0 23, aI (48 : Int32), aR 1 0], (cm n (upd (upd n 22 (n 14)) 18 (if n 14 = 0 then 2 else 1)) v ld sh o cd pl ka kb kc, D, E))) rfl trivial ?_
  refine z_Ev_call0 (m' := m_X1_letHoursGoBy) (as := [aR 1 0, aI (48 : Int32), aR 0 23]) (r := []) ((by have q := c_hours_1 (xs := xs) (L := L) n (upd (upd n 22 (n 14)) 18 (if n 14 = 0 then 2 else 1)) v ld sh o cd pl ka kb kc D E 48 H (by decide) hV; rw [show min (48 - 0) (48 - H) = 48 - H by omega, hY] at q; exact q)) rfl rfl ?_
  refine z_Ev_blk 2 (c' := (104, [some (aR 0 16), some (aI few), some (aI least), some (aI best), some (aI (2 : Int32)), none, none, none], [aR 1 0], (cm n Z v LD SH o cd pl ka kb kc, D, E))) rfl trivial ?_
  refine z_Ev_call0 (m' := m_X1_darkHours) (as := [aR 1 0]) (r := []) ((by have q := c_darkHours_1 (xs := xs) (L := L) n Z v LD SH o cd pl ka kb kc D E 48 hZ (by decide); rw [hd] at q; exact q)) rfl rfl ?_
  refine z_Ev_blk 4 (c' := (116, [some (aR 0 16), some (aI few), some (aI least), some (aI best), some (aI (2 : Int32)), some (aI d), none, none], [aR 1 1], (cm n Z v LD SH o cd pl ka kb kc, D, E))) rfl trivial ?_
  refine z_Ev_call0 (m' := m_X0_fuelSoFar) (as := [aR 1 1]) (r := []) ((by have q := c_fuelSoFar_1 (xs := xs) (L := L) n Z v LD SH o cd pl ka kb kc D E; rw [hu] at q; exact q)) rfl rfl ?_
  refine z_Ev_blk 4 (c' := ((if best = (-1 : Int32) then 142 else 126), [some (aR 0 16), some (aI few), some (aI least), some (aI best), some (aI (2 : Int32)), some (aI d), some (aI u), none], [], (cm n Z v LD SH o cd pl ka kb kc, D, E))) rfl trivial ?_
  refine z_Ev_ite (fun h1 => ?_) (fun h1 => ?_)
  · skip
    refine z_Ev_blk 5 (c' := ((if d < few then 156 else 151), [some (aR 0 16), some (aI few), some (aI least), some (aI best), some (aI (2 : Int32)), some (aI d), some (aI u), some (aI (0 : Int32))], [], (cm n Z v LD SH o cd pl ka kb kc, D, E))) rfl trivial ?_
    refine z_Ev_ite (fun h2 => ?_) (fun h2 => ?_)
    · skip
      refine z_Ev_blk 8 (c' := (39, [some (aR 0 16), some (aI d), some (aI u), some (aI (2 : Int32)), some (aI (3 : Int32)), some (aI d), some (aI u), some (aI (0 : Int32))], [], (cm n Z v LD SH o cd pl ka kb kc, D, E))) rfl trivial ?_
      refine z_Ev_fgt [true, true, true, true, true, false, false, false] ?_
      exact z_Ev_eq (c := (39, [some (aR 0 16), some (aI d), some (aI u), some (aI (2 : Int32)), some (aI (3 : Int32)), none, none, none], [], (cm n Z v LD SH o cd pl ka kb kc, D, E))) (c' := (39, [some (aR 0 16), some (aI (if d < few ∨ (¬ best = -1 ∧ d = few ∧ u < least) then d else few)), some (aI (if d < few ∨ (¬ best = -1 ∧ d = few ∧ u < least) then u else least)), some (aI (if d < few ∨ (¬ best = -1 ∧ d = few ∧ u < least) then 2 else best)), some (aI (3 : Int32)), none, none, none], [], (cm n Z v LD SH o cd pl ka kb kc, D, E))) (by (try simp only [← Int32.not_le] at *); first | (simp [*]; done) | (exfalso; subst h3; exact h5 (Int32.le_refl _))) K
    · skip
      refine z_Ev_blk 2 (c' := ((if (0 : Int32) = 0 then 165 else 156), [some (aR 0 16), some (aI few), some (aI least), some (aI best), some (aI (2 : Int32)), some (aI d), some (aI u), some (aI (0 : Int32))], [], (cm n Z v LD SH o cd pl ka kb kc, D, E))) rfl trivial ?_
      refine z_Ev_if (by decide) ?_
      refine z_Ev_blk 2 (c' := (39, [some (aR 0 16), some (aI few), some (aI least), some (aI best), some (aI (3 : Int32)), some (aI d), some (aI u), some (aI (0 : Int32))], [], (cm n Z v LD SH o cd pl ka kb kc, D, E))) rfl trivial ?_
      refine z_Ev_fgt [true, true, true, true, true, false, false, false] ?_
      exact z_Ev_eq (c := (39, [some (aR 0 16), some (aI few), some (aI least), some (aI best), some (aI (3 : Int32)), none, none, none], [], (cm n Z v LD SH o cd pl ka kb kc, D, E))) (c' := (39, [some (aR 0 16), some (aI (if d < few ∨ (¬ best = -1 ∧ d = few ∧ u < least) then d else few)), some (aI (if d < few ∨ (¬ best = -1 ∧ d = few ∧ u < least) then u else least)), some (aI (if d < few ∨ (¬ best = -1 ∧ d = few ∧ u < least) then 2 else best)), some (aI (3 : Int32)), none, none, none], [], (cm n Z v LD SH o cd pl ka kb kc, D, E))) (by (try simp only [← Int32.not_le] at *); first | (simp [*]; done) | (exfalso; subst h3; exact h5 (Int32.le_refl _))) K
  · skip
    refine z_Ev_blk 3 (c' := ((if d = few then 132 else 142), [some (aR 0 16), some (aI few), some (aI least), some (aI best), some (aI (2 : Int32)), some (aI d), some (aI u), none], [], (cm n Z v LD SH o cd pl ka kb kc, D, E))) rfl trivial ?_
    refine z_Ev_ite (fun h3 => ?_) (fun h3 => ?_)
    · skip
      refine z_Ev_blk 3 (c' := ((if least ≤ u then 142 else 138), [some (aR 0 16), some (aI few), some (aI least), some (aI best), some (aI (2 : Int32)), some (aI d), some (aI u), none], [], (cm n Z v LD SH o cd pl ka kb kc, D, E))) rfl trivial ?_
      refine z_Ev_ite (fun h4 => ?_) (fun h4 => ?_)
      · skip
        refine z_Ev_blk 5 (c' := ((if d < few then 156 else 151), [some (aR 0 16), some (aI few), some (aI least), some (aI best), some (aI (2 : Int32)), some (aI d), some (aI u), some (aI (0 : Int32))], [], (cm n Z v LD SH o cd pl ka kb kc, D, E))) rfl trivial ?_
        refine z_Ev_ite (fun h5 => ?_) (fun h5 => ?_)
        · skip
          refine z_Ev_blk 8 (c' := (39, [some (aR 0 16), some (aI d), some (aI u), some (aI (2 : Int32)), some (aI (3 : Int32)), some (aI d), some (aI u), some (aI (0 : Int32))], [], (cm n Z v LD SH o cd pl ka kb kc, D, E))) rfl trivial ?_
          refine z_Ev_fgt [true, true, true, true, true, false, false, false] ?_
          exact z_Ev_eq (c := (39, [some (aR 0 16), some (aI d), some (aI u), some (aI (2 : Int32)), some (aI (3 : Int32)), none, none, none], [], (cm n Z v LD SH o cd pl ka kb kc, D, E))) (c' := (39, [some (aR 0 16), some (aI (if d < few ∨ (¬ best = -1 ∧ d = few ∧ u < least) then d else few)), some (aI (if d < few ∨ (¬ best = -1 ∧ d = few ∧ u < least) then u else least)), some (aI (if d < few ∨ (¬ best = -1 ∧ d = few ∧ u < least) then 2 else best)), some (aI (3 : Int32)), none, none, none], [], (cm n Z v LD SH o cd pl ka kb kc, D, E))) (by (try simp only [← Int32.not_le] at *); first | (simp [*]; done) | (exfalso; subst h3; exact h5 (Int32.le_refl _))) K
        · skip
          refine z_Ev_blk 2 (c' := ((if (0 : Int32) = 0 then 165 else 156), [some (aR 0 16), some (aI few), some (aI least), some (aI best), some (aI (2 : Int32)), some (aI d), some (aI u), some (aI (0 : Int32))], [], (cm n Z v LD SH o cd pl ka kb kc, D, E))) rfl trivial ?_
          refine z_Ev_if (by decide) ?_
          refine z_Ev_blk 2 (c' := (39, [some (aR 0 16), some (aI few), some (aI least), some (aI best), some (aI (3 : Int32)), some (aI d), some (aI u), some (aI (0 : Int32))], [], (cm n Z v LD SH o cd pl ka kb kc, D, E))) rfl trivial ?_
          refine z_Ev_fgt [true, true, true, true, true, false, false, false] ?_
          exact z_Ev_eq (c := (39, [some (aR 0 16), some (aI few), some (aI least), some (aI best), some (aI (3 : Int32)), none, none, none], [], (cm n Z v LD SH o cd pl ka kb kc, D, E))) (c' := (39, [some (aR 0 16), some (aI (if d < few ∨ (¬ best = -1 ∧ d = few ∧ u < least) then d else few)), some (aI (if d < few ∨ (¬ best = -1 ∧ d = few ∧ u < least) then u else least)), some (aI (if d < few ∨ (¬ best = -1 ∧ d = few ∧ u < least) then 2 else best)), some (aI (3 : Int32)), none, none, none], [], (cm n Z v LD SH o cd pl ka kb kc, D, E))) (by (try simp only [← Int32.not_le] at *); first | (simp [*]; done) | (exfalso; subst h3; exact h5 (Int32.le_refl _))) K
      · skip
        refine z_Ev_blk 6 (c' := ((if d < few then 156 else 151), [some (aR 0 16), some (aI few), some (aI least), some (aI best), some (aI (2 : Int32)), some (aI d), some (aI u), some (aI (1 : Int32))], [], (cm n Z v LD SH o cd pl ka kb kc, D, E))) rfl trivial ?_
        refine z_Ev_ite (fun h6 => ?_) (fun h6 => ?_)
        · skip
          refine z_Ev_blk 8 (c' := (39, [some (aR 0 16), some (aI d), some (aI u), some (aI (2 : Int32)), some (aI (3 : Int32)), some (aI d), some (aI u), some (aI (1 : Int32))], [], (cm n Z v LD SH o cd pl ka kb kc, D, E))) rfl trivial ?_
          refine z_Ev_fgt [true, true, true, true, true, false, false, false] ?_
          exact z_Ev_eq (c := (39, [some (aR 0 16), some (aI d), some (aI u), some (aI (2 : Int32)), some (aI (3 : Int32)), none, none, none], [], (cm n Z v LD SH o cd pl ka kb kc, D, E))) (c' := (39, [some (aR 0 16), some (aI (if d < few ∨ (¬ best = -1 ∧ d = few ∧ u < least) then d else few)), some (aI (if d < few ∨ (¬ best = -1 ∧ d = few ∧ u < least) then u else least)), some (aI (if d < few ∨ (¬ best = -1 ∧ d = few ∧ u < least) then 2 else best)), some (aI (3 : Int32)), none, none, none], [], (cm n Z v LD SH o cd pl ka kb kc, D, E))) (by (try simp only [← Int32.not_le] at *); first | (simp [*]; done) | (exfalso; subst h3; exact h5 (Int32.le_refl _))) K
        · skip
          refine z_Ev_blk 2 (c' := ((if (1 : Int32) = 0 then 165 else 156), [some (aR 0 16), some (aI few), some (aI least), some (aI best), some (aI (2 : Int32)), some (aI d), some (aI u), some (aI (1 : Int32))], [], (cm n Z v LD SH o cd pl ka kb kc, D, E))) rfl trivial ?_
          refine z_Ev_else (by decide) ?_
          refine z_Ev_blk 8 (c' := (39, [some (aR 0 16), some (aI d), some (aI u), some (aI (2 : Int32)), some (aI (3 : Int32)), some (aI d), some (aI u), some (aI (1 : Int32))], [], (cm n Z v LD SH o cd pl ka kb kc, D, E))) rfl trivial ?_
          refine z_Ev_fgt [true, true, true, true, true, false, false, false] ?_
          exact z_Ev_eq (c := (39, [some (aR 0 16), some (aI d), some (aI u), some (aI (2 : Int32)), some (aI (3 : Int32)), none, none, none], [], (cm n Z v LD SH o cd pl ka kb kc, D, E))) (c' := (39, [some (aR 0 16), some (aI (if d < few ∨ (¬ best = -1 ∧ d = few ∧ u < least) then d else few)), some (aI (if d < few ∨ (¬ best = -1 ∧ d = few ∧ u < least) then u else least)), some (aI (if d < few ∨ (¬ best = -1 ∧ d = few ∧ u < least) then 2 else best)), some (aI (3 : Int32)), none, none, none], [], (cm n Z v LD SH o cd pl ka kb kc, D, E))) (by (try simp only [← Int32.not_le] at *); first | (simp [*]; done) | (exfalso; subst h3; exact h5 (Int32.le_refl _))) K
    · skip
      refine z_Ev_blk 5 (c' := ((if d < few then 156 else 151), [some (aR 0 16), some (aI few), some (aI least), some (aI best), some (aI (2 : Int32)), some (aI d), some (aI u), some (aI (0 : Int32))], [], (cm n Z v LD SH o cd pl ka kb kc, D, E))) rfl trivial ?_
      refine z_Ev_ite (fun h7 => ?_) (fun h7 => ?_)
      · skip
        refine z_Ev_blk 8 (c' := (39, [some (aR 0 16), some (aI d), some (aI u), some (aI (2 : Int32)), some (aI (3 : Int32)), some (aI d), some (aI u), some (aI (0 : Int32))], [], (cm n Z v LD SH o cd pl ka kb kc, D, E))) rfl trivial ?_
        refine z_Ev_fgt [true, true, true, true, true, false, false, false] ?_
        exact z_Ev_eq (c := (39, [some (aR 0 16), some (aI d), some (aI u), some (aI (2 : Int32)), some (aI (3 : Int32)), none, none, none], [], (cm n Z v LD SH o cd pl ka kb kc, D, E))) (c' := (39, [some (aR 0 16), some (aI (if d < few ∨ (¬ best = -1 ∧ d = few ∧ u < least) then d else few)), some (aI (if d < few ∨ (¬ best = -1 ∧ d = few ∧ u < least) then u else least)), some (aI (if d < few ∨ (¬ best = -1 ∧ d = few ∧ u < least) then 2 else best)), some (aI (3 : Int32)), none, none, none], [], (cm n Z v LD SH o cd pl ka kb kc, D, E))) (by (try simp only [← Int32.not_le] at *); first | (simp [*]; done) | (exfalso; subst h3; exact h5 (Int32.le_refl _))) K
      · skip
        refine z_Ev_blk 2 (c' := ((if (0 : Int32) = 0 then 165 else 156), [some (aR 0 16), some (aI few), some (aI least), some (aI best), some (aI (2 : Int32)), some (aI d), some (aI u), some (aI (0 : Int32))], [], (cm n Z v LD SH o cd pl ka kb kc, D, E))) rfl trivial ?_
        refine z_Ev_if (by decide) ?_
        refine z_Ev_blk 2 (c' := (39, [some (aR 0 16), some (aI few), some (aI least), some (aI best), some (aI (3 : Int32)), some (aI d), some (aI u), some (aI (0 : Int32))], [], (cm n Z v LD SH o cd pl ka kb kc, D, E))) rfl trivial ?_
        refine z_Ev_fgt [true, true, true, true, true, false, false, false] ?_
        exact z_Ev_eq (c := (39, [some (aR 0 16), some (aI few), some (aI least), some (aI best), some (aI (3 : Int32)), none, none, none], [], (cm n Z v LD SH o cd pl ka kb kc, D, E))) (c' := (39, [some (aR 0 16), some (aI (if d < few ∨ (¬ best = -1 ∧ d = few ∧ u < least) then d else few)), some (aI (if d < few ∨ (¬ best = -1 ∧ d = few ∧ u < least) then u else least)), some (aI (if d < few ∨ (¬ best = -1 ∧ d = few ∧ u < least) then 2 else best)), some (aI (3 : Int32)), none, none, none], [], (cm n Z v LD SH o cd pl ka kb kc, D, E))) (by (try simp only [← Int32.not_le] at *); first | (simp [*]; done) | (exfalso; subst h3; exact h5 (Int32.le_refl _))) K
theorem bs_skip_3 {xs : Nat → Int32} {L : Nat} {o_ : z_Rs} {M' : Mem} {kk : Nat} (few least best : Int32) (n t : Nat → Int32) (v : Nat → Nat → Int32) (ld sh o cd pl ka kb kc : Nat → Int32) (D : Nat → Nat → Int32) (E : Nat → Int64) (hp : ¬ n 19 = 0) (K : z_Ev xs L m_X4_bestStart (39, [some (aR 0 16), some (aI few), some (aI least), some (aI best), some (aI (4 : Int32)), none, none, none], [], (cm n t v ld sh o cd pl ka kb kc, D, E)) o_ M' kk) : z_Ev xs L m_X4_bestStart (39, [some (aR 0 16), some (aI few), some (aI least), some (aI best), some (aI (3 : Int32)), none, none, none], [], (cm n t v ld sh o cd pl ka kb kc, D, E)) o_ M' kk := by
  refine z_Ev_blk 3 (c' := ((if (4 : Int32) ≤ (3 : Int32) then 171 else 45), [some (aR 0 16), some (aI few), some (aI least), some (aI best), some (aI (3 : Int32)), none, none, none], [], (cm n t v ld sh o cd pl ka kb kc, D, E))) rfl trivial ?_
  refine z_Ev_else (by decide) ?_
  refine z_Ev_blk 7 (c' := ((if (n 19) = 0 then 64 else 61), [some (aR 0 16), some (aI few), some (aI least), some (aI best), some (aI (3 : Int32)), none, none, none], [], (cm n t v ld sh o cd pl ka kb kc, D, E))) rfl ⟨rfl, trivial⟩ ?_
  refine z_Ev_else (hp) ?_
  refine z_Ev_blk 3 (c' := (39, [some (aR 0 16), some (aI few), some (aI least), some (aI best), some (aI (4 : Int32)), none, none, none], [], (cm n t v ld sh o cd pl ka kb kc, D, E))) rfl trivial ?_
  refine z_Ev_fgt [true, true, true, true, true, false, false, false] ?_
  exact z_Ev_eq (c := (39, [some (aR 0 16), some (aI few), some (aI least), some (aI best), some (aI (4 : Int32)), none, none, none], [], (cm n t v ld sh o cd pl ka kb kc, D, E))) (c' := (39, [some (aR 0 16), some (aI few), some (aI least), some (aI best), some (aI (4 : Int32)), none, none, none], [], (cm n t v ld sh o cd pl ka kb kc, D, E))) (by first | rfl | simp []) K
theorem bs_do_3 {xs : Nat → Int32} {L : Nat} {o_ : z_Rs} {M' : Mem} {kk : Nat} (few least best d u : Int32) (H : Nat) (Z LD SH : Nat → Int32) (n t : Nat → Int32) (v : Nat → Nat → Int32) (ld sh o cd pl ka kb kc : Nat → Int32) (D : Nat → Nat → Int32) (E : Nat → Int64) (hp : n 19 = 0) (hV : Vs (upd (upd n 23 (n 15)) 19 (if n 15 = 0 then 2 else 1)) H) (hb5 : z_isB (n 36) = true) (hb6 : z_isB (n 37) = true) (hY : cTI (48 - H) (upd (upd n 23 (n 15)) 19 (if n 15 = 0 then 2 else 1), ld, sh) = (Z, LD, SH)) (hZ : Z 34 = nI 48) (hd : dkN Z 48 = d) (hu : fulF Z = u) (K : z_Ev xs L m_X4_bestStart (39, [some (aR 0 16), some (aI (if d < few ∨ (¬ best = -1 ∧ d = few ∧ u < least) then d else few)), some (aI (if d < few ∨ (¬ best = -1 ∧ d = few ∧ u < least) then u else least)), some (aI (if d < few ∨ (¬ best = -1 ∧ d = few ∧ u < least) then 3 else best)), some (aI (4 : Int32)), none, none, none], [], (cm n Z v LD SH o cd pl ka kb kc, D, E)) o_ M' kk) : z_Ev xs L m_X4_bestStart (39, [some (aR 0 16), some (aI few), some (aI least), some (aI best), some (aI (3 : Int32)), none, none, none], [], (cm n t v ld sh o cd pl ka kb kc, D, E)) o_ M' kk := by
  refine z_Ev_blk 3 (c' := ((if (4 : Int32) ≤ (3 : Int32) then 171 else 45), [some (aR 0 16), some (aI few), some (aI least), some (aI best), some (aI (3 : Int32)), none, none, none], [], (cm n t v ld sh o cd pl ka kb kc, D, E))) rfl trivial ?_
  refine z_Ev_else (by decide) ?_
  refine z_Ev_blk 7 (c' := ((if (n 19) = 0 then 64 else 61), [some (aR 0 16), some (aI few), some (aI least), some (aI best), some (aI (3 : Int32)), none, none, none], [], (cm n t v ld sh o cd pl ka kb kc, D, E))) rfl ⟨rfl, trivial⟩ ?_
  refine z_Ev_if (hp) ?_
  refine z_Ev_blk 4 (c' := (72, [some (aR 0 16), some (aI few), some (aI least), some (aI best), some (aI (3 : Int32)), none, none, none], [aR 0 0, aR 1 0], (cm n t v ld sh o cd pl ka kb kc, D, E))) rfl trivial ?_
  refine z_Ev_call0 (m' := m_X1_copyFrom) (as := [aR 1 0, aR 0 0]) (r := []) (c_copy_tn n t v ld sh o cd pl ka kb kc D E hb5 hb6) rfl rfl ?_
  refine z_Ev_blk 4 (c' := (84, [some (aR 0 16), some (aI few), some (aI least), some (aI best), some (aI (3 : Int32)), none, none, none], [aI (3 : Int32), aR 1 1], (cm n n v ld sh o cd pl ka kb kc, D, E))) rfl trivial ?_
  refine z_Ev_call0 (m' := m_X0_begin) (as := [aR 1 1, aI (3 : Int32)]) (r := []) (c_begin_1_3 n n v ld sh o cd pl ka kb kc D E) rfl rfl ?_
  refine z_Ev_blk 5 (c' := (97, [some (aR 0 16), some (aI few), some (aI least), some (aI best), some (aI (3 : Int32)), none, none, none], [aR 0 23, aI (48 : Int32), aR 1 0], (cm n (upd (upd n 23 (n 15)) 19 (if n 15 = 0 then 2 else 1)) v ld sh o cd pl ka kb kc, D, E))) rfl trivial ?_
  refine z_Ev_call0 (m' := m_X1_letHoursGoBy) (as := [aR 1 0, aI (48 : Int32), aR 0 23]) (r := []) ((by have q := c_hours_1 (xs := xs) (L := L) n (upd (upd n 23 (n 15)) 19 (if n 15 = 0 then 2 else 1)) v ld sh o cd pl ka kb kc D E 48 H (by decide) hV; rw [show min (48 - 0) (48 - H) = 48 - H by omega, hY] at q; exact q)) rfl rfl ?_
  refine z_Ev_blk 2 (c' := (104, [some (aR 0 16), some (aI few), some (aI least), some (aI best), some (aI (3 : Int32)), none, none, none], [aR 1 0], (cm n Z v LD SH o cd pl ka kb kc, D, E))) rfl trivial ?_
  refine z_Ev_call0 (m' := m_X1_darkHours) (as := [aR 1 0]) (r := []) ((by have q := c_darkHours_1 (xs := xs) (L := L) n Z v LD SH o cd pl ka kb kc D E 48 hZ (by decide); rw [hd] at q; exact q)) rfl rfl ?_
  refine z_Ev_blk 4 (c' := (116, [some (aR 0 16), some (aI few), some (aI least), some (aI best), some (aI (3 : Int32)), some (aI d), none, none], [aR 1 1], (cm n Z v LD SH o cd pl ka kb kc, D, E))) rfl trivial ?_
  refine z_Ev_call0 (m' := m_X0_fuelSoFar) (as := [aR 1 1]) (r := []) ((by have q := c_fuelSoFar_1 (xs := xs) (L := L) n Z v LD SH o cd pl ka kb kc D E; rw [hu] at q; exact q)) rfl rfl ?_
  refine z_Ev_blk 4 (c' := ((if best = (-1 : Int32) then 142 else 126), [some (aR 0 16), some (aI few), some (aI least), some (aI best), some (aI (3 : Int32)), some (aI d), some (aI u), none], [], (cm n Z v LD SH o cd pl ka kb kc, D, E))) rfl trivial ?_
  refine z_Ev_ite (fun h1 => ?_) (fun h1 => ?_)
  · skip
    refine z_Ev_blk 5 (c' := ((if d < few then 156 else 151), [some (aR 0 16), some (aI few), some (aI least), some (aI best), some (aI (3 : Int32)), some (aI d), some (aI u), some (aI (0 : Int32))], [], (cm n Z v LD SH o cd pl ka kb kc, D, E))) rfl trivial ?_
    refine z_Ev_ite (fun h2 => ?_) (fun h2 => ?_)
    · skip
      refine z_Ev_blk 8 (c' := (39, [some (aR 0 16), some (aI d), some (aI u), some (aI (3 : Int32)), some (aI (4 : Int32)), some (aI d), some (aI u), some (aI (0 : Int32))], [], (cm n Z v LD SH o cd pl ka kb kc, D, E))) rfl trivial ?_
      refine z_Ev_fgt [true, true, true, true, true, false, false, false] ?_
      exact z_Ev_eq (c := (39, [some (aR 0 16), some (aI d), some (aI u), some (aI (3 : Int32)), some (aI (4 : Int32)), none, none, none], [], (cm n Z v LD SH o cd pl ka kb kc, D, E))) (c' := (39, [some (aR 0 16), some (aI (if d < few ∨ (¬ best = -1 ∧ d = few ∧ u < least) then d else few)), some (aI (if d < few ∨ (¬ best = -1 ∧ d = few ∧ u < least) then u else least)), some (aI (if d < few ∨ (¬ best = -1 ∧ d = few ∧ u < least) then 3 else best)), some (aI (4 : Int32)), none, none, none], [], (cm n Z v LD SH o cd pl ka kb kc, D, E))) (by (try simp only [← Int32.not_le] at *); first | (simp [*]; done) | (exfalso; subst h3; exact h5 (Int32.le_refl _))) K
    · skip
      refine z_Ev_blk 2 (c' := ((if (0 : Int32) = 0 then 165 else 156), [some (aR 0 16), some (aI few), some (aI least), some (aI best), some (aI (3 : Int32)), some (aI d), some (aI u), some (aI (0 : Int32))], [], (cm n Z v LD SH o cd pl ka kb kc, D, E))) rfl trivial ?_
      refine z_Ev_if (by decide) ?_
      refine z_Ev_blk 2 (c' := (39, [some (aR 0 16), some (aI few), some (aI least), some (aI best), some (aI (4 : Int32)), some (aI d), some (aI u), some (aI (0 : Int32))], [], (cm n Z v LD SH o cd pl ka kb kc, D, E))) rfl trivial ?_
      refine z_Ev_fgt [true, true, true, true, true, false, false, false] ?_
      exact z_Ev_eq (c := (39, [some (aR 0 16), some (aI few), some (aI least), some (aI best), some (aI (4 : Int32)), none, none, none], [], (cm n Z v LD SH o cd pl ka kb kc, D, E))) (c' := (39, [some (aR 0 16), some (aI (if d < few ∨ (¬ best = -1 ∧ d = few ∧ u < least) then d else few)), some (aI (if d < few ∨ (¬ best = -1 ∧ d = few ∧ u < least) then u else least)), some (aI (if d < few ∨ (¬ best = -1 ∧ d = few ∧ u < least) then 3 else best)), some (aI (4 : Int32)), none, none, none], [], (cm n Z v LD SH o cd pl ka kb kc, D, E))) (by (try simp only [← Int32.not_le] at *); first | (simp [*]; done) | (exfalso; subst h3; exact h5 (Int32.le_refl _))) K
  · skip
    refine z_Ev_blk 3 (c' := ((if d = few then 132 else 142), [some (aR 0 16), some (aI few), some (aI least), some (aI best), some (aI (3 : Int32)), some (aI d), some (aI u), none], [], (cm n Z v LD SH o cd pl ka kb kc, D, E))) rfl trivial ?_
    refine z_Ev_ite (fun h3 => ?_) (fun h3 => ?_)
    · skip
      refine z_Ev_blk 3 (c' := ((if least ≤ u then 142 else 138), [some (aR 0 16), some (aI few), some (aI least), some (aI best), some (aI (3 : Int32)), some (aI d), some (aI u), none], [], (cm n Z v LD SH o cd pl ka kb kc, D, E))) rfl trivial ?_
      refine z_Ev_ite (fun h4 => ?_) (fun h4 => ?_)
      · skip
        refine z_Ev_blk 5 (c' := ((if d < few then 156 else 151), [some (aR 0 16), some (aI few), some (aI least), some (aI best), some (aI (3 : Int32)), some (aI d), some (aI u), some (aI (0 : Int32))], [], (cm n Z v LD SH o cd pl ka kb kc, D, E))) rfl trivial ?_
        refine z_Ev_ite (fun h5 => ?_) (fun h5 => ?_)
        · skip
          refine z_Ev_blk 8 (c' := (39, [some (aR 0 16), some (aI d), some (aI u), some (aI (3 : Int32)), some (aI (4 : Int32)), some (aI d), some (aI u), some (aI (0 : Int32))], [], (cm n Z v LD SH o cd pl ka kb kc, D, E))) rfl trivial ?_
          refine z_Ev_fgt [true, true, true, true, true, false, false, false] ?_
          exact z_Ev_eq (c := (39, [some (aR 0 16), some (aI d), some (aI u), some (aI (3 : Int32)), some (aI (4 : Int32)), none, none, none], [], (cm n Z v LD SH o cd pl ka kb kc, D, E))) (c' := (39, [some (aR 0 16), some (aI (if d < few ∨ (¬ best = -1 ∧ d = few ∧ u < least) then d else few)), some (aI (if d < few ∨ (¬ best = -1 ∧ d = few ∧ u < least) then u else least)), some (aI (if d < few ∨ (¬ best = -1 ∧ d = few ∧ u < least) then 3 else best)), some (aI (4 : Int32)), none, none, none], [], (cm n Z v LD SH o cd pl ka kb kc, D, E))) (by (try simp only [← Int32.not_le] at *); first | (simp [*]; done) | (exfalso; subst h3; exact h5 (Int32.le_refl _))) K
        · skip
          refine z_Ev_blk 2 (c' := ((if (0 : Int32) = 0 then 165 else 156), [some (aR 0 16), some (aI few), some (aI least), some (aI best), some (aI (3 : Int32)), some (aI d), some (aI u), some (aI (0 : Int32))], [], (cm n Z v LD SH o cd pl ka kb kc, D, E))) rfl trivial ?_
          refine z_Ev_if (by decide) ?_
          refine z_Ev_blk 2 (c' := (39, [some (aR 0 16), some (aI few), some (aI least), some (aI best), some (aI (4 : Int32)), some (aI d), some (aI u), some (aI (0 : Int32))], [], (cm n Z v LD SH o cd pl ka kb kc, D, E))) rfl trivial ?_
          refine z_Ev_fgt [true, true, true, true, true, false, false, false] ?_
          exact z_Ev_eq (c := (39, [some (aR 0 16), some (aI few), some (aI least), some (aI best), some (aI (4 : Int32)), none, none, none], [], (cm n Z v LD SH o cd pl ka kb kc, D, E))) (c' := (39, [some (aR 0 16), some (aI (if d < few ∨ (¬ best = -1 ∧ d = few ∧ u < least) then d else few)), some (aI (if d < few ∨ (¬ best = -1 ∧ d = few ∧ u < least) then u else least)), some (aI (if d < few ∨ (¬ best = -1 ∧ d = few ∧ u < least) then 3 else best)), some (aI (4 : Int32)), none, none, none], [], (cm n Z v LD SH o cd pl ka kb kc, D, E))) (by (try simp only [← Int32.not_le] at *); first | (simp [*]; done) | (exfalso; subst h3; exact h5 (Int32.le_refl _))) K
      · skip
        refine z_Ev_blk 6 (c' := ((if d < few then 156 else 151), [some (aR 0 16), some (aI few), some (aI least), some (aI best), some (aI (3 : Int32)), some (aI d), some (aI u), some (aI (1 : Int32))], [], (cm n Z v LD SH o cd pl ka kb kc, D, E))) rfl trivial ?_
        refine z_Ev_ite (fun h6 => ?_) (fun h6 => ?_)
        · skip
          refine z_Ev_blk 8 (c' := (39, [some (aR 0 16), some (aI d), some (aI u), some (aI (3 : Int32)), some (aI (4 : Int32)), some (aI d), some (aI u), some (aI (1 : Int32))], [], (cm n Z v LD SH o cd pl ka kb kc, D, E))) rfl trivial ?_
          refine z_Ev_fgt [true, true, true, true, true, false, false, false] ?_
          exact z_Ev_eq (c := (39, [some (aR 0 16), some (aI d), some (aI u), some (aI (3 : Int32)), some (aI (4 : Int32)), none, none, none], [], (cm n Z v LD SH o cd pl ka kb kc, D, E))) (c' := (39, [some (aR 0 16), some (aI (if d < few ∨ (¬ best = -1 ∧ d = few ∧ u < least) then d else few)), some (aI (if d < few ∨ (¬ best = -1 ∧ d = few ∧ u < least) then u else least)), some (aI (if d < few ∨ (¬ best = -1 ∧ d = few ∧ u < least) then 3 else best)), some (aI (4 : Int32)), none, none, none], [], (cm n Z v LD SH o cd pl ka kb kc, D, E))) (by (try simp only [← Int32.not_le] at *); first | (simp [*]; done) | (exfalso; subst h3; exact h5 (Int32.le_refl _))) K
        · skip
          refine z_Ev_blk 2 (c' := ((if (1 : Int32) = 0 then 165 else 156), [some (aR 0 16), some (aI few), some (aI least), some (aI best), some (aI (3 : Int32)), some (aI d), some (aI u), some (aI (1 : Int32))], [], (cm n Z v LD SH o cd pl ka kb kc, D, E))) rfl trivial ?_
          refine z_Ev_else (by decide) ?_
          refine z_Ev_blk 8 (c' := (39, [some (aR 0 16), some (aI d), some (aI u), some (aI (3 : Int32)), some (aI (4 : Int32)), some (aI d), some (aI u), some (aI (1 : Int32))], [], (cm n Z v LD SH o cd pl ka kb kc, D, E))) rfl trivial ?_
          refine z_Ev_fgt [true, true, true, true, true, false, false, false] ?_
          exact z_Ev_eq (c := (39, [some (aR 0 16), some (aI d), some (aI u), some (aI (3 : Int32)), some (aI (4 : Int32)), none, none, none], [], (cm n Z v LD SH o cd pl ka kb kc, D, E))) (c' := (39, [some (aR 0 16), some (aI (if d < few ∨ (¬ best = -1 ∧ d = few ∧ u < least) then d else few)), some (aI (if d < few ∨ (¬ best = -1 ∧ d = few ∧ u < least) then u else least)), some (aI (if d < few ∨ (¬ best = -1 ∧ d = few ∧ u < least) then 3 else best)), some (aI (4 : Int32)), none, none, none], [], (cm n Z v LD SH o cd pl ka kb kc, D, E))) (by (try simp only [← Int32.not_le] at *); first | (simp [*]; done) | (exfalso; subst h3; exact h5 (Int32.le_refl _))) K
    · skip
      refine z_Ev_blk 5 (c' := ((if d < few then 156 else 151), [some (aR 0 16), some (aI few), some (aI least), some (aI best), some (aI (3 : Int32)), some (aI d), some (aI u), some (aI (0 : Int32))], [], (cm n Z v LD SH o cd pl ka kb kc, D, E))) rfl trivial ?_
      refine z_Ev_ite (fun h7 => ?_) (fun h7 => ?_)
      · skip
        refine z_Ev_blk 8 (c' := (39, [some (aR 0 16), some (aI d), some (aI u), some (aI (3 : Int32)), some (aI (4 : Int32)), some (aI d), some (aI u), some (aI (0 : Int32))], [], (cm n Z v LD SH o cd pl ka kb kc, D, E))) rfl trivial ?_
        refine z_Ev_fgt [true, true, true, true, true, false, false, false] ?_
        exact z_Ev_eq (c := (39, [some (aR 0 16), some (aI d), some (aI u), some (aI (3 : Int32)), some (aI (4 : Int32)), none, none, none], [], (cm n Z v LD SH o cd pl ka kb kc, D, E))) (c' := (39, [some (aR 0 16), some (aI (if d < few ∨ (¬ best = -1 ∧ d = few ∧ u < least) then d else few)), some (aI (if d < few ∨ (¬ best = -1 ∧ d = few ∧ u < least) then u else least)), some (aI (if d < few ∨ (¬ best = -1 ∧ d = few ∧ u < least) then 3 else best)), some (aI (4 : Int32)), none, none, none], [], (cm n Z v LD SH o cd pl ka kb kc, D, E))) (by (try simp only [← Int32.not_le] at *); first | (simp [*]; done) | (exfalso; subst h3; exact h5 (Int32.le_refl _))) K
      · skip
        refine z_Ev_blk 2 (c' := ((if (0 : Int32) = 0 then 165 else 156), [some (aR 0 16), some (aI few), some (aI least), some (aI best), some (aI (3 : Int32)), some (aI d), some (aI u), some (aI (0 : Int32))], [], (cm n Z v LD SH o cd pl ka kb kc, D, E))) rfl trivial ?_
        refine z_Ev_if (by decide) ?_
        refine z_Ev_blk 2 (c' := (39, [some (aR 0 16), some (aI few), some (aI least), some (aI best), some (aI (4 : Int32)), some (aI d), some (aI u), some (aI (0 : Int32))], [], (cm n Z v LD SH o cd pl ka kb kc, D, E))) rfl trivial ?_
        refine z_Ev_fgt [true, true, true, true, true, false, false, false] ?_
        exact z_Ev_eq (c := (39, [some (aR 0 16), some (aI few), some (aI least), some (aI best), some (aI (4 : Int32)), none, none, none], [], (cm n Z v LD SH o cd pl ka kb kc, D, E))) (c' := (39, [some (aR 0 16), some (aI (if d < few ∨ (¬ best = -1 ∧ d = few ∧ u < least) then d else few)), some (aI (if d < few ∨ (¬ best = -1 ∧ d = few ∧ u < least) then u else least)), some (aI (if d < few ∨ (¬ best = -1 ∧ d = few ∧ u < least) then 3 else best)), some (aI (4 : Int32)), none, none, none], [], (cm n Z v LD SH o cd pl ka kb kc, D, E))) (by (try simp only [← Int32.not_le] at *); first | (simp [*]; done) | (exfalso; subst h3; exact h5 (Int32.le_refl _))) K
theorem bs_end {xs : Nat → Int32} {L : Nat} (few least best : Int32) (n t : Nat → Int32) (v : Nat → Nat → Int32) (ld sh o cd pl ka kb kc : Nat → Int32) (D : Nat → Nat → Int32) (E : Nat → Int64) : z_Ev xs L m_X4_bestStart (39, [some (aR 0 16), some (aI few), some (aI least), some (aI best), some (aI (4 : Int32)), none, none, none], [], (cm n t v ld sh o cd pl ka kb kc, D, E)) (.inl (some (aI best))) (cm n t v ld sh o cd pl ka kb kc, D, E) 0 := by
  refine z_Ev_blk 3 (c' := ((if (4 : Int32) ≤ (4 : Int32) then 171 else 45), [some (aR 0 16), some (aI few), some (aI least), some (aI best), some (aI (4 : Int32)), none, none, none], [], (cm n t v ld sh o cd pl ka kb kc, D, E))) rfl trivial ?_
  refine z_Ev_if (by decide) ?_
  refine z_Ev_blk 1 (c' := (172, [some (aR 0 16), some (aI few), some (aI least), some (aI best), some (aI (4 : Int32)), none, none, none], [aI best], (cm n t v ld sh o cd pl ka kb kc, D, E))) rfl trivial ?_
  exact z_Ev_iretE rfl rfl (by rfl) (by rfl)
theorem bs_beg {xs : Nat → Int32} {L : Nat} {o_ : z_Rs} {M' : Mem} {kk : Nat} (H : Nat) (Z LD SH : Nat → Int32) (n t : Nat → Int32) (v : Nat → Nat → Int32) (ld sh o cd pl ka kb kc : Nat → Int32) (D : Nat → Nat → Int32) (E : Nat → Int64) (hV : Vs n H) (hb5 : z_isB (n 36) = true) (hb6 : z_isB (n 37) = true) (hY : cTI (48 - H) (n, ld, sh) = (Z, LD, SH)) (hZ : Z 34 = nI 48) (K : z_Ev xs L m_X4_bestStart (39, [some (aR 0 16), some (aI (dkN Z 48)), some (aI (0 : Int32)), some (aI (-1 : Int32)), some (aI (0 : Int32)), none, none, none], [], (cm n Z v LD SH o cd pl ka kb kc, D, E)) o_ M' kk) : z_Ev xs L m_X4_bestStart (0, [some (aR 0 16), none, none, none, none, none, none, none], [], (cm n t v ld sh o cd pl ka kb kc, D, E)) o_ M' kk := by
  refine z_Ev_blk 4 (c' := (8, [some (aR 0 16), none, none, none, none, none, none, none], [aR 0 0, aR 1 0], (cm n t v ld sh o cd pl ka kb kc, D, E))) rfl trivial ?_
  refine z_Ev_call0 (m' := m_X1_copyFrom) (as := [aR 1 0, aR 0 0]) (r := []) (c_copy_tn n t v ld sh o cd pl ka kb kc D E hb5 hb6) rfl rfl ?_
  refine z_Ev_blk 5 (c' := (21, [some (aR 0 16), none, none, none, none, none, none, none], [aR 0 23, aI (48 : Int32), aR 1 0], (cm n n v ld sh o cd pl ka kb kc, D, E))) rfl trivial ?_
  refine z_Ev_call0 (m' := m_X1_letHoursGoBy) (as := [aR 1 0, aI (48 : Int32), aR 0 23]) (r := []) ((by have q := c_hours_1 (xs := xs) (L := L) n n v ld sh o cd pl ka kb kc D E 48 H (by decide) hV; rw [show min (48 - 0) (48 - H) = 48 - H by omega, hY] at q; exact q)) rfl rfl ?_
  refine z_Ev_blk 2 (c' := (28, [some (aR 0 16), none, none, none, none, none, none, none], [aR 1 0], (cm n Z v LD SH o cd pl ka kb kc, D, E))) rfl trivial ?_
  refine z_Ev_call0 (m' := m_X1_darkHours) (as := [aR 1 0]) (r := []) (c_darkHours_1 n Z v LD SH o cd pl ka kb kc D E 48 hZ (by decide)) rfl rfl ?_
  refine z_Ev_blk 7 (c' := (39, [some (aR 0 16), some (aI (dkN Z 48)), some (aI (0 : Int32)), some (aI (-1 : Int32)), some (aI (0 : Int32)), none, none, none], [], (cm n Z v LD SH o cd pl ka kb kc, D, E))) rfl trivial ?_
  exact K

