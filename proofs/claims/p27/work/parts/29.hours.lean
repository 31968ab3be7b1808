/-! THE CLASS: hours go by -/
theorem cm_mk {n t ld sh o cd pl ka kb kc ld' sh' : Nat → Int32} {v : Nat → Nat → Int32} : mk3 (cm n t v ld sh o cd pl ka kb kc) ld' sh' = cm n t v ld' sh' o cd pl ka kb kc := by
  funext g q j
  unfold mk3
  by_cases e : q = 24 ∧ g = 0
  · obtain ⟨rfl, rfl⟩ := e; rfl
  · by_cases e2 : q = 23 ∧ g = 0
    · obtain ⟨rfl, rfl⟩ := e2; rfl
    · rw [if_neg e, if_neg e2]
      unfold cm cmx
      by_cases h0 : g = 0
      · have h1 : q ≠ 24 := fun z => e ⟨z, h0⟩
        have h2 : q ≠ 23 := fun z => e2 ⟨z, h0⟩
        have h3 : cmR ld sh o cd pl ka kb kc q = cmR ld' sh' o cd pl ka kb kc q := by
          unfold cmR
          rw [if_neg h1, if_neg h2, if_neg h1, if_neg h2]
        rw [h3]
      · have h3 : Nat.beq g 0 = false := by
          cases g with
          | zero => exact absurd rfl h0
          | succ g => rfl
        rw [h3]
        rfl
theorem cmn_congr {a b t ld sh o cd pl ka kb kc : Nat → Int32} {v : Nat → Nat → Int32} (h : ∀ j, vis j → a j = b j) : cm a t v ld sh o cd pl ka kb kc = cm b t v ld sh o cd pl ka kb kc := by
  unfold cm
  refine cmx_congr fun g j hj => ?_
  match g with
  | 0 => exact h j hj
  | 1 => rfl
  | g + 2 => rfl
theorem cmt_congr {n a b ld sh o cd pl ka kb kc : Nat → Int32} {v : Nat → Nat → Int32} (h : ∀ j, vis j → a j = b j) : cm n a v ld sh o cd pl ka kb kc = cm n b v ld sh o cd pl ka kb kc := by
  unfold cm
  refine cmx_congr fun g j hj => ?_
  match g with
  | 0 => rfl
  | 1 => exact h j hj
  | g + 2 => rfl
theorem cmv_congr {n t ld sh o cd pl ka kb kc : Nat → Int32} {v w : Nat → Nat → Int32} (h : ∀ g j, vis j → v g j = w g j) : cm n t v ld sh o cd pl ka kb kc = cm n t w ld sh o cd pl ka kb kc := by
  unfold cm
  refine cmx_congr fun g j hj => ?_
  match g with
  | 0 => rfl
  | 1 => rfl
  | g + 2 => exact h g j hj
section CGC
variable {C C' : Nat → Nat → Nat → Int32} {f f' : Nat} {mask due : Int32} {ld sh : Nat → Int32}
theorem cGv_c (h2 : C f 2 = C' f' 2) (h3 : C f 3 = C' f' 3) (h4 : C f 4 = C' f' 4) : cGv C f mask due ld = cGv C' f' mask due ld := by
  unfold cGv cSum cLd0
  rw [h2, h3, h4]
theorem cOb_c (h2 : C f 2 = C' f' 2) (h3 : C f 3 = C' f' 3) (h4 : C f 4 = C' f' 4) : cOb C f mask due ld sh = cOb C' f' mask due ld sh := by
  unfold cOb cSum cMax
  rw [cGv_c h2 h3 h4, h2, h3]
end CGC
theorem upd_lt {f : Nat → Int32} {k j : Nat} {x : Int32} (h : j < k) : upd f k x j = f j := if_neg (by omega)
def cL (s ld : Nat → Int32) : Nat → Int32 := (cGv (cI (wuF s)) 0 (gMask s) (gAll s) ld).1
def cSh (s ld sh : Nat → Int32) : Nat → Int32 := cOb (cI (wuF s)) 0 (gMask s) (gAll s) ld sh
theorem Vs_34 {s : Nat → Int32} {H : Nat} (hV : Vs s H) : s 34 = nI H := hV.2.1.1
theorem Vs_gAll {s : Nat → Int32} {H : Nat} (hV : Vs s H) (hH : H < 48) : 0 ≤ (gAll s).toInt ∧ (gAll s).toInt ≤ 1800 := by
  rw [gAll_eq hV.2.1.1 hH]
  exact lod_b hV hH
theorem c_shW {s ld sh : Nat → Int32} {H : Nat} (hV : Vs s H) (hH : H < 48) : (∀ j, j < 4 → cL s ld j = shL (wuF s) (gAll s) (gMask s) j) ∧ cSh s ld sh 1 = shO (wuF s) (gAll s) (gMask s) 8 ∧ cSh s ld sh 2 = shO (wuF s) (gAll s) (gMask s) 9 ∧ cSh s ld sh 3 = shO (wuF s) (gAll s) (gMask s) 10 ∧ cSh s ld sh 4 = shO (wuF s) (gAll s) (gMask s) 11 := by
  unfold cL cSh gMask
  exact c_sh (okk_wu hV.1) (mkF_m (fun j => wuF s (16 + j)) 2) (Vs_gAll hV hH)
theorem Vs_w {s : Nat → Int32} {H k : Nat} (hV : Vs s H) (hk : k < 4) : s (16 + k) = 1 → 0 < s (20 + k) := (hV.1 k hk).2.2.2.2.2.1

theorem c_share_0 {xs : Nat → Int32} {L : Nat} (mask due : Int32) (n t : Nat → Int32) (v : Nat → Nat → Int32) (ld sh o cd pl ka kb kc : Nat → Int32) (D : Nat → Nat → Int32) (E : Nat → Int64) : z_Mt xs L m_X3_shareOut [aR 0 23, aR 0 1, aI mask, aI due] (cm n t v ld sh o cd pl ka kb kc, D, E) (.inl none) (cm n t v (cGv (cI n) 0 mask due ld).1 (cOb (cI n) 0 mask due ld sh) o cd pl ka kb kc, D, E) 0 := by
  have q := e_shareOut (xs := xs) (L := L) 0 mask due (cm n t v ld sh o cd pl ka kb kc) ld sh D E
  rw [cm_mk, cm_mk, cGv_c (C := cm n t v ld sh o cd pl ka kb kc) (f := 0) (C' := cI n) (f' := 0) rfl rfl rfl, cOb_c (C := cm n t v ld sh o cd pl ka kb kc) (f := 0) (C' := cI n) (f' := 0) rfl rfl rfl] at q
  exact q
theorem c_share_1 {xs : Nat → Int32} {L : Nat} (mask due : Int32) (n t : Nat → Int32) (v : Nat → Nat → Int32) (ld sh o cd pl ka kb kc : Nat → Int32) (D : Nat → Nat → Int32) (E : Nat → Int64) : z_Mt xs L m_X3_shareOut [aR 0 23, aR 1 1, aI mask, aI due] (cm n t v ld sh o cd pl ka kb kc, D, E) (.inl none) (cm n t v (cGv (cI t) 0 mask due ld).1 (cOb (cI t) 0 mask due ld sh) o cd pl ka kb kc, D, E) 0 := by
  have q := e_shareOut (xs := xs) (L := L) 1 mask due (cm n t v ld sh o cd pl ka kb kc) ld sh D E
  rw [cm_mk, cm_mk, cGv_c (C := cm n t v ld sh o cd pl ka kb kc) (f := 1) (C' := cI t) (f' := 0) rfl rfl rfl, cOb_c (C := cm n t v ld sh o cd pl ka kb kc) (f := 1) (C' := cI t) (f' := 0) rfl rfl rfl] at q
  exact q
theorem row_0_0 {xs : Nat → Int32} {L : Nat} {o_ : z_Rs} {M' : Mem} {kk : Nat} (H : Nat) (all mask : Int32) (n t : Nat → Int32) (v : Nat → Nat → Int32) (ld sh o cd pl ka kb kc : Nat → Int32) (D : Nat → Nat → Int32) (E : Nat → Int64) (h34 : n 34 = nI H) (hH : H < 48) (K : z_Ev xs L m_X1_letAnHourGoBy (47, [some (aR 0 0), some (aR 0 23), some (aI all), some (aI mask)], [], (cm (upd n (88 + 6 * H + 0) all) t v ld sh o cd pl ka kb kc, D, E)) o_ M' kk) : z_Ev xs L m_X1_letAnHourGoBy (35, [some (aR 0 0), some (aR 0 23), some (aI all), some (aI mask)], [], (cm n t v ld sh o cd pl ka kb kc, D, E)) o_ M' kk := by
  refine z_Ev_blk 6 (c' := (45, [some (aR 0 0), some (aR 0 23), some (aI all), some (aI mask)], [aI (n 34), aR 1 11], (cm n t v ld sh o cd pl ka kb kc, D, E))) rfl ⟨rfl, trivial⟩ ?_
  rw [h34]
  refine z_Ev_blk 2 (c' := (47, [some (aR 0 0), some (aR 0 23), some (aI all), some (aI mask)], [], (up3 (cm n t v ld sh o cd pl ka kb kc) 1 11 ((nI H).toNatClampNeg) all, D, E))) rfl ⟨(inb_nI (show H < 48 by omega) (by decide)), trivial⟩ ?_
  rw [nI_clamp (show H < 2 ^ 31 by omega)]
  rw [cmn_11_1 (hH)]
  exact K
theorem row_1_0 {xs : Nat → Int32} {L : Nat} {o_ : z_Rs} {M' : Mem} {kk : Nat} (H : Nat) (all mask : Int32) (n t : Nat → Int32) (v : Nat → Nat → Int32) (ld sh o cd pl ka kb kc : Nat → Int32) (D : Nat → Nat → Int32) (E : Nat → Int64) (h34 : n 34 = nI H) (hH : H < 48) (K : z_Ev xs L m_X1_letAnHourGoBy (62, [some (aR 0 0), some (aR 0 23), some (aI all), some (aI mask)], [], (cm (upd n (88 + 6 * H + 1) (sh 1)) t v ld sh o cd pl ka kb kc, D, E)) o_ M' kk) : z_Ev xs L m_X1_letAnHourGoBy (47, [some (aR 0 0), some (aR 0 23), some (aI all), some (aI mask)], [], (cm n t v ld sh o cd pl ka kb kc, D, E)) o_ M' kk := by
  refine z_Ev_blk 6 (c' := (57, [some (aR 0 0), some (aR 0 23), some (aI all), some (aI mask)], [aI (n 34), aR 2 11], (cm n t v ld sh o cd pl ka kb kc, D, E))) rfl ⟨rfl, trivial⟩ ?_
  rw [h34]
  refine z_Ev_blk 3 (c' := (62, [some (aR 0 0), some (aR 0 23), some (aI all), some (aI mask)], [], (up3 (cm n t v ld sh o cd pl ka kb kc) 2 11 ((nI H).toNatClampNeg) (sh 1), D, E))) rfl ⟨(inb_nI (show H < 48 by omega) (by decide)), trivial⟩ ?_
  rw [nI_clamp (show H < 2 ^ 31 by omega)]
  rw [cmn_11_2 (hH)]
  exact K
theorem row_2_0 {xs : Nat → Int32} {L : Nat} {o_ : z_Rs} {M' : Mem} {kk : Nat} (H : Nat) (all mask : Int32) (n t : Nat → Int32) (v : Nat → Nat → Int32) (ld sh o cd pl ka kb kc : Nat → Int32) (D : Nat → Nat → Int32) (E : Nat → Int64) (h34 : n 34 = nI H) (hH : H < 48) (K : z_Ev xs L m_X1_letAnHourGoBy (77, [some (aR 0 0), some (aR 0 23), some (aI all), some (aI mask)], [], (cm (upd n (88 + 6 * H + 2) (sh 2)) t v ld sh o cd pl ka kb kc, D, E)) o_ M' kk) : z_Ev xs L m_X1_letAnHourGoBy (62, [some (aR 0 0), some (aR 0 23), some (aI all), some (aI mask)], [], (cm n t v ld sh o cd pl ka kb kc, D, E)) o_ M' kk := by
  refine z_Ev_blk 6 (c' := (72, [some (aR 0 0), some (aR 0 23), some (aI all), some (aI mask)], [aI (n 34), aR 3 11], (cm n t v ld sh o cd pl ka kb kc, D, E))) rfl ⟨rfl, trivial⟩ ?_
  rw [h34]
  refine z_Ev_blk 3 (c' := (77, [some (aR 0 0), some (aR 0 23), some (aI all), some (aI mask)], [], (up3 (cm n t v ld sh o cd pl ka kb kc) 3 11 ((nI H).toNatClampNeg) (sh 2), D, E))) rfl ⟨(inb_nI (show H < 48 by omega) (by decide)), trivial⟩ ?_
  rw [nI_clamp (show H < 2 ^ 31 by omega)]
  rw [cmn_11_3 (hH)]
  exact K
theorem row_3_0 {xs : Nat → Int32} {L : Nat} {o_ : z_Rs} {M' : Mem} {kk : Nat} (H : Nat) (all mask : Int32) (n t : Nat → Int32) (v : Nat → Nat → Int32) (ld sh o cd pl ka kb kc : Nat → Int32) (D : Nat → Nat → Int32) (E : Nat → Int64) (h34 : n 34 = nI H) (hH : H < 48) (K : z_Ev xs L m_X1_letAnHourGoBy (92, [some (aR 0 0), some (aR 0 23), some (aI all), some (aI mask)], [], (cm (upd n (88 + 6 * H + 3) (sh 3)) t v ld sh o cd pl ka kb kc, D, E)) o_ M' kk) : z_Ev xs L m_X1_letAnHourGoBy (77, [some (aR 0 0), some (aR 0 23), some (aI all), some (aI mask)], [], (cm n t v ld sh o cd pl ka kb kc, D, E)) o_ M' kk := by
  refine z_Ev_blk 6 (c' := (87, [some (aR 0 0), some (aR 0 23), some (aI all), some (aI mask)], [aI (n 34), aR 4 11], (cm n t v ld sh o cd pl ka kb kc, D, E))) rfl ⟨rfl, trivial⟩ ?_
  rw [h34]
  refine z_Ev_blk 3 (c' := (92, [some (aR 0 0), some (aR 0 23), some (aI all), some (aI mask)], [], (up3 (cm n t v ld sh o cd pl ka kb kc) 4 11 ((nI H).toNatClampNeg) (sh 3), D, E))) rfl ⟨(inb_nI (show H < 48 by omega) (by decide)), trivial⟩ ?_
  rw [nI_clamp (show H < 2 ^ 31 by omega)]
  rw [cmn_11_4 (hH)]
  exact K
theorem row_4_0 {xs : Nat → Int32} {L : Nat} {o_ : z_Rs} {M' : Mem} {kk : Nat} (H : Nat) (all mask : Int32) (n t : Nat → Int32) (v : Nat → Nat → Int32) (ld sh o cd pl ka kb kc : Nat → Int32) (D : Nat → Nat → Int32) (E : Nat → Int64) (h34 : n 34 = nI H) (hH : H < 48) (K : z_Ev xs L m_X1_letAnHourGoBy (110, [some (aR 0 0), some (aR 0 23), some (aI all), some (aI mask)], [], (cm (upd n (88 + 6 * H + 4) (if sh 4 = 0 then 0 else 1)) t v ld sh o cd pl ka kb kc, D, E)) o_ M' kk) : z_Ev xs L m_X1_letAnHourGoBy (92, [some (aR 0 0), some (aR 0 23), some (aI all), some (aI mask)], [], (cm n t v ld sh o cd pl ka kb kc, D, E)) o_ M' kk := by
  refine z_Ev_blk 6 (c' := (102, [some (aR 0 0), some (aR 0 23), some (aI all), some (aI mask)], [aI (n 34), aR 5 11], (cm n t v ld sh o cd pl ka kb kc, D, E))) rfl ⟨rfl, trivial⟩ ?_
  rw [h34]
  refine z_Ev_blk 2 (c' := (106, [some (aR 0 0), some (aR 0 23), some (aI all), some (aI mask)], [aI (sh 4), aI (nI H), aR 5 11], (cm n t v ld sh o cd pl ka kb kc, D, E))) rfl trivial ?_
  refine z_Ev_call0 (m' := m_X4_oneIf) (as := [aI (sh 4)]) (r := [aI (nI H), aR 5 11]) (e_oneIf (sh 4) (cm n t v ld sh o cd pl ka kb kc) D E) rfl rfl ?_
  refine z_Ev_blk 1 (c' := (110, [some (aR 0 0), some (aR 0 23), some (aI all), some (aI mask)], [], (up3 (cm n t v ld sh o cd pl ka kb kc) 5 11 ((nI H).toNatClampNeg) (if (sh 4) = 0 then 0 else 1), D, E))) rfl ⟨(inb_nI (show H < 48 by omega) (by decide)), trivial⟩ ?_
  rw [nI_clamp (show H < 2 ^ 31 by omega)]
  rw [cmn_11_5 (hH)]
  exact K
theorem row_5_0 {xs : Nat → Int32} {L : Nat} {o_ : z_Rs} {M' : Mem} {kk : Nat} (H : Nat) (all mask : Int32) (n t : Nat → Int32) (v : Nat → Nat → Int32) (ld sh o cd pl ka kb kc : Nat → Int32) (D : Nat → Nat → Int32) (E : Nat → Int64) (h34 : n 34 = nI H) (hH : H < 48) (K : z_Ev xs L m_X1_letAnHourGoBy (123, [some (aR 0 0), some (aR 0 23), some (aI all), some (aI mask)], [], (cm (upd n (88 + 6 * H + 5) mask) t v ld sh o cd pl ka kb kc, D, E)) o_ M' kk) : z_Ev xs L m_X1_letAnHourGoBy (110, [some (aR 0 0), some (aR 0 23), some (aI all), some (aI mask)], [], (cm n t v ld sh o cd pl ka kb kc, D, E)) o_ M' kk := by
  refine z_Ev_blk 6 (c' := (121, [some (aR 0 0), some (aR 0 23), some (aI all), some (aI mask)], [aI (n 34), aR 6 11], (cm n t v ld sh o cd pl ka kb kc, D, E))) rfl ⟨rfl, trivial⟩ ?_
  rw [h34]
  refine z_Ev_blk 2 (c' := (123, [some (aR 0 0), some (aR 0 23), some (aI all), some (aI mask)], [], (up3 (cm n t v ld sh o cd pl ka kb kc) 6 11 ((nI H).toNatClampNeg) mask, D, E))) rfl ⟨(inb_nI (show H < 48 by omega) (by decide)), trivial⟩ ?_
  rw [nI_clamp (show H < 2 ^ 31 by omega)]
  rw [cmn_11_6 (hH)]
  exact K
theorem hourEnd_0 {xs : Nat → Int32} {L : Nat} (H : Nat) (all mask : Int32) (B W : Nat → Int32) (n t : Nat → Int32) (v : Nat → Nat → Int32) (ld sh o cd pl ka kb kc : Nat → Int32) (D : Nat → Nat → Int32) (E : Nat → Int64) (hB : bfA n ld = B) (hW : wcF B = W) (h34 : W 34 = nI H) : z_Ev xs L m_X1_letAnHourGoBy (123, [some (aR 0 0), some (aR 0 23), some (aI all), some (aI mask)], [], (cm n t v ld sh o cd pl ka kb kc, D, E)) (.inl none) (cm (upd W 34 (nI H + 1)) t v ld sh o cd pl ka kb kc, D, E) 0 := by
  refine z_Ev_blk 4 (c' := (131, [some (aR 0 0), some (aR 0 23), some (aI all), some (aI mask)], [aR 0 24, aR 0 1], (cm n t v ld sh o cd pl ka kb kc, D, E))) rfl trivial ?_
  refine z_Ev_call0 (m' := m_X0_burnFuel) (as := [aR 0 1, aR 0 24]) (r := []) (c_burn_0 n t v ld sh o cd pl ka kb kc D E) rfl rfl ?_
  change z_Ev xs L _ (_, _, _, (cm (bfA n ld) t v ld sh o cd pl ka kb kc, D, E)) _ _ _
  rw [hB]
  refine z_Ev_blk 1 (c' := (135, [some (aR 0 0), some (aR 0 23), some (aI all), some (aI mask)], [aR 0 0], (cm B t v ld sh o cd pl ka kb kc, D, E))) rfl trivial ?_
  refine z_Ev_call0 (m' := m_X1_changeWarmth) (as := [aR 0 0]) (r := []) (c_changeWarmth_0 B t v ld sh o cd pl ka kb kc D E) rfl rfl ?_
  rw [hW]
  refine z_Ev_blk 3 (c' := (143, [some (aR 0 0), some (aR 0 23), some (aI all), some (aI mask)], [aI (W 34), aR 0 0], (cm W t v ld sh o cd pl ka kb kc, D, E))) rfl trivial ?_
  rw [h34]
  refine z_Ev_blk 3 (c' := (148, [some (aR 0 0), some (aR 0 23), some (aI all), some (aI mask)], [], (up3 (cm W t v ld sh o cd pl ka kb kc) 0 0 3 ((nI H) + (1 : Int32)), D, E))) rfl trivial ?_
  rw [cmn_0_3]
  exact z_Ev_vretE rfl rfl (by rfl)
theorem hourBeg_0 {xs : Nat → Int32} {L : Nat} {o_ : z_Rs} {M' : Mem} {kk : Nat} (H : Nat) (all mask : Int32) (X LD SH : Nat → Int32) (n t : Nat → Int32) (v : Nat → Nat → Int32) (ld sh o cd pl ka kb kc : Nat → Int32) (D : Nat → Nat → Int32) (E : Nat → Int64) (hV : Vs n H) (hH : H < 48) (hX : wuF n = X) (h34 : X 34 = nI H) (hA : cld X H = all) (hM : mkF (fun j => X (16 + j)) 2 = mask) (hLD : (cGv (cI X) 0 mask all ld).1 = LD) (hSH : cOb (cI X) 0 mask all ld sh = SH) (K : z_Ev xs L m_X1_letAnHourGoBy (35, [some (aR 0 0), some (aR 0 23), some (aI all), some (aI mask)], [], (cm X t v LD SH o cd pl ka kb kc, D, E)) o_ M' kk) : z_Ev xs L m_X1_letAnHourGoBy (0, [some (aR 0 0), some (aR 0 23), none, none], [], (cm n t v ld sh o cd pl ka kb kc, D, E)) o_ M' kk := by
  refine z_Ev_blk 2 (c' := (4, [some (aR 0 0), some (aR 0 23), none, none], [aR 0 1], (cm n t v ld sh o cd pl ka kb kc, D, E))) rfl trivial ?_
  refine z_Ev_call0 (m' := m_X0_warmUpAnHour) (as := [aR 0 1]) (r := []) (c_warm_0 n t v ld sh o cd pl ka kb kc D E (Vs_w (k := 0) hV (by decide)) (Vs_w (k := 1) hV (by decide)) (Vs_w (k := 2) hV (by decide)) (Vs_w (k := 3) hV (by decide))) rfl rfl ?_
  rw [hX]
  refine z_Ev_blk 3 (c' := (12, [some (aR 0 0), some (aR 0 23), none, none], [aI (X 34), aR 0 0], (cm X t v ld sh o cd pl ka kb kc, D, E))) rfl trivial ?_
  rw [h34]
  refine z_Ev_call0 (m' := m_X1_loadOf) (as := [aR 0 0, aI (nI H)]) (r := []) ((by have q := c_loadOf_0 (xs := xs) (L := L) H X t v ld sh o cd pl ka kb kc D E hH; rw [hA] at q; exact q)) rfl rfl ?_
  refine z_Ev_blk 4 (c' := (21, [some (aR 0 0), some (aR 0 23), some (aI all), none], [aI (2 : Int32), aR 0 1], (cm X t v ld sh o cd pl ka kb kc, D, E))) rfl trivial ?_
  refine z_Ev_call0 (m' := m_X0_maskOf) (as := [aR 0 1, aI (2 : Int32)]) (r := []) ((by have q := c_maskOf_0 (xs := xs) (L := L) 2 X t v ld sh o cd pl ka kb kc D E; rw [hM] at q; exact q)) rfl rfl ?_
  refine z_Ev_blk 6 (c' := (32, [some (aR 0 0), some (aR 0 23), some (aI all), some (aI mask)], [aI all, aI mask, aR 0 1, aR 0 23], (cm X t v ld sh o cd pl ka kb kc, D, E))) rfl trivial ?_
  refine z_Ev_call0 (m' := m_X3_shareOut) (as := [aR 0 23, aR 0 1, aI mask, aI all]) (r := []) (c_share_0 mask all X t v ld sh o cd pl ka kb kc D E) rfl rfl ?_
  rw [hLD, hSH]
  exact K
theorem c_anHour_0 {xs : Nat → Int32} {L : Nat} (n t : Nat → Int32) (v : Nat → Nat → Int32) (ld sh o cd pl ka kb kc : Nat → Int32) (D : Nat → Nat → Int32) (E : Nat → Int64) (H : Nat) (hV : Vs n H) (hH : H < 48) : z_Mt xs L m_X1_letAnHourGoBy [aR 0 0, aR 0 23] (cm n t v ld sh o cd pl ka kb kc, D, E) (.inl none) (cm (goN n) t v (cL n ld) (cSh n ld sh) o cd pl ka kb kc, D, E) 0 := by
  have h34 : wuF n 34 = nI H := (wuF_o (by decide)).trans (Vs_34 hV)
  have hq := c_shW (ld := ld) (sh := sh) hV hH
  have hE := fun (LD SH : Nat → Int32) => cgo_eq (ld := LD) (sh := SH) hV hH
  refine hourBeg_0 H (gAll n) (gMask n) (wuF n) (cL n ld) (cSh n ld sh) n t v ld sh o cd pl ka kb kc D E hV hH rfl h34 (cld_wu hV hH) rfl rfl rfl ?_
  have hE := hE (cL n ld) (cSh n ld sh) hq.1 hq.2.1 hq.2.2.1 hq.2.2.2.1 hq.2.2.2.2
  clear hq
  rw [← cmn_congr hE]
  clear hE
  generalize cL n ld = LD
  generalize cSh n ld sh = SH
  generalize wuF n = X at h34 ⊢
  generalize gAll n = all
  generalize gMask n = mask
  refine row_0_0 H all mask X t v LD SH o cd pl ka kb kc D E h34 hH ?_
  refine row_1_0 H all mask _ t v LD SH o cd pl ka kb kc D E (by rw [upd_lt (by omega)]; exact h34) hH ?_
  refine row_2_0 H all mask _ t v LD SH o cd pl ka kb kc D E (by rw [upd_lt (by omega), upd_lt (by omega)]; exact h34) hH ?_
  refine row_3_0 H all mask _ t v LD SH o cd pl ka kb kc D E (by rw [upd_lt (by omega), upd_lt (by omega), upd_lt (by omega)]; exact h34) hH ?_
  refine row_4_0 H all mask _ t v LD SH o cd pl ka kb kc D E (by rw [upd_lt (by omega), upd_lt (by omega), upd_lt (by omega), upd_lt (by omega)]; exact h34) hH ?_
  refine row_5_0 H all mask _ t v LD SH o cd pl ka kb kc D E (by rw [upd_lt (by omega), upd_lt (by omega), upd_lt (by omega), upd_lt (by omega), upd_lt (by omega)]; exact h34) hH ?_
  refine hourEnd_0 H all mask _ _ (crcF X SH H all mask) t v LD SH o cd pl ka kb kc D E rfl rfl ?_
  rw [wcF_o (by decide) (by decide), bfA_o (by decide), crcF_n, rcN_o (by omega)]
  exact h34
theorem row_0_1 {xs : Nat → Int32} {L : Nat} {o_ : z_Rs} {M' : Mem} {kk : Nat} (H : Nat) (all mask : Int32) (n t : Nat → Int32) (v : Nat → Nat → Int32) (ld sh o cd pl ka kb kc : Nat → Int32) (D : Nat → Nat → Int32) (E : Nat → Int64) (h34 : t 34 = nI H) (hH : H < 48) (K : z_Ev xs L m_X1_letAnHourGoBy (47, [some (aR 1 0), some (aR 0 23), some (aI all), some (aI mask)], [], (cm n (upd t (88 + 6 * H + 0) all) v ld sh o cd pl ka kb kc, D, E)) o_ M' kk) : z_Ev xs L m_X1_letAnHourGoBy (35, [some (aR 1 0), some (aR 0 23), some (aI all), some (aI mask)], [], (cm n t v ld sh o cd pl ka kb kc, D, E)) o_ M' kk := by
  refine z_Ev_blk 6 (c' := (45, [some (aR 1 0), some (aR 0 23), some (aI all), some (aI mask)], [aI (t 34), aR 8 11], (cm n t v ld sh o cd pl ka kb kc, D, E))) rfl ⟨rfl, trivial⟩ ?_
  rw [h34]
  refine z_Ev_blk 2 (c' := (47, [some (aR 1 0), some (aR 0 23), some (aI all), some (aI mask)], [], (up3 (cm n t v ld sh o cd pl ka kb kc) 8 11 ((nI H).toNatClampNeg) all, D, E))) rfl ⟨(inb_nI (show H < 48 by omega) (by decide)), trivial⟩ ?_
  rw [nI_clamp (show H < 2 ^ 31 by omega)]
  rw [cmt_11_1 (hH)]
  exact K
theorem row_1_1 {xs : Nat → Int32} {L : Nat} {o_ : z_Rs} {M' : Mem} {kk : Nat} (H : Nat) (all mask : Int32) (n t : Nat → Int32) (v : Nat → Nat → Int32) (ld sh o cd pl ka kb kc : Nat → Int32) (D : Nat → Nat → Int32) (E : Nat → Int64) (h34 : t 34 = nI H) (hH : H < 48) (K : z_Ev xs L m_X1_letAnHourGoBy (62, [some (aR 1 0), some (aR 0 23), some (aI all), some (aI mask)], [], (cm n (upd t (88 + 6 * H + 1) (sh 1)) v ld sh o cd pl ka kb kc, D, E)) o_ M' kk) : z_Ev xs L m_X1_letAnHourGoBy (47, [some (aR 1 0), some (aR 0 23), some (aI all), some (aI mask)], [], (cm n t v ld sh o cd pl ka kb kc, D, E)) o_ M' kk := by
  refine z_Ev_blk 6 (c' := (57, [some (aR 1 0), some (aR 0 23), some (aI all), some (aI mask)], [aI (t 34), aR 9 11], (cm n t v ld sh o cd pl ka kb kc, D, E))) rfl ⟨rfl, trivial⟩ ?_
  rw [h34]
  refine z_Ev_blk 3 (c' := (62, [some (aR 1 0), some (aR 0 23), some (aI all), some (aI mask)], [], (up3 (cm n t v ld sh o cd pl ka kb kc) 9 11 ((nI H).toNatClampNeg) (sh 1), D, E))) rfl ⟨(inb_nI (show H < 48 by omega) (by decide)), trivial⟩ ?_
  rw [nI_clamp (show H < 2 ^ 31 by omega)]
  rw [cmt_11_2 (hH)]
  exact K
theorem row_2_1 {xs : Nat → Int32} {L : Nat} {o_ : z_Rs} {M' : Mem} {kk : Nat} (H : Nat) (all mask : Int32) (n t : Nat → Int32) (v : Nat → Nat → Int32) (ld sh o cd pl ka kb kc : Nat → Int32) (D : Nat → Nat → Int32) (E : Nat → Int64) (h34 : t 34 = nI H) (hH : H < 48) (K : z_Ev xs L m_X1_letAnHourGoBy (77, [some (aR 1 0), some (aR 0 23), some (aI all), some (aI mask)], [], (cm n (upd t (88 + 6 * H + 2) (sh 2)) v ld sh o cd pl ka kb kc, D, E)) o_ M' kk) : z_Ev xs L m_X1_letAnHourGoBy (62, [some (aR 1 0), some (aR 0 23), some (aI all), some (aI mask)], [], (cm n t v ld sh o cd pl ka kb kc, D, E)) o_ M' kk := by
  refine z_Ev_blk 6 (c' := (72, [some (aR 1 0), some (aR 0 23), some (aI all), some (aI mask)], [aI (t 34), aR 10 11], (cm n t v ld sh o cd pl ka kb kc, D, E))) rfl ⟨rfl, trivial⟩ ?_
  rw [h34]
  refine z_Ev_blk 3 (c' := (77, [some (aR 1 0), some (aR 0 23), some (aI all), some (aI mask)], [], (up3 (cm n t v ld sh o cd pl ka kb kc) 10 11 ((nI H).toNatClampNeg) (sh 2), D, E))) rfl ⟨(inb_nI (show H < 48 by omega) (by decide)), trivial⟩ ?_
  rw [nI_clamp (show H < 2 ^ 31 by omega)]
  rw [cmt_11_3 (hH)]
  exact K
theorem row_3_1 {xs : Nat → Int32} {L : Nat} {o_ : z_Rs} {M' : Mem} {kk : Nat} (H : Nat) (all mask : Int32) (n t : Nat → Int32) (v : Nat → Nat → Int32) (ld sh o cd pl ka kb kc : Nat → Int32) (D : Nat → Nat → Int32) (E : Nat → Int64) (h34 : t 34 = nI H) (hH : H < 48) (K : z_Ev xs L m_X1_letAnHourGoBy (92, [some (aR 1 0), some (aR 0 23), some (aI all), some (aI mask)], [], (cm n (upd t (88 + 6 * H + 3) (sh 3)) v ld sh o cd pl ka kb kc, D, E)) o_ M' kk) : z_Ev xs L m_X1_letAnHourGoBy (77, [some (aR 1 0), some (aR 0 23), some (aI all), some (aI mask)], [], (cm n t v ld sh o cd pl ka kb kc, D, E)) o_ M' kk := by
  refine z_Ev_blk 6 (c' := (87, [some (aR 1 0), some (aR 0 23), some (aI all), some (aI mask)], [aI (t 34), aR 11 11], (cm n t v ld sh o cd pl ka kb kc, D, E))) rfl ⟨rfl, trivial⟩ ?_
  rw [h34]
  refine z_Ev_blk 3 (c' := (92, [some (aR 1 0), some (aR 0 23), some (aI all), some (aI mask)], [], (up3 (cm n t v ld sh o cd pl ka kb kc) 11 11 ((nI H).toNatClampNeg) (sh 3), D, E))) rfl ⟨(inb_nI (show H < 48 by omega) (by decide)), trivial⟩ ?_
  rw [nI_clamp (show H < 2 ^ 31 by omega)]
  rw [cmt_11_4 (hH)]
  exact K
theorem row_4_1 {xs : Nat → Int32} {L : Nat} {o_ : z_Rs} {M' : Mem} {kk : Nat} (H : Nat) (all mask : Int32) (n t : Nat → Int32) (v : Nat → Nat → Int32) (ld sh o cd pl ka kb kc : Nat → Int32) (D : Nat → Nat → Int32) (E : Nat → Int64) (h34 : t 34 = nI H) (hH : H < 48) (K : z_Ev xs L m_X1_letAnHourGoBy (110, [some (aR 1 0), some (aR 0 23), some (aI all), some (aI mask)], [], (cm n (upd t (88 + 6 * H + 4) (if sh 4 = 0 then 0 else 1)) v ld sh o cd pl ka kb kc, D, E)) o_ M' kk) : z_Ev xs L m_X1_letAnHourGoBy (92, [some (aR 1 0), some (aR 0 23), some (aI all), some (aI mask)], [], (cm n t v ld sh o cd pl ka kb kc, D, E)) o_ M' kk := by
  refine z_Ev_blk 6 (c' := (102, [some (aR 1 0), some (aR 0 23), some (aI all), some (aI mask)], [aI (t 34), aR 12 11], (cm n t v ld sh o cd pl ka kb kc, D, E))) rfl ⟨rfl, trivial⟩ ?_
  rw [h34]
  refine z_Ev_blk 2 (c' := (106, [some (aR 1 0), some (aR 0 23), some (aI all), some (aI mask)], [aI (sh 4), aI (nI H), aR 12 11], (cm n t v ld sh o cd pl ka kb kc, D, E))) rfl trivial ?_
  refine z_Ev_call0 (m' := m_X4_oneIf) (as := [aI (sh 4)]) (r := [aI (nI H), aR 12 11]) (e_oneIf (sh 4) (cm n t v ld sh o cd pl ka kb kc) D E) rfl rfl ?_
  refine z_Ev_blk 1 (c' := (110, [some (aR 1 0), some (aR 0 23), some (aI all), some (aI mask)], [], (up3 (cm n t v ld sh o cd pl ka kb kc) 12 11 ((nI H).toNatClampNeg) (if (sh 4) = 0 then 0 else 1), D, E))) rfl ⟨(inb_nI (show H < 48 by omega) (by decide)), trivial⟩ ?_
  rw [nI_clamp (show H < 2 ^ 31 by omega)]
  rw [cmt_11_5 (hH)]
  exact K
theorem row_5_1 {xs : Nat → Int32} {L : Nat} {o_ : z_Rs} {M' : Mem} {kk : Nat} (H : Nat) (all mask : Int32) (n t : Nat → Int32) (v : Nat → Nat → Int32) (ld sh o cd pl ka kb kc : Nat → Int32) (D : Nat → Nat → Int32) (E : Nat → Int64) (h34 : t 34 = nI H) (hH : H < 48) (K : z_Ev xs L m_X1_letAnHourGoBy (123, [some (aR 1 0), some (aR 0 23), some (aI all), some (aI mask)], [], (cm n (upd t (88 + 6 * H + 5) mask) v ld sh o cd pl ka kb kc, D, E)) o_ M' kk) : z_Ev xs L m_X1_letAnHourGoBy (110, [some (aR 1 0), some (aR 0 23), some (aI all), some (aI mask)], [], (cm n t v ld sh o cd pl ka kb kc, D, E)) o_ M' kk := by
  refine z_Ev_blk 6 (c' := (121, [some (aR 1 0), some (aR 0 23), some (aI all), some (aI mask)], [aI (t 34), aR 13 11], (cm n t v ld sh o cd pl ka kb kc, D, E))) rfl ⟨rfl, trivial⟩ ?_
  rw [h34]
  refine z_Ev_blk 2 (c' := (123, [some (aR 1 0), some (aR 0 23), some (aI all), some (aI mask)], [], (up3 (cm n t v ld sh o cd pl ka kb kc) 13 11 ((nI H).toNatClampNeg) mask, D, E))) rfl ⟨(inb_nI (show H < 48 by omega) (by decide)), trivial⟩ ?_
  rw [nI_clamp (show H < 2 ^ 31 by omega)]
  rw [cmt_11_6 (hH)]
  exact K
theorem hourEnd_1 {xs : Nat → Int32} {L : Nat} (H : Nat) (all mask : Int32) (B W : Nat → Int32) (n t : Nat → Int32) (v : Nat → Nat → Int32) (ld sh o cd pl ka kb kc : Nat → Int32) (D : Nat → Nat → Int32) (E : Nat → Int64) (hB : bfA t ld = B) (hW : wcF B = W) (h34 : W 34 = nI H) : z_Ev xs L m_X1_letAnHourGoBy (123, [some (aR 1 0), some (aR 0 23), some (aI all), some (aI mask)], [], (cm n t v ld sh o cd pl ka kb kc, D, E)) (.inl none) (cm n (upd W 34 (nI H + 1)) v ld sh o cd pl ka kb kc, D, E) 0 := by
  refine z_Ev_blk 4 (c' := (131, [some (aR 1 0), some (aR 0 23), some (aI all), some (aI mask)], [aR 0 24, aR 1 1], (cm n t v ld sh o cd pl ka kb kc, D, E))) rfl trivial ?_
  refine z_Ev_call0 (m' := m_X0_burnFuel) (as := [aR 1 1, aR 0 24]) (r := []) (c_burn_1 n t v ld sh o cd pl ka kb kc D E) rfl rfl ?_
  change z_Ev xs L _ (_, _, _, (cm n (bfA t ld) v ld sh o cd pl ka kb kc, D, E)) _ _ _
  rw [hB]
  refine z_Ev_blk 1 (c' := (135, [some (aR 1 0), some (aR 0 23), some (aI all), some (aI mask)], [aR 1 0], (cm n B v ld sh o cd pl ka kb kc, D, E))) rfl trivial ?_
  refine z_Ev_call0 (m' := m_X1_changeWarmth) (as := [aR 1 0]) (r := []) (c_changeWarmth_1 n B v ld sh o cd pl ka kb kc D E) rfl rfl ?_
  rw [hW]
  refine z_Ev_blk 3 (c' := (143, [some (aR 1 0), some (aR 0 23), some (aI all), some (aI mask)], [aI (W 34), aR 1 0], (cm n W v ld sh o cd pl ka kb kc, D, E))) rfl trivial ?_
  rw [h34]
  refine z_Ev_blk 3 (c' := (148, [some (aR 1 0), some (aR 0 23), some (aI all), some (aI mask)], [], (up3 (cm n W v ld sh o cd pl ka kb kc) 1 0 3 ((nI H) + (1 : Int32)), D, E))) rfl trivial ?_
  rw [cmt_0_3]
  exact z_Ev_vretE rfl rfl (by rfl)
theorem hourBeg_1 {xs : Nat → Int32} {L : Nat} {o_ : z_Rs} {M' : Mem} {kk : Nat} (H : Nat) (all mask : Int32) (X LD SH : Nat → Int32) (n t : Nat → Int32) (v : Nat → Nat → Int32) (ld sh o cd pl ka kb kc : Nat → Int32) (D : Nat → Nat → Int32) (E : Nat → Int64) (hV : Vs t H) (hH : H < 48) (hX : wuF t = X) (h34 : X 34 = nI H) (hA : cld X H = all) (hM : mkF (fun j => X (16 + j)) 2 = mask) (hLD : (cGv (cI X) 0 mask all ld).1 = LD) (hSH : cOb (cI X) 0 mask all ld sh = SH) (K : z_Ev xs L m_X1_letAnHourGoBy (35, [some (aR 1 0), some (aR 0 23), some (aI all), some (aI mask)], [], (cm n X v LD SH o cd pl ka kb kc, D, E)) o_ M' kk) : z_Ev xs L m_X1_letAnHourGoBy (0, [some (aR 1 0), some (aR 0 23), none, none], [], (cm n t v ld sh o cd pl ka kb kc, D, E)) o_ M' kk := by
  refine z_Ev_blk 2 (c' := (4, [some (aR 1 0), some (aR 0 23), none, none], [aR 1 1], (cm n t v ld sh o cd pl ka kb kc, D, E))) rfl trivial ?_
  refine z_Ev_call0 (m' := m_X0_warmUpAnHour) (as := [aR 1 1]) (r := []) (c_warm_1 n t v ld sh o cd pl ka kb kc D E (Vs_w (k := 0) hV (by decide)) (Vs_w (k := 1) hV (by decide)) (Vs_w (k := 2) hV (by decide)) (Vs_w (k := 3) hV (by decide))) rfl rfl ?_
  rw [hX]
  refine z_Ev_blk 3 (c' := (12, [some (aR 1 0), some (aR 0 23), none, none], [aI (X 34), aR 1 0], (cm n X v ld sh o cd pl ka kb kc, D, E))) rfl trivial ?_
  rw [h34]
  refine z_Ev_call0 (m' := m_X1_loadOf) (as := [aR 1 0, aI (nI H)]) (r := []) ((by have q := c_loadOf_1 (xs := xs) (L := L) H n X v ld sh o cd pl ka kb kc D E hH; rw [hA] at q; exact q)) rfl rfl ?_
  refine z_Ev_blk 4 (c' := (21, [some (aR 1 0), some (aR 0 23), some (aI all), none], [aI (2 : Int32), aR 1 1], (cm n X v ld sh o cd pl ka kb kc, D, E))) rfl trivial ?_
  refine z_Ev_call0 (m' := m_X0_maskOf) (as := [aR 1 1, aI (2 : Int32)]) (r := []) ((by have q := c_maskOf_1 (xs := xs) (L := L) 2 n X v ld sh o cd pl ka kb kc D E; rw [hM] at q; exact q)) rfl rfl ?_
  refine z_Ev_blk 6 (c' := (32, [some (aR 1 0), some (aR 0 23), some (aI all), some (aI mask)], [aI all, aI mask, aR 1 1, aR 0 23], (cm n X v ld sh o cd pl ka kb kc, D, E))) rfl trivial ?_
  refine z_Ev_call0 (m' := m_X3_shareOut) (as := [aR 0 23, aR 1 1, aI mask, aI all]) (r := []) (c_share_1 mask all n X v ld sh o cd pl ka kb kc D E) rfl rfl ?_
  rw [hLD, hSH]
  exact K
theorem c_anHour_1 {xs : Nat → Int32} {L : Nat} (n t : Nat → Int32) (v : Nat → Nat → Int32) (ld sh o cd pl ka kb kc : Nat → Int32) (D : Nat → Nat → Int32) (E : Nat → Int64) (H : Nat) (hV : Vs t H) (hH : H < 48) : z_Mt xs L m_X1_letAnHourGoBy [aR 1 0, aR 0 23] (cm n t v ld sh o cd pl ka kb kc, D, E) (.inl none) (cm n (goN t) v (cL t ld) (cSh t ld sh) o cd pl ka kb kc, D, E) 0 := by
  have h34 : wuF t 34 = nI H := (wuF_o (by decide)).trans (Vs_34 hV)
  have hq := c_shW (ld := ld) (sh := sh) hV hH
  have hE := fun (LD SH : Nat → Int32) => cgo_eq (ld := LD) (sh := SH) hV hH
  refine hourBeg_1 H (gAll t) (gMask t) (wuF t) (cL t ld) (cSh t ld sh) n t v ld sh o cd pl ka kb kc D E hV hH rfl h34 (cld_wu hV hH) rfl rfl rfl ?_
  have hE := hE (cL t ld) (cSh t ld sh) hq.1 hq.2.1 hq.2.2.1 hq.2.2.2.1 hq.2.2.2.2
  clear hq
  rw [← cmt_congr hE]
  clear hE
  generalize cL t ld = LD
  generalize cSh t ld sh = SH
  generalize wuF t = X at h34 ⊢
  generalize gAll t = all
  generalize gMask t = mask
  refine row_0_1 H all mask n X v LD SH o cd pl ka kb kc D E h34 hH ?_
  refine row_1_1 H all mask n _ v LD SH o cd pl ka kb kc D E (by rw [upd_lt (by omega)]; exact h34) hH ?_
  refine row_2_1 H all mask n _ v LD SH o cd pl ka kb kc D E (by rw [upd_lt (by omega), upd_lt (by omega)]; exact h34) hH ?_
  refine row_3_1 H all mask n _ v LD SH o cd pl ka kb kc D E (by rw [upd_lt (by omega), upd_lt (by omega), upd_lt (by omega)]; exact h34) hH ?_
  refine row_4_1 H all mask n _ v LD SH o cd pl ka kb kc D E (by rw [upd_lt (by omega), upd_lt (by omega), upd_lt (by omega), upd_lt (by omega)]; exact h34) hH ?_
  refine row_5_1 H all mask n _ v LD SH o cd pl ka kb kc D E (by rw [upd_lt (by omega), upd_lt (by omega), upd_lt (by omega), upd_lt (by omega), upd_lt (by omega)]; exact h34) hH ?_
  refine hourEnd_1 H all mask _ _ n (crcF X SH H all mask) v LD SH o cd pl ka kb kc D E rfl rfl ?_
  rw [wcF_o (by decide) (by decide), bfA_o (by decide), crcF_n, rcN_o (by omega)]
  exact h34
def cT (x : S3) : S3 := (goN x.1, cL x.1 x.2.1, cSh x.1 x.2.1 x.2.2)
def cTI : Nat → S3 → S3
  | 0, x => x
  | n + 1, x => cTI n (cT x)
theorem cT_1 {x : S3} : (cT x).1 = goN x.1 := by simp only [cT]
theorem cT_2 {x : S3} : (cT x).2.1 = cL x.1 x.2.1 := by simp only [cT]
theorem cT_3 {x : S3} : (cT x).2.2 = cSh x.1 x.2.1 x.2.2 := by simp only [cT]
theorem cTI_s {n : Nat} {x : S3} : cTI (n + 1) x = cTI n (cT x) := rfl
theorem cTI_1 : ∀ (n : Nat) (x : S3), (cTI n x).1 = goM n x.1
  | 0, x => rfl
  | n + 1, x => by rw [cTI_s, cTI_1 n (cT x)]; rfl
theorem min_s {a b : Nat} (ha : 0 < a) (hb : 0 < b) : min a b = min (a - 1) (b - 1) + 1 := by omega

theorem hrs_0 {xs : Nat → Int32} {L : Nat} (t : Nat → Int32) (v : Nat → Nat → Int32) (o cd pl ka kb kc : Nat → Int32) (D : Nat → Nat → Int32) (E : Nat → Int64) (m : Nat) (hm : m < 2 ^ 31) : ∀ (d i H : Nat) (x : S3), i ≤ m → Vs x.1 H → min (m - i) (48 - H) = d → z_Ev xs L m_X1_letHoursGoBy (2, [some (aR 0 0), some (aI (nI m)), some (aR 0 23), some (aI (nI i))], [], (cm x.1 t v x.2.1 x.2.2 o cd pl ka kb kc, D, E)) (.inl none) (cm ((cTI d x).1) t v ((cTI d x).2.1) ((cTI d x).2.2) o cd pl ka kb kc, D, E) 0 := by
  intro d
  induction d with
  | zero =>
    intro i H x hi hV hd
    have h34 := Vs_34 hV
    have hle := hV.2.1.2
    by_cases e : i = m
    · subst e
      refine z_Ev_blk 3 (c' := ((if nI i ≤ nI i then 27 else 7), [some (aR 0 0), some (aI (nI i)), some (aR 0 23), some (aI (nI i))], [], (cm x.1 t v x.2.1 x.2.2 o cd pl ka kb kc, D, E))) rfl trivial ?_
      refine z_Ev_if (Int32.le_refl _) ?_
      exact z_Ev_vret rfl rfl
    · have e2 : H = 48 := by omega
      subst e2
      refine z_Ev_blk 3 (c' := ((if nI m ≤ nI i then 27 else 7), [some (aR 0 0), some (aI (nI m)), some (aR 0 23), some (aI (nI i))], [], (cm x.1 t v x.2.1 x.2.2 o cd pl ka kb kc, D, E))) rfl trivial ?_
      refine z_Ev_else (nI_ge (by omega) hm) ?_
      refine z_Ev_blk 4 (c' := ((if (48 : Int32) ≤ x.1 34 then 27 else 16), [some (aR 0 0), some (aI (nI m)), some (aR 0 23), some (aI (nI i))], [], (cm x.1 t v x.2.1 x.2.2 o cd pl ka kb kc, D, E))) rfl trivial ?_
      refine z_Ev_if (by rw [h34]; decide) ?_
      exact z_Ev_vret rfl rfl
  | succ d ih =>
    intro i H x hi hV hd
    have h34 := Vs_34 hV
    refine z_Ev_blk 3 (c' := ((if nI m ≤ nI i then 27 else 7), [some (aR 0 0), some (aI (nI m)), some (aR 0 23), some (aI (nI i))], [], (cm x.1 t v x.2.1 x.2.2 o cd pl ka kb kc, D, E))) rfl trivial ?_
    refine z_Ev_else (nI_ge (by omega) hm) ?_
    refine z_Ev_blk 4 (c' := ((if (48 : Int32) ≤ x.1 34 then 27 else 16), [some (aR 0 0), some (aI (nI m)), some (aR 0 23), some (aI (nI i))], [], (cm x.1 t v x.2.1 x.2.2 o cd pl ka kb kc, D, E))) rfl trivial ?_
    refine z_Ev_else (by rw [h34]; exact nI_ge (b := 48) (by omega) (by decide)) ?_
    refine z_Ev_blk 2 (c' := (18, [some (aR 0 0), some (aI (nI m)), some (aR 0 23), some (aI (nI i))], [aR 0 23, aR 0 0], (cm x.1 t v x.2.1 x.2.2 o cd pl ka kb kc, D, E))) rfl trivial ?_
    refine z_Ev_call0 (m' := m_X1_letAnHourGoBy) (as := [aR 0 0, aR 0 23]) (r := []) (c_anHour_0 x.1 t v x.2.1 x.2.2 o cd pl ka kb kc D E H hV (by omega)) rfl rfl ?_
    refine z_Ev_blk 2 (c' := (2, [some (aR 0 0), some (aI (nI m)), some (aR 0 23), some (aI (nI i + 1))], [], (cm (goN x.1) t v (cL x.1 x.2.1) (cSh x.1 x.2.1 x.2.2) o cd pl ka kb kc, D, E))) rfl trivial ?_
    rw [nI_1, cTI_s]
    have K := ih (i + 1) (H + 1) (cT x) (by omega) (Vs_go hV (by omega)) (by omega)
    rw [cT_1, cT_2, cT_3] at K
    exact K
theorem c_hours_0 {xs : Nat → Int32} {L : Nat} (n t : Nat → Int32) (v : Nat → Nat → Int32) (ld sh o cd pl ka kb kc : Nat → Int32) (D : Nat → Nat → Int32) (E : Nat → Int64) (m H : Nat) (hm : m < 2 ^ 31) (hV : Vs n H) : z_Mt xs L m_X1_letHoursGoBy [aR 0 0, aI (nI m), aR 0 23] (cm n t v ld sh o cd pl ka kb kc, D, E) (.inl none) (cm ((cTI (min (m - 0) (48 - H)) (n, ld, sh)).1) t v ((cTI (min (m - 0) (48 - H)) (n, ld, sh)).2.1) ((cTI (min (m - 0) (48 - H)) (n, ld, sh)).2.2) o cd pl ka kb kc, D, E) 0 := by
  refine z_Ev_blk 2 (c' := (2, [some (aR 0 0), some (aI (nI m)), some (aR 0 23), some (aI (0 : Int32))], [], (cm n t v ld sh o cd pl ka kb kc, D, E))) rfl trivial ?_
  rw [show (0 : Int32) = nI 0 from rfl]
  exact hrs_0 t v o cd pl ka kb kc D E m hm _ 0 H (n, ld, sh) (Nat.zero_le _) hV rfl
theorem hrs_1 {xs : Nat → Int32} {L : Nat} (n : Nat → Int32) (v : Nat → Nat → Int32) (o cd pl ka kb kc : Nat → Int32) (D : Nat → Nat → Int32) (E : Nat → Int64) (m : Nat) (hm : m < 2 ^ 31) : ∀ (d i H : Nat) (x : S3), i ≤ m → Vs x.1 H → min (m - i) (48 - H) = d → z_Ev xs L m_X1_letHoursGoBy (2, [some (aR 1 0), some (aI (nI m)), some (aR 0 23), some (aI (nI i))], [], (cm n x.1 v x.2.1 x.2.2 o cd pl ka kb kc, D, E)) (.inl none) (cm n ((cTI d x).1) v ((cTI d x).2.1) ((cTI d x).2.2) o cd pl ka kb kc, D, E) 0 := by
  intro d
  induction d with
  | zero =>
    intro i H x hi hV hd
    have h34 := Vs_34 hV
    have hle := hV.2.1.2
    by_cases e : i = m
    · subst e
      refine z_Ev_blk 3 (c' := ((if nI i ≤ nI i then 27 else 7), [some (aR 1 0), some (aI (nI i)), some (aR 0 23), some (aI (nI i))], [], (cm n x.1 v x.2.1 x.2.2 o cd pl ka kb kc, D, E))) rfl trivial ?_
      refine z_Ev_if (Int32.le_refl _) ?_
      exact z_Ev_vret rfl rfl
    · have e2 : H = 48 := by omega
      subst e2
      refine z_Ev_blk 3 (c' := ((if nI m ≤ nI i then 27 else 7), [some (aR 1 0), some (aI (nI m)), some (aR 0 23), some (aI (nI i))], [], (cm n x.1 v x.2.1 x.2.2 o cd pl ka kb kc, D, E))) rfl trivial ?_
      refine z_Ev_else (nI_ge (by omega) hm) ?_
      refine z_Ev_blk 4 (c' := ((if (48 : Int32) ≤ x.1 34 then 27 else 16), [some (aR 1 0), some (aI (nI m)), some (aR 0 23), some (aI (nI i))], [], (cm n x.1 v x.2.1 x.2.2 o cd pl ka kb kc, D, E))) rfl trivial ?_
      refine z_Ev_if (by rw [h34]; decide) ?_
      exact z_Ev_vret rfl rfl
  | succ d ih =>
    intro i H x hi hV hd
    have h34 := Vs_34 hV
    refine z_Ev_blk 3 (c' := ((if nI m ≤ nI i then 27 else 7), [some (aR 1 0), some (aI (nI m)), some (aR 0 23), some (aI (nI i))], [], (cm n x.1 v x.2.1 x.2.2 o cd pl ka kb kc, D, E))) rfl trivial ?_
    refine z_Ev_else (nI_ge (by omega) hm) ?_
    refine z_Ev_blk 4 (c' := ((if (48 : Int32) ≤ x.1 34 then 27 else 16), [some (aR 1 0), some (aI (nI m)), some (aR 0 23), some (aI (nI i))], [], (cm n x.1 v x.2.1 x.2.2 o cd pl ka kb kc, D, E))) rfl trivial ?_
    refine z_Ev_else (by rw [h34]; exact nI_ge (b := 48) (by omega) (by decide)) ?_
    refine z_Ev_blk 2 (c' := (18, [some (aR 1 0), some (aI (nI m)), some (aR 0 23), some (aI (nI i))], [aR 0 23, aR 1 0], (cm n x.1 v x.2.1 x.2.2 o cd pl ka kb kc, D, E))) rfl trivial ?_
    refine z_Ev_call0 (m' := m_X1_letAnHourGoBy) (as := [aR 1 0, aR 0 23]) (r := []) (c_anHour_1 n x.1 v x.2.1 x.2.2 o cd pl ka kb kc D E H hV (by omega)) rfl rfl ?_
    refine z_Ev_blk 2 (c' := (2, [some (aR 1 0), some (aI (nI m)), some (aR 0 23), some (aI (nI i + 1))], [], (cm n (goN x.1) v (cL x.1 x.2.1) (cSh x.1 x.2.1 x.2.2) o cd pl ka kb kc, D, E))) rfl trivial ?_
    rw [nI_1, cTI_s]
    have K := ih (i + 1) (H + 1) (cT x) (by omega) (Vs_go hV (by omega)) (by omega)
    rw [cT_1, cT_2, cT_3] at K
    exact K
theorem c_hours_1 {xs : Nat → Int32} {L : Nat} (n t : Nat → Int32) (v : Nat → Nat → Int32) (ld sh o cd pl ka kb kc : Nat → Int32) (D : Nat → Nat → Int32) (E : Nat → Int64) (m H : Nat) (hm : m < 2 ^ 31) (hV : Vs t H) : z_Mt xs L m_X1_letHoursGoBy [aR 1 0, aI (nI m), aR 0 23] (cm n t v ld sh o cd pl ka kb kc, D, E) (.inl none) (cm n ((cTI (min (m - 0) (48 - H)) (t, ld, sh)).1) v ((cTI (min (m - 0) (48 - H)) (t, ld, sh)).2.1) ((cTI (min (m - 0) (48 - H)) (t, ld, sh)).2.2) o cd pl ka kb kc, D, E) 0 := by
  refine z_Ev_blk 2 (c' := (2, [some (aR 1 0), some (aI (nI m)), some (aR 0 23), some (aI (0 : Int32))], [], (cm n t v ld sh o cd pl ka kb kc, D, E))) rfl trivial ?_
  rw [show (0 : Int32) = nI 0 from rfl]
  exact hrs_1 n v o cd pl ka kb kc D E m hm _ 0 H (t, ld, sh) (Nat.zero_le _) hV rfl

