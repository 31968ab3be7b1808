/-! THE CLASS: what would be, in words of the island -/
theorem can_n {s : Nat → Int32} {m : Int32} (hm : m ∈ m16) : m &&& mkF (fun j => s (16 + j)) 3 = 0 ↔ ¬ canF s m = 0 := by
  unfold mkF mkS canF cnS
  by_cases h0 : s 16 = 3 <;> by_cases h1 : s 17 = 3 <;> by_cases h2 : s 18 = 3 <;> by_cases h3 : s 19 = 3 <;> simp only [h0, h1, h2, h3, if_true, if_false] <;> revert m <;> decide +kernel
def lsC (x : Int32 × Int32) : Int32 := if x.1 = -1 then -1 else x.2
theorem nI_m1 {i : Nat} (h : i < 16) : ¬ nI i = -1 := fun z => by
  have q := nI_toInt (n := i) (by omega)
  rw [z] at q
  have : (-1 : Int32).toInt = -1 := rfl
  omega
theorem cp_all {xs : Nat → Int32} {L : Nat} (h y : Nat) (Y A0 : Int32) (n t : Nat → Int32) (v : Nat → Nat → Int32) (o cd pl ka kb kc : Nat → Int32) (D : Nat → Nat → Int32) (E : Nat → Int64) (hk : ∀ k, k < 4 → okk n k) (hA0 : 0 ≤ A0.toInt ∧ A0.toInt ≤ 1800) (R : Int32 × Int32 → Int32)
    (hend : ∀ (ld sh : Nat → Int32) (x : Int32 × Int32), z_Ev xs L m_X4_cheapest (55, [some (aR 0 16), some (aI (nI h)), some (aI Y), some (aI (mkF (fun j => n (16 + j)) 3)), some (aI A0), some (aI x.1), some (aI (lsC x)), some (aI (nI 16)), none], [], (cm n t v ld sh o cd pl ka kb kc, D, E)) (.inl (some (aI (R x)))) (cm n t v ld sh o cd pl ka kb kc, D, E) 0) : ∀ (d i : Nat) (x : Int32 × Int32) (ld sh : Nat → Int32), i + d = 16 → ∃ ld' sh' : Nat → Int32, z_Ev xs L m_X4_cheapest (55, [some (aR 0 16), some (aI (nI h)), some (aI Y), some (aI (mkF (fun j => n (16 + j)) 3)), some (aI A0), some (aI x.1), some (aI (lsC x)), some (aI (nI i)), none], [], (cm n t v ld sh o cd pl ka kb kc, D, E)) (.inl (some (aI (R (chI n A0 d i x))))) (cm n t v ld' sh' o cd pl ka kb kc, D, E) 0 := by
  intro d
  induction d with
  | zero =>
    intro i x ld sh hd
    have e : i = 16 := by omega
    subst e
    exact ⟨ld, sh, hend ld sh x⟩
  | succ d ih =>
    intro i x ld sh hd
    have hm := m16_nI (i := i) (by omega)
    show ∃ ld' sh' : Nat → Int32, z_Ev xs L m_X4_cheapest _ (.inl (some (aI (R (chI n A0 d (i + 1) (chT n A0 i x)))))) _ 0
    by_cases hs : nI i &&& mkF (fun j => n (16 + j)) 3 = 0
    · have hc := (can_n hm).mp hs
      have q := c_sh (ld := ld) (sh := sh) (due := A0) hk hm hA0
      have hF : sFu (md g0 n) (cGv (cI n) 0 (nI i) A0 ld).1 = shO n A0 (nI i) 12 := by
        unfold shO
        rw [oa_12]
        exact sFu_c q.1
      have ex : ((if ¬ cOb (cI n) 0 (nI i) A0 ld sh 4 = 0 ∧ (x.1 = -1 ∨ shO n A0 (nI i) 12 < lsC x) then nI i else x.1) = (chT n A0 i x).1) ∧ ((if ¬ cOb (cI n) 0 (nI i) A0 ld sh 4 = 0 ∧ (x.1 = -1 ∨ shO n A0 (nI i) 12 < lsC x) then shO n A0 (nI i) 12 else lsC x) = lsC (chT n A0 i x)) := by
        rw [q.2.2.2.2]
        have hiff : (¬ shO n A0 (nI i) 11 = 0 ∧ (x.1 = -1 ∨ shO n A0 (nI i) 12 < lsC x)) ↔ isF (canF n (nI i)) (shO n A0 (nI i) 11) x.1 (shO n A0 (nI i) 12) x.2 = true := by
          unfold isF
          rw [decide_eq_true_iff]
          by_cases e1 : x.1 = -1
          · simp [e1, hc]
          · simp [e1, hc, lsC]
        unfold chT
        by_cases e2 : ¬ shO n A0 (nI i) 11 = 0 ∧ (x.1 = -1 ∨ shO n A0 (nI i) 12 < lsC x)
        · rw [if_pos e2, if_pos e2, if_pos (hiff.mp e2)]
          refine ⟨rfl, ?_⟩
          unfold lsC
          rw [if_neg (nI_m1 (by omega))]
        · rw [if_neg e2, if_neg e2, if_neg (fun z => e2 (hiff.mpr z))]
          exact ⟨rfl, rfl⟩
      obtain ⟨ld', sh', K⟩ := ih (i + 1) (chT n A0 i x) (cGv (cI n) 0 (nI i) A0 ld).1 (cOb (cI n) 0 (nI i) A0 ld sh) (by omega)
      rw [← ex.1, ← ex.2] at K
      exact ⟨ld', sh', cp_do i (nI h) Y (mkF (fun j => n (16 + j)) 3) A0 x.1 (lsC x) (shO n A0 (nI i) 12) (cGv (cI n) 0 (nI i) A0 ld).1 (cOb (cI n) 0 (nI i) A0 ld sh) n t v ld sh o cd pl ka kb kc D E (by omega) hs rfl rfl hF K⟩
    · have hc : canF n (nI i) = 0 := by
        by_cases z : canF n (nI i) = 0
        · exact z
        · exact absurd ((can_n hm).mpr z) hs
      have ex : chT n A0 i x = x := by
        unfold chT isF
        rw [hc]
        simp
      rw [ex]
      obtain ⟨ld', sh', K⟩ := ih (i + 1) x ld sh (by omega)
      exact ⟨ld', sh', cp_skip i (nI h) Y (mkF (fun j => n (16 + j)) 3) A0 x.1 (lsC x) n t v ld sh o cd pl ka kb kc D E (by omega) hs K⟩
theorem k_cheapest {xs : Nat → Int32} {L : Nat} (H h y : Nat) (n : Nat → Int32) (v : Nat → Nat → Int32) (o cd pl ka kb kc : Nat → Int32) (D : Nat → Nat → Int32) (E : Nat → Int64) (hV : Vs n H) (hh : h < 48) (hy : y < 2) : KS xs L n v o cd pl ka kb kc D E m_X4_cheapest [aR 0 16, aI (nI h), aI (nI y)] (aI (chV n h y)) := by
  intro t ld sh
  have hc : y = 0 ∨ y = 1 := by omega
  rcases hc with e | e <;> subst e
  · obtain ⟨ld', sh', K⟩ := cp_all (xs := xs) (L := L) h 0 0 (lodF n (nI h)) n t v o cd pl ka kb kc D E hV.1 (lod_b hV hh) (fun x => x.1) (fun ld sh x => cp_end_0 (nI h) _ _ _ _ n t v ld sh o cd pl ka kb kc D E) 16 0 (-1, 0) ld sh rfl
    refine ⟨t, ld', sh', cp_beg_0 h (lodF n (nI h)) n t v ld sh o cd pl ka kb kc D E hh (cld_eq (Vs_b6 hV) hh) ?_⟩
    unfold chV
    rw [if_pos rfl, show (if (chI n (lodF n (nI h)) 16 0 (-1, 0)).1 = -1 then -1 else (chI n (lodF n (nI h)) 16 0 (-1, 0)).1) = (chI n (lodF n (nI h)) 16 0 (-1, 0)).1 from by
      by_cases z : (chI n (lodF n (nI h)) 16 0 (-1, 0)).1 = -1
      · rw [if_pos z, z]
      · rw [if_neg z]]
    exact K
  · obtain ⟨ld', sh', K⟩ := cp_all (xs := xs) (L := L) h 1 1 (lodF n (nI h)) n t v o cd pl ka kb kc D E hV.1 (lod_b hV hh) lsC (fun ld sh x => cp_end_1 (nI h) _ _ _ _ n t v ld sh o cd pl ka kb kc D E) 16 0 (-1, 0) ld sh rfl
    refine ⟨t, ld', sh', cp_beg_1 h (lodF n (nI h)) n t v ld sh o cd pl ka kb kc D E hh (cld_eq (Vs_b6 hV) hh) ?_⟩
    unfold chV
    rw [if_neg (show ¬ (1 : Nat) = 0 by decide)]
    exact K
theorem Vs_end {s : Nat → Int32} {H : Nat} (hV : Vs s H) : Vs (goM (48 - H) s) 48 := by
  have q := Vs_goM (48 - H) hV (by have := hV.2.1.2; omega)
  rw [show H + (48 - H) = 48 by have := hV.2.1.2; omega] at q
  exact q
theorem Vs_dk {s : Nat → Int32} {H : Nat} (hV : Vs s H) : dkN s H = s 38 := hV.2.2.2.2.2.2.2.2.1.symm
theorem k_firstDark {xs : Nat → Int32} {L : Nat} (H : Nat) (n : Nat → Int32) (v : Nat → Nat → Int32) (o cd pl ka kb kc : Nat → Int32) (D : Nat → Nat → Int32) (E : Nat → Int64) (hV : Vs n H) : KS xs L n v o cd pl ka kb kc D E m_X4_firstDark [aR 0 16] (aI (fdV n H)) := by
  intro t ld sh
  have K := c_firstDark0 (xs := xs) (L := L) H (cTI (48 - H) (n, ld, sh)).1 (cTI (48 - H) (n, ld, sh)).2.1 (cTI (48 - H) (n, ld, sh)).2.2 n t v ld sh o cd pl ka kb kc D E hV hV.2.1.1 hV.2.1.2 (Vs_b5 hV) (Vs_b6 hV) rfl
  rw [cTI_1] at K
  exact ⟨_, _, _, K⟩
theorem sh_not {s : Nat → Int32} {H : Nat} (hV : Vs s H) : (s 37 = 0 → (1 : Int32) = 1 - s 37) ∧ (¬ s 37 = 0 → (0 : Int32) = 1 - s 37) := by
  rcases isB_or (Vs_b6 hV) with e | e <;> rw [e]
  · exact ⟨fun _ => rfl, fun z => absurd rfl z⟩
  · exact ⟨fun z => absurd z (by decide), fun _ => rfl⟩
theorem k_ifShed {xs : Nat → Int32} {L : Nat} (H : Nat) (n : Nat → Int32) (v : Nat → Nat → Int32) (o cd pl ka kb kc : Nat → Int32) (D : Nat → Nat → Int32) (E : Nat → Int64) (hV : Vs n H) : KS xs L n v o cd pl ka kb kc D E m_X4_ifShed [aR 0 16] (aI (ifsV n H)) := by
  intro t ld sh
  unfold ifsV
  have hV2 := Vs_shed hV
  have z1 := Vs_end hV
  have z2 := Vs_end hV2
  rw [← Vs_dk z1, ← Vs_dk z2]
  obtain ⟨e1, e2⟩ := sh_not hV
  by_cases q : n 37 = 0
  · rw [← e1 q] at hV2 z2 ⊢
    have K := c_ifShed0_1 (xs := xs) (L := L) H (cTI (48 - H) (n, ld, sh)).1 (cTI (48 - H) (n, ld, sh)).2.1 (cTI (48 - H) (n, ld, sh)).2.2 (cTI (48 - H) (upd n 37 1, (cTI (48 - H) (n, ld, sh)).2.1, (cTI (48 - H) (n, ld, sh)).2.2)).1 (cTI (48 - H) (upd n 37 1, (cTI (48 - H) (n, ld, sh)).2.1, (cTI (48 - H) (n, ld, sh)).2.2)).2.1 (cTI (48 - H) (upd n 37 1, (cTI (48 - H) (n, ld, sh)).2.1, (cTI (48 - H) (n, ld, sh)).2.2)).2.2 n t v ld sh o cd pl ka kb kc D E hV (Vs_b5 hV) (Vs_b6 hV) rfl (by rw [cTI_1]; exact Vs_34 z1) q hV2 rfl (by rw [cTI_1]; exact Vs_34 z2)
    rw [cTI_1, cTI_1] at K
    exact ⟨_, _, _, K⟩
  · rw [← e2 q] at hV2 z2 ⊢
    have K := c_ifShed0_0 (xs := xs) (L := L) H (cTI (48 - H) (n, ld, sh)).1 (cTI (48 - H) (n, ld, sh)).2.1 (cTI (48 - H) (n, ld, sh)).2.2 (cTI (48 - H) (upd n 37 0, (cTI (48 - H) (n, ld, sh)).2.1, (cTI (48 - H) (n, ld, sh)).2.2)).1 (cTI (48 - H) (upd n 37 0, (cTI (48 - H) (n, ld, sh)).2.1, (cTI (48 - H) (n, ld, sh)).2.2)).2.1 (cTI (48 - H) (upd n 37 0, (cTI (48 - H) (n, ld, sh)).2.1, (cTI (48 - H) (n, ld, sh)).2.2)).2.2 n t v ld sh o cd pl ka kb kc D E hV (Vs_b5 hV) (Vs_b6 hV) rfl (by rw [cTI_1]; exact Vs_34 z1) q hV2 rfl (by rw [cTI_1]; exact Vs_34 z2)
    rw [cTI_1, cTI_1] at K
    exact ⟨_, _, _, K⟩
/-- the loop of bestStart, from the set k on -/
def BS (xs : Nat → Int32) (L : Nat) (n : Nat → Int32) (v : Nat → Nat → Int32) (o cd pl ka kb kc : Nat → Int32) (D : Nat → Nat → Int32) (E : Nat → Int64) (k : Int32) (x : Int32 × (Int32 × Int32)) (r : Int32) : Prop := ∀ t ld sh : Nat → Int32, ∃ t' ld' sh' : Nat → Int32, z_Ev xs L m_X4_bestStart (39, [some (aR 0 16), some (aI x.1), some (aI x.2.1), some (aI x.2.2), some (aI k), none, none, none], [], (cm n t v ld sh o cd pl ka kb kc, D, E)) (.inl (some (aI r))) (cm n t' v ld' sh' o cd pl ka kb kc, D, E) 0
theorem bs_0 {xs : Nat → Int32} {L : Nat} (H : Nat) (n : Nat → Int32) (v : Nat → Nat → Int32) (o cd pl ka kb kc : Nat → Int32) (D : Nat → Nat → Int32) (E : Nat → Int64) (hV : Vs n H) (x : Int32 × (Int32 × Int32)) (r : Int32) (K : BS xs L n v o cd pl ka kb kc D E 1 (bsT n H 0 x) r) : BS xs L n v o cd pl ka kb kc D E 0 x r := by
  intro t ld sh
  by_cases hp : n 16 = 0
  · have hVb := Vs_bg (k := 0) hV (by decide)
    have zb := Vs_end hVb
    obtain ⟨t', ld', sh', Q⟩ := K (cTI (48 - H) (bgF n 0, ld, sh)).1 (cTI (48 - H) (bgF n 0, ld, sh)).2.1 (cTI (48 - H) (bgF n 0, ld, sh)).2.2
    refine ⟨t', ld', sh', bs_do_0 x.1 x.2.1 x.2.2 (goM (48 - H) (bgF n 0) 38) (fulF (goM (48 - H) (bgF n 0))) H (cTI (48 - H) (bgF n 0, ld, sh)).1 (cTI (48 - H) (bgF n 0, ld, sh)).2.1 (cTI (48 - H) (bgF n 0, ld, sh)).2.2 n t v ld sh o cd pl ka kb kc D E hp hVb (Vs_b5 hV) (Vs_b6 hV) rfl (by rw [cTI_1]; exact Vs_34 zb) (by rw [cTI_1]; exact Vs_dk zb) (by rw [cTI_1]) ?_⟩
    have e : bsT n H 0 x = (if goM (48 - H) (bgF n 0) 38 < x.1 ∨ (¬ x.2.2 = -1 ∧ goM (48 - H) (bgF n 0) 38 = x.1 ∧ fulF (goM (48 - H) (bgF n 0)) < x.2.1) then (goM (48 - H) (bgF n 0) 38, fulF (goM (48 - H) (bgF n 0)), nI 0) else x) := if_pos hp
    rw [e] at Q
    by_cases c : goM (48 - H) (bgF n 0) 38 < x.1 ∨ (¬ x.2.2 = -1 ∧ goM (48 - H) (bgF n 0) 38 = x.1 ∧ fulF (goM (48 - H) (bgF n 0)) < x.2.1)
    · rw [if_pos c] at Q
      rw [if_pos c, if_pos c, if_pos c]
      exact Q
    · rw [if_neg c] at Q
      rw [if_neg c, if_neg c, if_neg c]
      exact Q
  · obtain ⟨t', ld', sh', Q⟩ := K t ld sh
    have e : bsT n H 0 x = x := if_neg hp
    rw [e] at Q
    exact ⟨t', ld', sh', bs_skip_0 x.1 x.2.1 x.2.2 n t v ld sh o cd pl ka kb kc D E hp Q⟩
theorem bs_1 {xs : Nat → Int32} {L : Nat} (H : Nat) (n : Nat → Int32) (v : Nat → Nat → Int32) (o cd pl ka kb kc : Nat → Int32) (D : Nat → Nat → Int32) (E : Nat → Int64) (hV : Vs n H) (x : Int32 × (Int32 × Int32)) (r : Int32) (K : BS xs L n v o cd pl ka kb kc D E 2 (bsT n H 1 x) r) : BS xs L n v o cd pl ka kb kc D E 1 x r := by
  intro t ld sh
  by_cases hp : n 17 = 0
  · have hVb := Vs_bg (k := 1) hV (by decide)
    have zb := Vs_end hVb
    obtain ⟨t', ld', sh', Q⟩ := K (cTI (48 - H) (bgF n 1, ld, sh)).1 (cTI (48 - H) (bgF n 1, ld, sh)).2.1 (cTI (48 - H) (bgF n 1, ld, sh)).2.2
    refine ⟨t', ld', sh', bs_do_1 x.1 x.2.1 x.2.2 (goM (48 - H) (bgF n 1) 38) (fulF (goM (48 - H) (bgF n 1))) H (cTI (48 - H) (bgF n 1, ld, sh)).1 (cTI (48 - H) (bgF n 1, ld, sh)).2.1 (cTI (48 - H) (bgF n 1, ld, sh)).2.2 n t v ld sh o cd pl ka kb kc D E hp hVb (Vs_b5 hV) (Vs_b6 hV) rfl (by rw [cTI_1]; exact Vs_34 zb) (by rw [cTI_1]; exact Vs_dk zb) (by rw [cTI_1]) ?_⟩
    have e : bsT n H 1 x = (if goM (48 - H) (bgF n 1) 38 < x.1 ∨ (¬ x.2.2 = -1 ∧ goM (48 - H) (bgF n 1) 38 = x.1 ∧ fulF (goM (48 - H) (bgF n 1)) < x.2.1) then (goM (48 - H) (bgF n 1) 38, fulF (goM (48 - H) (bgF n 1)), nI 1) else x) := if_pos hp
    rw [e] at Q
    by_cases c : goM (48 - H) (bgF n 1) 38 < x.1 ∨ (¬ x.2.2 = -1 ∧ goM (48 - H) (bgF n 1) 38 = x.1 ∧ fulF (goM (48 - H) (bgF n 1)) < x.2.1)
    · rw [if_pos c] at Q
      rw [if_pos c, if_pos c, if_pos c]
      exact Q
    · rw [if_neg c] at Q
      rw [if_neg c, if_neg c, if_neg c]
      exact Q
  · obtain ⟨t', ld', sh', Q⟩ := K t ld sh
    have e : bsT n H 1 x = x := if_neg hp
    rw [e] at Q
    exact ⟨t', ld', sh', bs_skip_1 x.1 x.2.1 x.2.2 n t v ld sh o cd pl ka kb kc D E hp Q⟩
theorem bs_2 {xs : Nat → Int32} {L : Nat} (H : Nat) (n : Nat → Int32) (v : Nat → Nat → Int32) (o cd pl ka kb kc : Nat → Int32) (D : Nat → Nat → Int32) (E : Nat → Int64) (hV : Vs n H) (x : Int32 × (Int32 × Int32)) (r : Int32) (K : BS xs L n v o cd pl ka kb kc D E 3 (bsT n H 2 x) r) : BS xs L n v o cd pl ka kb kc D E 2 x r := by
  intro t ld sh
  by_cases hp : n 18 = 0
  · have hVb := Vs_bg (k := 2) hV (by decide)
    have zb := Vs_end hVb
    obtain ⟨t', ld', sh', Q⟩ := K (cTI (48 - H) (bgF n 2, ld, sh)).1 (cTI (48 - H) (bgF n 2, ld, sh)).2.1 (cTI (48 - H) (bgF n 2, ld, sh)).2.2
    refine ⟨t', ld', sh', bs_do_2 x.1 x.2.1 x.2.2 (goM (48 - H) (bgF n 2) 38) (fulF (goM (48 - H) (bgF n 2))) H (cTI (48 - H) (bgF n 2, ld, sh)).1 (cTI (48 - H) (bgF n 2, ld, sh)).2.1 (cTI (48 - H) (bgF n 2, ld, sh)).2.2 n t v ld sh o cd pl ka kb kc D E hp hVb (Vs_b5 hV) (Vs_b6 hV) rfl (by rw [cTI_1]; exact Vs_34 zb) (by rw [cTI_1]; exact Vs_dk zb) (by rw [cTI_1]) ?_⟩
    have e : bsT n H 2 x = (if goM (48 - H) (bgF n 2) 38 < x.1 ∨ (¬ x.2.2 = -1 ∧ goM (48 - H) (bgF n 2) 38 = x.1 ∧ fulF (goM (48 - H) (bgF n 2)) < x.2.1) then (goM (48 - H) (bgF n 2) 38, fulF (goM (48 - H) (bgF n 2)), nI 2) else x) := if_pos hp
    rw [e] at Q
    by_cases c : goM (48 - H) (bgF n 2) 38 < x.1 ∨ (¬ x.2.2 = -1 ∧ goM (48 - H) (bgF n 2) 38 = x.1 ∧ fulF (goM (48 - H) (bgF n 2)) < x.2.1)
    · rw [if_pos c] at Q
      rw [if_pos c, if_pos c, if_pos c]
      exact Q
    · rw [if_neg c] at Q
      rw [if_neg c, if_neg c, if_neg c]
      exact Q
  · obtain ⟨t', ld', sh', Q⟩ := K t ld sh
    have e : bsT n H 2 x = x := if_neg hp
    rw [e] at Q
    exact ⟨t', ld', sh', bs_skip_2 x.1 x.2.1 x.2.2 n t v ld sh o cd pl ka kb kc D E hp Q⟩
theorem bs_3 {xs : Nat → Int32} {L : Nat} (H : Nat) (n : Nat → Int32) (v : Nat → Nat → Int32) (o cd pl ka kb kc : Nat → Int32) (D : Nat → Nat → Int32) (E : Nat → Int64) (hV : Vs n H) (x : Int32 × (Int32 × Int32)) (r : Int32) (K : BS xs L n v o cd pl ka kb kc D E 4 (bsT n H 3 x) r) : BS xs L n v o cd pl ka kb kc D E 3 x r := by
  intro t ld sh
  by_cases hp : n 19 = 0
  · have hVb := Vs_bg (k := 3) hV (by decide)
    have zb := Vs_end hVb
    obtain ⟨t', ld', sh', Q⟩ := K (cTI (48 - H) (bgF n 3, ld, sh)).1 (cTI (48 - H) (bgF n 3, ld, sh)).2.1 (cTI (48 - H) (bgF n 3, ld, sh)).2.2
    refine ⟨t', ld', sh', bs_do_3 x.1 x.2.1 x.2.2 (goM (48 - H) (bgF n 3) 38) (fulF (goM (48 - H) (bgF n 3))) H (cTI (48 - H) (bgF n 3, ld, sh)).1 (cTI (48 - H) (bgF n 3, ld, sh)).2.1 (cTI (48 - H) (bgF n 3, ld, sh)).2.2 n t v ld sh o cd pl ka kb kc D E hp hVb (Vs_b5 hV) (Vs_b6 hV) rfl (by rw [cTI_1]; exact Vs_34 zb) (by rw [cTI_1]; exact Vs_dk zb) (by rw [cTI_1]) ?_⟩
    have e : bsT n H 3 x = (if goM (48 - H) (bgF n 3) 38 < x.1 ∨ (¬ x.2.2 = -1 ∧ goM (48 - H) (bgF n 3) 38 = x.1 ∧ fulF (goM (48 - H) (bgF n 3)) < x.2.1) then (goM (48 - H) (bgF n 3) 38, fulF (goM (48 - H) (bgF n 3)), nI 3) else x) := if_pos hp
    rw [e] at Q
    by_cases c : goM (48 - H) (bgF n 3) 38 < x.1 ∨ (¬ x.2.2 = -1 ∧ goM (48 - H) (bgF n 3) 38 = x.1 ∧ fulF (goM (48 - H) (bgF n 3)) < x.2.1)
    · rw [if_pos c] at Q
      rw [if_pos c, if_pos c, if_pos c]
      exact Q
    · rw [if_neg c] at Q
      rw [if_neg c, if_neg c, if_neg c]
      exact Q
  · obtain ⟨t', ld', sh', Q⟩ := K t ld sh
    have e : bsT n H 3 x = x := if_neg hp
    rw [e] at Q
    exact ⟨t', ld', sh', bs_skip_3 x.1 x.2.1 x.2.2 n t v ld sh o cd pl ka kb kc D E hp Q⟩
theorem k_bestStart {xs : Nat → Int32} {L : Nat} (H : Nat) (n : Nat → Int32) (v : Nat → Nat → Int32) (o cd pl ka kb kc : Nat → Int32) (D : Nat → Nat → Int32) (E : Nat → Int64) (hV : Vs n H) : KS xs L n v o cd pl ka kb kc D E m_X4_bestStart [aR 0 16] (aI (bsV n H)) := by
  intro t ld sh
  have z1 := Vs_end hV
  have Q : BS xs L n v o cd pl ka kb kc D E 0 (goM (48 - H) n 38, 0, -1) (bsV n H) := by
    refine bs_0 H n v o cd pl ka kb kc D E hV _ _ ?_
    refine bs_1 H n v o cd pl ka kb kc D E hV _ _ ?_
    refine bs_2 H n v o cd pl ka kb kc D E hV _ _ ?_
    refine bs_3 H n v o cd pl ka kb kc D E hV _ _ ?_
    intro t ld sh
    exact ⟨t, ld, sh, bs_end _ _ _ n t v ld sh o cd pl ka kb kc D E⟩
  obtain ⟨t', ld', sh', K⟩ := Q (cTI (48 - H) (n, ld, sh)).1 (cTI (48 - H) (n, ld, sh)).2.1 (cTI (48 - H) (n, ld, sh)).2.2
  refine ⟨t', ld', sh', bs_beg H (cTI (48 - H) (n, ld, sh)).1 (cTI (48 - H) (n, ld, sh)).2.1 (cTI (48 - H) (n, ld, sh)).2.2 n t v ld sh o cd pl ka kb kc D E hV (Vs_b5 hV) (Vs_b6 hV) rfl (by rw [cTI_1]; exact Vs_34 z1) ?_⟩
  have e : dkN (cTI (48 - H) (n, ld, sh)).1 48 = goM (48 - H) n 38 := by rw [cTI_1]; exact Vs_dk z1
  rw [e]
  exact K

