/-! THE MODEL: looks, in words of the island -/
def eU (E : Nat → Int64) (h : Int64) : Nat → Int64 := vp_updL E 0 h
theorem eU_0 {E : Nat → Int64} {h : Int64} : eU E h 0 = h := by
  unfold eU vp_updL
  rw [if_pos rfl]
theorem eU_U {E : Nat → Int64} {h h' : Int64} : vp_updL (eU E h) 0 h' = eU E h' := by
  funext j
  unfold eU vp_updL
  split <;> rfl
-- looks of the model
theorem n_counted {xs : Nat → Int32} {L : Nat} (H w : Nat) (C : Nat → Nat → Nat → Int32) (s v t : Nat → Int32) (E : Nat → Int64) (x : Int32) (hV : Vs s H) (hw : w < 15) : KM xs L C s v t E x m_X5_counted [aR 0 32, aI (nI w)] (aI (cntV s x w)) := by
  intro a ld ob hx
  have hs := hV.2.1.1
  have hH := hV.2.1.2
  have ho : ∀ k, k < 8 → nOb s ld ob k = ob k := fun k hk => by unfold nOb; exact oa_o hk
  have e8 : nOb s ld ob 8 = shO s (aA s) (runF s) 8 := by unfold nOb; exact sOb_8
  have e9 : nOb s ld ob 9 = shO s (aA s) (runF s) 9 := by unfold nOb; exact sOb_9
  have e10 : nOb s ld ob 10 = shO s (aA s) (runF s) 10 := by unfold nOb; exact sOb_10
  have e11 : nOb s ld ob 11 = shO s (aA s) (runF s) 11 := by unfold nOb; exact sOb_11
  refine ⟨a, nLd s ld, nOb s ld ob, ho, ?_⟩
  have hc : w = 0 ∨ w = 1 ∨ w = 2 ∨ w = 3 ∨ w = 4 ∨ w = 5 ∨ w = 6 ∨ w = 7 ∨ w = 8 ∨ w = 9 ∨ w = 10 ∨ w = 11 ∨ w = 12 ∨ w = 13 ∨ w = 14 := by omega
  rcases hc with e | e | e | e | e | e | e | e | e | e | e | e | e | e | e <;> subst e
  · have K := m_counted_0 (xs := xs) (L := L) C s a v t ld ob E hs hH
    rw [cv_0]
    exact K
  · have K := m_counted_1 (xs := xs) (L := L) C s a v t ld ob E hs hH
    rw [cv_1]
    exact K
  · have K := m_counted_2 (xs := xs) (L := L) C s a v t ld ob E hs hH
    rw [cv_2]
    exact K
  · have K := m_counted_3 (xs := xs) (L := L) C s a v t ld ob E hs hH
    rw [cv_3]
    exact K
  · have K := m_counted_4 (xs := xs) (L := L) C s a v t ld ob E hs hH
    rw [e8] at K
    rw [cv_4]
    exact K
  · have K := m_counted_5 (xs := xs) (L := L) C s a v t ld ob E hs hH
    rw [e9] at K
    rw [cv_5]
    exact K
  · have K := m_counted_6 (xs := xs) (L := L) C s a v t ld ob E hs hH
    rw [e10] at K
    rw [cv_6]
    exact K
  · have K := m_counted_7 (xs := xs) (L := L) C s a v t ld ob E hs hH
    rw [e11] at K
    rw [cv_7]
    exact K
  · have K := m_counted_8 (xs := xs) (L := L) C s a v t ld ob E hs hH
    rw [cv_8]
    exact K
  · have K := m_counted_9 (xs := xs) (L := L) C s a v t ld ob E hs hH
    rw [cv_9]
    exact K
  · have K := m_counted_10 (xs := xs) (L := L) C s a v t ld ob E hs hH
    rw [cv_10]
    exact K
  · have K := m_counted_11 (xs := xs) (L := L) C s a v t ld ob E hs hH
    rw [cv_11]
    exact K
  · have K := m_counted_12 (xs := xs) (L := L) C s a v t ld ob E hs hH
    rw [cv_12]
    exact K
  · have K := m_counted_13 (xs := xs) (L := L) C s a v t ld ob E hs hH
    rw [cv_13]
    exact K
  · have K := m_counted_14 (xs := xs) (L := L) C s a v t ld ob E hs hH
    rw [ho 4 (by decide), hx] at K
    rw [cv_14]
    exact K
theorem n_told {xs : Nat → Int32} {L : Nat} (H k w : Nat) (C : Nat → Nat → Nat → Int32) (s v t : Nat → Int32) (E : Nat → Int64) (x : Int32) (hV : Vs s H) (hk : k < 4) (hw : w < 9) : KM xs L C s v t E x m_X5_toldOf [aR 0 32, aI (nI k), aI (nI w)] (aI (tolV s k w)) := by
  intro a ld ob _
  have hs := hV.2.1.1
  have hH := hV.2.1.2
  have ho : ∀ k, k < 8 → nOb s ld ob k = ob k := fun k hk => by unfold nOb; exact oa_o hk
  have hl : ∀ j, j < 4 → nLd s ld j = shL s (aA s) (runF s) j := fun j hj => by unfold nLd; exact sGv_can.2 j hj
  have hc : k = 0 ∨ k = 1 ∨ k = 2 ∨ k = 3 := by omega
  have hd : w = 0 ∨ w = 1 ∨ w = 2 ∨ w = 3 ∨ w = 4 ∨ w = 5 ∨ w = 6 ∨ w = 7 ∨ w = 8 := by omega
  rcases hc with e | e | e | e <;> subst e <;> rcases hd with e | e | e | e | e | e | e | e | e <;> subst e
  · rw [tv_0_0]
    exact ⟨a, ld, ob, fun _ _ => rfl, m_toldOf_0_0 C s a v t ld ob E⟩
  · rw [tv_0_1]
    exact ⟨a, ld, ob, fun _ _ => rfl, m_toldOf_0_1 C s a v t ld ob E⟩
  · rw [tv_0_2]
    exact ⟨a, ld, ob, fun _ _ => rfl, m_toldOf_0_2 C s a v t ld ob E⟩
  · rw [tv_0_3]
    exact ⟨a, ld, ob, fun _ _ => rfl, m_toldOf_0_3 C s a v t ld ob E⟩
  · rw [tv_0_4]
    exact ⟨a, ld, ob, fun _ _ => rfl, m_toldOf_0_4 C s a v t ld ob E⟩
  · rw [tv_0_5]
    exact ⟨a, ld, ob, fun _ _ => rfl, m_toldOf_0_5 C s a v t ld ob E⟩
  · refine ⟨a, nLd s ld, nOb s ld ob, ho, ?_⟩
    have K := m_toldOf_0_6 (xs := xs) (L := L) C s a v t ld ob E hs hH
    rw [hl 0 (by decide)] at K
    rw [tv_0_6]
    exact K
  · rw [tv_0_7]
    exact ⟨a, ld, ob, fun _ _ => rfl, m_toldOf_0_7 C s a v t ld ob E⟩
  · rw [tv_0_8]
    exact ⟨a, ld, ob, fun _ _ => rfl, m_toldOf_0_8 C s a v t ld ob E⟩
  · rw [tv_1_0]
    exact ⟨a, ld, ob, fun _ _ => rfl, m_toldOf_1_0 C s a v t ld ob E⟩
  · rw [tv_1_1]
    exact ⟨a, ld, ob, fun _ _ => rfl, m_toldOf_1_1 C s a v t ld ob E⟩
  · rw [tv_1_2]
    exact ⟨a, ld, ob, fun _ _ => rfl, m_toldOf_1_2 C s a v t ld ob E⟩
  · rw [tv_1_3]
    exact ⟨a, ld, ob, fun _ _ => rfl, m_toldOf_1_3 C s a v t ld ob E⟩
  · rw [tv_1_4]
    exact ⟨a, ld, ob, fun _ _ => rfl, m_toldOf_1_4 C s a v t ld ob E⟩
  · rw [tv_1_5]
    exact ⟨a, ld, ob, fun _ _ => rfl, m_toldOf_1_5 C s a v t ld ob E⟩
  · refine ⟨a, nLd s ld, nOb s ld ob, ho, ?_⟩
    have K := m_toldOf_1_6 (xs := xs) (L := L) C s a v t ld ob E hs hH
    rw [hl 1 (by decide)] at K
    rw [tv_1_6]
    exact K
  · rw [tv_1_7]
    exact ⟨a, ld, ob, fun _ _ => rfl, m_toldOf_1_7 C s a v t ld ob E⟩
  · rw [tv_1_8]
    exact ⟨a, ld, ob, fun _ _ => rfl, m_toldOf_1_8 C s a v t ld ob E⟩
  · rw [tv_2_0]
    exact ⟨a, ld, ob, fun _ _ => rfl, m_toldOf_2_0 C s a v t ld ob E⟩
  · rw [tv_2_1]
    exact ⟨a, ld, ob, fun _ _ => rfl, m_toldOf_2_1 C s a v t ld ob E⟩
  · rw [tv_2_2]
    exact ⟨a, ld, ob, fun _ _ => rfl, m_toldOf_2_2 C s a v t ld ob E⟩
  · rw [tv_2_3]
    exact ⟨a, ld, ob, fun _ _ => rfl, m_toldOf_2_3 C s a v t ld ob E⟩
  · rw [tv_2_4]
    exact ⟨a, ld, ob, fun _ _ => rfl, m_toldOf_2_4 C s a v t ld ob E⟩
  · rw [tv_2_5]
    exact ⟨a, ld, ob, fun _ _ => rfl, m_toldOf_2_5 C s a v t ld ob E⟩
  · refine ⟨a, nLd s ld, nOb s ld ob, ho, ?_⟩
    have K := m_toldOf_2_6 (xs := xs) (L := L) C s a v t ld ob E hs hH
    rw [hl 2 (by decide)] at K
    rw [tv_2_6]
    exact K
  · rw [tv_2_7]
    exact ⟨a, ld, ob, fun _ _ => rfl, m_toldOf_2_7 C s a v t ld ob E⟩
  · rw [tv_2_8]
    exact ⟨a, ld, ob, fun _ _ => rfl, m_toldOf_2_8 C s a v t ld ob E⟩
  · rw [tv_3_0]
    exact ⟨a, ld, ob, fun _ _ => rfl, m_toldOf_3_0 C s a v t ld ob E⟩
  · rw [tv_3_1]
    exact ⟨a, ld, ob, fun _ _ => rfl, m_toldOf_3_1 C s a v t ld ob E⟩
  · rw [tv_3_2]
    exact ⟨a, ld, ob, fun _ _ => rfl, m_toldOf_3_2 C s a v t ld ob E⟩
  · rw [tv_3_3]
    exact ⟨a, ld, ob, fun _ _ => rfl, m_toldOf_3_3 C s a v t ld ob E⟩
  · rw [tv_3_4]
    exact ⟨a, ld, ob, fun _ _ => rfl, m_toldOf_3_4 C s a v t ld ob E⟩
  · rw [tv_3_5]
    exact ⟨a, ld, ob, fun _ _ => rfl, m_toldOf_3_5 C s a v t ld ob E⟩
  · refine ⟨a, nLd s ld, nOb s ld ob, ho, ?_⟩
    have K := m_toldOf_3_6 (xs := xs) (L := L) C s a v t ld ob E hs hH
    rw [hl 3 (by decide)] at K
    rw [tv_3_6]
    exact K
  · rw [tv_3_7]
    exact ⟨a, ld, ob, fun _ _ => rfl, m_toldOf_3_7 C s a v t ld ob E⟩
  · rw [tv_3_8]
    exact ⟨a, ld, ob, fun _ _ => rfl, m_toldOf_3_8 C s a v t ld ob E⟩
theorem rec_in {h w : Nat} (hh : h < 48) (hw : 1 ≤ w ∧ w < 7) (x : Int32) (hx : x = nI w) : z_inb (88 + 6 * nI h + x - 1) 376 = true ∧ (88 + 6 * nI h + x - 1).toNatClampNeg = 88 + 6 * h + (w - 1) := by
  have e : 88 + 6 * nI h + x - 1 = nI (88 + 6 * h + (w - 1)) := by
    rw [hx, show (88 : Int32) = nI 88 from rfl, show (6 : Int32) = nI 6 from rfl, nI_mul, nI_add, nI_add, show 88 + 6 * h + w = (88 + 6 * h + (w - 1)) + 1 by omega, nI_pred]
  rw [e, nI_clamp (by omega)]
  exact ⟨inb_nI (by omega) (by decide), rfl⟩
theorem n_toldH {xs : Nat → Int32} {L : Nat} (h w : Nat) (C : Nat → Nat → Nat → Int32) (s v t : Nat → Int32) (E : Nat → Int64) (x : Int32) (hh : h < 48) (hw : w < 7) : KM xs L C s v t E x m_X5_toldOfHour [aR 0 32, aI (nI h), aI (nI w)] (aI (houV s h w)) := by
  intro a ld ob _
  refine ⟨a, ld, ob, fun _ _ => rfl, ?_⟩
  have hd : w = 0 ∨ w = 1 ∨ w = 2 ∨ w = 3 ∨ w = 4 ∨ w = 5 ∨ w = 6 := by omega
  rcases hd with e | e | e | e | e | e | e <;> subst e
  · have K := m_toldOfHour_0 (xs := xs) (L := L) (nI h) C s a v t ld ob E (hrA (c := 40) 40 rfl (by omega) (by decide))
    rw [show (40 + nI h : Int32).toNatClampNeg = 40 + h from by rw [show (40 : Int32) = nI 40 from rfl, nI_add, nI_clamp (by omega)]] at K
    rw [hv_0]
    exact K
  · obtain ⟨q1, q2⟩ := rec_in hh (w := 1) (by decide) 1 rfl
    have K := m_toldOfHour_1 (xs := xs) (L := L) (nI h) C s a v t ld ob E (Or.inr q1)
    rw [q2] at K
    rw [hv_1]
    exact K
  · obtain ⟨q1, q2⟩ := rec_in hh (w := 2) (by decide) 2 rfl
    have K := m_toldOfHour_2 (xs := xs) (L := L) (nI h) C s a v t ld ob E (Or.inr q1)
    rw [q2] at K
    rw [hv_2]
    exact K
  · obtain ⟨q1, q2⟩ := rec_in hh (w := 3) (by decide) 3 rfl
    have K := m_toldOfHour_3 (xs := xs) (L := L) (nI h) C s a v t ld ob E (Or.inr q1)
    rw [q2] at K
    rw [hv_3]
    exact K
  · obtain ⟨q1, q2⟩ := rec_in hh (w := 4) (by decide) 4 rfl
    have K := m_toldOfHour_4 (xs := xs) (L := L) (nI h) C s a v t ld ob E (Or.inr q1)
    rw [q2] at K
    rw [hv_4]
    exact K
  · obtain ⟨q1, q2⟩ := rec_in hh (w := 5) (by decide) 5 rfl
    have K := m_toldOfHour_5 (xs := xs) (L := L) (nI h) C s a v t ld ob E (Or.inr q1)
    rw [q2] at K
    rw [hv_5]
    exact K
  · obtain ⟨q1, q2⟩ := rec_in hh (w := 6) (by decide) 6 rfl
    have K := m_toldOfHour_6 (xs := xs) (L := L) (nI h) C s a v t ld ob E (Or.inr q1)
    rw [q2] at K
    rw [hv_6]
    exact K
theorem n_dark {xs : Nat → Int32} {L : Nat} (H k : Nat) (C : Nat → Nat → Nat → Int32) (s v t : Nat → Int32) (E : Nat → Int64) (x : Int32) (hV : Vs s H) (hk : k < 4) : KM xs L C s v t E x m_X5_darkWithout [aR 0 32, aI (nI k)] (aI (dwV s k)) := by
  intro a ld ob _
  have hs := hV.2.1.1
  have hH := hV.2.1.2
  have hc : k = 0 ∨ k = 1 ∨ k = 2 ∨ k = 3 := by omega
  rcases hc with e | e | e | e <;> subst e
  · refine ⟨a, (sGv (md g0 s) (lodF s (nowF s)) (runF s &&& 14) ld).1, sOb (md g0 s) (lodF s (nowF s)) (runF s &&& 14) ld ob, fun k hk => oa_o hk, ?_⟩
    have K := m_darkWithout_0 (xs := xs) (L := L) C s a v t ld ob E hs hH
    rw [show sOb (md g0 s) (lodF s (nowF s)) (runF s &&& 14) ld ob 8 = shO s (aA s) (runF s &&& 14) 8 from sOb_8] at K
    rw [dv_0]
    exact K
  · refine ⟨a, (sGv (md g0 s) (lodF s (nowF s)) (runF s &&& 13) ld).1, sOb (md g0 s) (lodF s (nowF s)) (runF s &&& 13) ld ob, fun k hk => oa_o hk, ?_⟩
    have K := m_darkWithout_1 (xs := xs) (L := L) C s a v t ld ob E hs hH
    rw [show sOb (md g0 s) (lodF s (nowF s)) (runF s &&& 13) ld ob 8 = shO s (aA s) (runF s &&& 13) 8 from sOb_8] at K
    rw [dv_1]
    exact K
  · refine ⟨a, (sGv (md g0 s) (lodF s (nowF s)) (runF s &&& 11) ld).1, sOb (md g0 s) (lodF s (nowF s)) (runF s &&& 11) ld ob, fun k hk => oa_o hk, ?_⟩
    have K := m_darkWithout_2 (xs := xs) (L := L) C s a v t ld ob E hs hH
    rw [show sOb (md g0 s) (lodF s (nowF s)) (runF s &&& 11) ld ob 8 = shO s (aA s) (runF s &&& 11) 8 from sOb_8] at K
    rw [dv_2]
    exact K
  · refine ⟨a, (sGv (md g0 s) (lodF s (nowF s)) (runF s &&& 7) ld).1, sOb (md g0 s) (lodF s (nowF s)) (runF s &&& 7) ld ob, fun k hk => oa_o hk, ?_⟩
    have K := m_darkWithout_3 (xs := xs) (L := L) C s a v t ld ob E hs hH
    rw [show sOb (md g0 s) (lodF s (nowF s)) (runF s &&& 7) ld ob 8 = shO s (aA s) (runF s &&& 7) 8 from sOb_8] at K
    rw [dv_3]
    exact K
theorem beT_n {s : Nat → Int32} {h i : Nat} {x : Int32 × (Int32 × ((Nat → Int32) × (Nat → Int32)))} : ((beT s (nI h) (nI i) x).1, (beT s (nI h) (nI i) x).2.1) = chT s (lodF s (nI h)) i (x.1, x.2.1) ∧ ∀ k, k < 8 → (beT s (nI h) (nI i) x).2.2.2 k = x.2.2.2 k := by
  refine ⟨?_, fun k hk => ?_⟩
  · unfold beT chT
    dsimp only
    rw [sOb_11, sOb_12]
    by_cases q : isF (canF s (nI i)) (shO s (lodF s (nI h)) (nI i) 11) x.1 (shO s (lodF s (nI h)) (nI i) 12) x.2.1 = true
    · rw [if_pos q, if_pos q, if_pos q]
    · rw [if_neg q, if_neg q, if_neg q]
  · unfold beT
    dsimp only
    exact oa_o hk
theorem beI_n {s : Nat → Int32} {h : Nat} : ∀ (d i : Nat) (x : Int32 × (Int32 × ((Nat → Int32) × (Nat → Int32)))), ((beI s (nI h) d i x).1, (beI s (nI h) d i x).2.1) = chI s (lodF s (nI h)) d i (x.1, x.2.1) ∧ ∀ k, k < 8 → (beI s (nI h) d i x).2.2.2 k = x.2.2.2 k
  | 0, _, _ => ⟨rfl, fun _ _ => rfl⟩
  | d + 1, i, x => by
    obtain ⟨q1, q2⟩ := beI_n d (i + 1) (beT s (nI h) (nI i) x)
    obtain ⟨p1, p2⟩ := beT_n (s := s) (h := h) (i := i) (x := x)
    rw [p1] at q1
    rw [beI_s]
    exact ⟨q1, fun k hk => (q2 k hk).trans (p2 k hk)⟩
theorem n_best {xs : Nat → Int32} {L : Nat} (h y : Nat) (C : Nat → Nat → Nat → Int32) (s v t : Nat → Int32) (E : Nat → Int64) (x : Int32) (hh : h < 48) (hy : y < 2) : KM xs L C s v t E x m_X5_best [aR 0 32, aI (nI h), aI (nI y)] (aI (chV s h y)) := by
  intro a ld ob _
  obtain ⟨q1, q2⟩ := beI_n (s := s) (h := h) 16 0 (-1, 0, ld, ob)
  generalize hY : beI s (nI h) 16 0 (-1, 0, ld, ob) = Y at q1 q2
  have K := m_best (xs := xs) (L := L) (nI h) (nI y) C s a v t ld ob E (hrA (c := 40) 40 rfl (by omega) (by decide)) Y hY
  clear hY
  generalize hZ : chI s (lodF s (nI h)) 16 0 (-1, 0) = Z at q1
  have e1 : Y.1 = Z.1 := congrArg Prod.fst q1
  have e2 : Y.2.1 = Z.2 := congrArg Prod.snd q1
  refine ⟨a, Y.2.2.1, Y.2.2.2, q2, ?_⟩
  rw [e1, e2] at K
  unfold chV
  rw [hZ]
  clear hZ q1 q2
  have hc : y = 0 ∨ y = 1 := by omega
  rcases hc with e | e <;> subst e
  · rw [if_pos rfl]
    rw [if_pos (show nI 0 = 0 from rfl)] at K
    exact K
  · rw [if_neg (show ¬ (1 : Nat) = 0 by decide)]
    rw [if_neg (show ¬ nI 1 = 0 by decide)] at K
    exact K
theorem m_safe1 {xs : Nat → Int32} {L : Nat} (H p : Nat) (C : Nat → Nat → Nat → Int32) (s a v t ld ob : Nat → Int32) (E : Nat → Int64) (hs : s 34 = nI H) (hd : nI H - s 39 = nI p) (hH0 : 0 < H) (hH : H ≤ 48) (hp : p ≤ H) : z_Mt xs L m_X5_safe [aR 0 32] (C, dm s a v t ld ob, E) (.inl (some (aD (shV p H)))) (C, dm s a v t ld ob, E) 0 := by
  refine z_Ev_blk 4 (c' := (7, [some (aR 0 32)], [aI (s 34)], (C, dm s a v t ld ob, E))) rfl ⟨rfl, trivial⟩ ?_
  rw [hs]
  refine z_Ev_blk 1 (c' := ((if (nI H) = 0 then 10 else 14), [some (aR 0 32)], [], (C, dm s a v t ld ob, E))) rfl trivial ?_
  refine z_Ev_else (nI_ne0 hH0 (by omega)) ?_
  refine z_Ev_blk 4 (c' := (21, [some (aR 0 32)], [aI (s 34)], (C, dm s a v t ld ob, E))) rfl ⟨rfl, trivial⟩ ?_
  rw [hs]
  refine z_Ev_blk 5 (c' := (29, [some (aR 0 32)], [aI ((nI H) - (s 39))], (C, dm s a v t ld ob, E))) rfl ⟨rfl, trivial⟩ ?_
  rw [hd]
  refine z_Ev_blk 5 (c' := (37, [some (aR 0 32)], [aI (s 34), aD (FP.i2d (nI p))], (C, dm s a v t ld ob, E))) rfl ⟨rfl, trivial⟩ ?_
  rw [hs]
  refine z_Ev_blk 2 (c' := (39, [some (aR 0 32)], [aD (FP.ddiv (FP.i2d (nI p)) (FP.i2d (nI H)))], (C, dm s a v t ld ob, E))) rfl ⟨(fp_ok p (by omega) H (by omega) hH0 hp), trivial⟩ ?_
  exact z_Ev_dretE rfl rfl (by rfl) (by rfl)
theorem m_safe0 {xs : Nat → Int32} {L : Nat}  (C : Nat → Nat → Nat → Int32) (s a v t ld ob : Nat → Int32) (E : Nat → Int64) (hs : s 34 = 0) : z_Mt xs L m_X5_safe [aR 0 32] (C, dm s a v t ld ob, E) (.inl (some (aD one64))) (C, dm s a v t ld ob, E) 0 := by
  refine z_Ev_blk 5 (c' := ((if (s 34) = 0 then 10 else 14), [some (aR 0 32)], [], (C, dm s a v t ld ob, E))) rfl ⟨rfl, trivial⟩ ?_
  refine z_Ev_if (hs) ?_
  refine z_Ev_blk 2 (c' := (39, [some (aR 0 32)], [aD (4607182418800017408 : UInt64)], (C, dm s a v t ld ob, E))) rfl trivial ?_
  exact z_Ev_dretE rfl rfl (by rfl) (by rfl)
theorem mb_lt {xs : Nat → Int32} {L : Nat} {o_ : z_Rs} {M' : Mem} {kk : Nat} (x w : UInt64) (e : Int64) (C : Nat → Nat → Nat → Int32) (D : Nat → Nat → Int32) (E : Nat → Int64) (hg : ¬ 0 ≤ (Op.cmpValue (FP.dcmp w (4607182418800017408 : UInt64)) .g)) (hn : vf_n64 (FP.dmul w 4611686018427387904)) (K : z_Ev xs L m_X5_bitsOf (15, [some (aD x), none, some (aL (e - Int64.ofNat 1)), none, some (aD (FP.dmul w 4611686018427387904)), none], [], (C, D, E)) o_ M' kk) : z_Ev xs L m_X5_bitsOf (15, [some (aD x), none, some (aL e), none, some (aD w), none], [], (C, D, E)) o_ M' kk := by
  refine z_Ev_blk 4 (c' := ((if 0 ≤ (Op.cmpValue (FP.dcmp w (4607182418800017408 : UInt64)) .g) then 37 else 22), [some (aD x), none, some (aL e), none, some (aD w), none], [], (C, D, E))) rfl trivial ?_
  refine z_Ev_else (hg) ?_
  refine z_Ev_blk 9 (c' := (15, [some (aD x), none, some (aL (e - (Int64.ofNat 1))), none, some (aD (FP.dmul w (4611686018427387904 : UInt64))), none], [], (C, D, E))) rfl ⟨(hn), trivial⟩ ?_
  exact K
theorem mb_ge {xs : Nat → Int32} {L : Nat} (x w : UInt64) (e : Int64) (C : Nat → Nat → Nat → Int32) (D : Nat → Nat → Int32) (E : Nat → Int64) (hg : 0 ≤ (Op.cmpValue (FP.dcmp w (4607182418800017408 : UInt64)) .g)) (hn : vf_n64 (FP.dsub w 4607182418800017408)) (hn1 : vf_n64 (FP.dmul (FP.dsub w 4607182418800017408) 4841369599423283200)) : z_Ev xs L m_X5_bitsOf (15, [some (aD x), none, some (aL e), none, some (aD w), none], [], (C, D, E)) (.inl (some (aL (e * 4503599627370496 + FP.d2l (FP.dmul (FP.dsub w 4607182418800017408) 4841369599423283200))))) (C, D, E) 0 := by
  refine z_Ev_blk 4 (c' := ((if 0 ≤ (Op.cmpValue (FP.dcmp w (4607182418800017408 : UInt64)) .g) then 37 else 22), [some (aD x), none, some (aL e), none, some (aD w), none], [], (C, D, E))) rfl trivial ?_
  refine z_Ev_if (hg) ?_
  refine z_Ev_blk 10 (c' := (52, [some (aD x), none, some (aL e), none, some (aD w), none], [aL ((e * (4503599627370496 : Int64)) + (FP.d2l (FP.dmul (FP.dsub w (4607182418800017408 : UInt64)) (4841369599423283200 : UInt64))))], (C, D, E))) rfl ⟨(hn), (hn1), trivial⟩ ?_
  exact z_Ev_lretE rfl rfl (by rfl) (by rfl)
theorem mb_all {xs : Nat → Int32} {L : Nat} (x : UInt64) (C : Nat → Nat → Nat → Int32) (D : Nat → Nat → Int32) (E : Nat → Int64) : ∀ (f : Nat) (w : UInt64) (e : Int64), okL f w e = true → z_Ev xs L m_X5_bitsOf (15, [some (aD x), none, some (aL e), none, some (aD w), none], [], (C, D, E)) (.inl (some (aL (rsM (rnL f w e))))) (C, D, E) 0 := by
  intro f
  induction f with
  | zero => intro w e h; cases h
  | succ f ih =>
    intro w e h
    unfold okL at h
    unfold rnL
    cases hg : geb w with
    | true =>
      rw [hg] at h
      obtain ⟨n1, n2⟩ := Bool.and_eq_true_iff.mp h
      exact mb_ge x w e C D E (of_decide_eq_true hg) (nfb_v n1) (nfb_v n2)
    | false =>
      rw [hg] at h
      obtain ⟨h, n3⟩ := Bool.and_eq_true_iff.mp h
      obtain ⟨n1, n2⟩ := Bool.and_eq_true_iff.mp h
      exact mb_lt x w e C D E (of_decide_eq_false hg) (nfb_v n2) (ih _ _ n3)
theorem mb_z {xs : Nat → Int32} {L : Nat} (v : UInt64) (C : Nat → Nat → Nat → Int32) (D : Nat → Nat → Int32) (E : Nat → Int64) (hz : (Op.cmpValue (FP.dcmp v (0 : UInt64)) .l) = 0) : z_Mt xs L m_X5_bitsOf [aD v] (C, D, E) (.inl (some (aL (Int64.ofNat 0)))) (C, D, E) 0 := by
  refine z_Ev_blk 4 (c' := ((if (Op.cmpValue (FP.dcmp v (0 : UInt64)) .l) = 0 then 6 else 8), [some (aD v), none, none, none, none, none], [], (C, D, E))) rfl trivial ?_
  refine z_Ev_if (hz) ?_
  refine z_Ev_blk 1 (c' := (7, [some (aD v), none, none, none, none, none], [aL (Int64.ofNat 0)], (C, D, E))) rfl trivial ?_
  exact z_Ev_lretE rfl rfl (by rfl) (by rfl)
theorem mb_b {xs : Nat → Int32} {L : Nat} {o_ : z_Rs} {M' : Mem} {kk : Nat} (v : UInt64) (C : Nat → Nat → Nat → Int32) (D : Nat → Nat → Int32) (E : Nat → Int64) (hz : ¬ (Op.cmpValue (FP.dcmp v (0 : UInt64)) .l) = 0) (K : z_Ev xs L m_X5_bitsOf (15, [some (aD v), none, some (aL (1023 : Int64)), none, some (aD v), none], [], (C, D, E)) o_ M' kk) : z_Mt xs L m_X5_bitsOf [aD v] (C, D, E) o_ M' kk := by
  refine z_Ev_blk 4 (c' := ((if (Op.cmpValue (FP.dcmp v (0 : UInt64)) .l) = 0 then 6 else 8), [some (aD v), none, none, none, none, none], [], (C, D, E))) rfl trivial ?_
  refine z_Ev_else (hz) ?_
  refine z_Ev_blk 4 (c' := (15, [some (aD v), none, some (aL (1023 : Int64)), none, some (aD v), none], [], (C, D, E))) rfl trivial ?_
  exact K
theorem n_bits {xs : Nat → Int32} {L : Nat} (v : UInt64) (C : Nat → Nat → Nat → Int32) (D : Nat → Nat → Int32) (E : Nat → Int64) (h : chk v = true) : z_Mt xs L m_X5_bitsOf [aD v] (C, D, E) (.inl (some (aL (bitV v)))) (C, D, E) 0 := by
  unfold chk at h
  unfold bitV
  obtain ⟨he, h⟩ := Bool.and_eq_true_iff.mp h
  have he := eq_of_beq he
  cases hz : zcb v with
  | true =>
    rw [hz] at he
    exact mb_z v C D E (of_decide_eq_true he.symm)
  | false =>
    rw [hz] at h he
    obtain ⟨h, h2⟩ := Bool.and_eq_true_iff.mp h
    have K := mb_all (xs := xs) (L := L) v C D E 8 v 1023 h
    rw [← of_decide_eq_true h2] at K
    exact mb_b v C D E (of_decide_eq_false he.symm) K
