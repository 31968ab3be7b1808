/-! THE LAW: looks, firstError, run; the loop -/
theorem op_setOf {xs : Nat → Int32} {L i : Nat} (hi : i + 6 ≤ L) (hL : L < 2 ^ 31) (hk : xs i &&& 31 = 13) (K : LW xs L (i + 6)) : LW xs L i := by
  intro s H q m c t w ld sh o tx pl ka kb kc a v ld' ob E I
  obtain ⟨hV, hq, hm, hc, h3, h4, h6, g4, g6, hS⟩ := I
  by_cases hA : (0 ≤ xs (i + 1) ∧ xs (i + 1) ≤ 3) ∧ 0 ≤ xs (i + 2) ∧ xs (i + 2) ≤ 8
  · obtain ⟨x, p1, -, x2⟩ := bet (a := 0) (b := 3) hA.1 (by decide) (by decide)
    obtain ⟨y, p2, -, y2⟩ := bet (a := 0) (b := 8) hA.2 (by decide) (by decide)
    obtain ⟨T, LD, SH, hX⟩ := k_setOf (xs := xs) (L := L) H x y s w o tx pl ka kb kc (dm s a v tx ld' ob) E hV (by omega) (by omega) t ld sh
    obtain ⟨A1, LD', OB, hO, hC⟩ := n_told (xs := xs) (L := L) H x y (cm s T w LD SH o tx pl ka kb kc) s v tx (vp_updL E 1 (tolV s x y).toInt64) (nI m) hV (by omega) (by omega) a ld' (upd ob 0 0) g4
    have hT := m_thrown (xs := xs) (L := L) (cm s T w LD SH o tx pl ka kb kc) s A1 v tx LD' OB (vp_updL E 1 (tolV s x y).toInt64)
    rw [hO 0 (by decide), show upd ob 0 0 0 = 0 from rfl] at hT
    refine LW_go (k1 := 0) (fun _ _ _ Z => lw_setOf i _ _ 0 _ _ _ _ _ _ _ hi hL hk p1 p2 (w_setOf _ _ _ _ _ _ _ hX) (u_setOf _ _ _ _ _ _ _ s a v tx ld' ob _ (by rw [← p1]; exact hA.1) (by rw [← p2]; exact hA.2) hC) hT (fun _ => eL1) Z) (by decide) hi ?_
    exact K s H q m c _ _ _ _ _ _ _ _ _ _ _ _ _ _ _ ⟨hV, hq, hm, hc, h3, h4, h6, (hO 4 (by decide)).trans g4, (hO 6 (by decide)).trans g6, hS⟩
  · skip
    refine LW_go (k1 := 1) (fun _ _ _ Z => lw_setOf i _ _ 1 0 _ _ _ _ _ _ hi hL hk rfl rfl (w_setOf_0 _ _ _ _ _ _ (c_setOfA _ _ s t w ld sh o tx pl ka kb kc _ E hA)) (u_setOfA _ _ _ s a v tx ld' ob _ hA) (m_thrown _ _ _ _ _ _ _ _) (fun z => absurd z (by decide)) Z) (by decide) hi ?_
    exact K s H q m c _ _ _ _ _ _ _ _ _ _ _ _ _ _ _ ⟨hV, hq, hm, hc, h3, h4, h6, g4, g6, hS⟩
theorem op_hour {xs : Nat → Int32} {L i : Nat} (hi : i + 6 ≤ L) (hL : L < 2 ^ 31) (hk : xs i &&& 31 = 14) (K : LW xs L (i + 6)) : LW xs L i := by
  intro s H q m c t w ld sh o tx pl ka kb kc a v ld' ob E I
  obtain ⟨hV, hq, hm, hc, h3, h4, h6, g4, g6, hS⟩ := I
  by_cases hA : (0 ≤ xs (i + 1) ∧ xs (i + 1) ≤ 47) ∧ 0 ≤ xs (i + 2) ∧ xs (i + 2) ≤ 6
  · obtain ⟨x, p1, -, x2⟩ := bet (a := 0) (b := 47) hA.1 (by decide) (by decide)
    obtain ⟨y, p2, -, y2⟩ := bet (a := 0) (b := 6) hA.2 (by decide) (by decide)
    obtain ⟨T, LD, SH, hX⟩ := k_hour (xs := xs) (L := L) x y s w o tx pl ka kb kc (dm s a v tx ld' ob) E (by omega) (by omega) t ld sh
    obtain ⟨A1, LD', OB, hO, hC⟩ := n_toldH (xs := xs) (L := L) x y (cm s T w LD SH o tx pl ka kb kc) s v tx (vp_updL E 1 (houV s x y).toInt64) (nI m) (by omega) (by omega) a ld' (upd ob 0 0) g4
    have hT := m_thrown (xs := xs) (L := L) (cm s T w LD SH o tx pl ka kb kc) s A1 v tx LD' OB (vp_updL E 1 (houV s x y).toInt64)
    rw [hO 0 (by decide), show upd ob 0 0 0 = 0 from rfl] at hT
    refine LW_go (k1 := 0) (fun _ _ _ Z => lw_hour i _ _ 0 _ _ _ _ _ _ _ hi hL hk p1 p2 (w_hour _ _ _ _ _ _ _ hX) (u_hour _ _ _ _ _ _ _ s a v tx ld' ob _ (by rw [← p1]; exact hA.1) (by rw [← p2]; exact hA.2) hC) hT (fun _ => eL1) Z) (by decide) hi ?_
    exact K s H q m c _ _ _ _ _ _ _ _ _ _ _ _ _ _ _ ⟨hV, hq, hm, hc, h3, h4, h6, (hO 4 (by decide)).trans g4, (hO 6 (by decide)).trans g6, hS⟩
  · skip
    refine LW_go (k1 := 1) (fun _ _ _ Z => lw_hour i _ _ 1 0 _ _ _ _ _ _ hi hL hk rfl rfl (w_hour_0 _ _ _ _ _ _ (c_hourA _ _ s t w ld sh o tx pl ka kb kc _ E hA)) (u_hourA _ _ _ s a v tx ld' ob _ hA) (m_thrown _ _ _ _ _ _ _ _) (fun z => absurd z (by decide)) Z) (by decide) hi ?_
    exact K s H q m c _ _ _ _ _ _ _ _ _ _ _ _ _ _ _ ⟨hV, hq, hm, hc, h3, h4, h6, g4, g6, hS⟩
theorem op_cheapest {xs : Nat → Int32} {L i : Nat} (hi : i + 6 ≤ L) (hL : L < 2 ^ 31) (hk : xs i &&& 31 = 18) (K : LW xs L (i + 6)) : LW xs L i := by
  intro s H q m c t w ld sh o tx pl ka kb kc a v ld' ob E I
  obtain ⟨hV, hq, hm, hc, h3, h4, h6, g4, g6, hS⟩ := I
  by_cases hA : (0 ≤ xs (i + 1) ∧ xs (i + 1) ≤ 47) ∧ 0 ≤ xs (i + 2) ∧ xs (i + 2) ≤ 1
  · obtain ⟨x, p1, -, x2⟩ := bet (a := 0) (b := 47) hA.1 (by decide) (by decide)
    obtain ⟨y, p2, -, y2⟩ := bet (a := 0) (b := 1) hA.2 (by decide) (by decide)
    obtain ⟨T, LD, SH, hX⟩ := k_cheapest (xs := xs) (L := L) H x y s w o tx pl ka kb kc (dm s a v tx ld' ob) E hV (by omega) (by omega) t ld sh
    obtain ⟨A1, LD', OB, hO, hC⟩ := n_best (xs := xs) (L := L) x y (cm s T w LD SH o tx pl ka kb kc) s v tx (vp_updL E 1 (chV s x y).toInt64) (nI m) (by omega) (by omega) a ld' (upd ob 0 0) g4
    have hT := m_thrown (xs := xs) (L := L) (cm s T w LD SH o tx pl ka kb kc) s A1 v tx LD' OB (vp_updL E 1 (chV s x y).toInt64)
    rw [hO 0 (by decide), show upd ob 0 0 0 = 0 from rfl] at hT
    refine LW_go (k1 := 0) (fun _ _ _ Z => lw_cheapest i _ _ 0 _ _ _ _ _ _ _ hi hL hk p1 p2 (w_cheapest _ _ _ _ _ _ _ hX) (u_cheapest _ _ _ _ _ _ _ s a v tx ld' ob _ (by rw [← p1]; exact hA.1) (by rw [← p2]; exact hA.2) hC) hT (fun _ => eL1) Z) (by decide) hi ?_
    exact K s H q m c _ _ _ _ _ _ _ _ _ _ _ _ _ _ _ ⟨hV, hq, hm, hc, h3, h4, h6, (hO 4 (by decide)).trans g4, (hO 6 (by decide)).trans g6, hS⟩
  · skip
    refine LW_go (k1 := 1) (fun _ _ _ Z => lw_cheapest i _ _ 1 0 _ _ _ _ _ _ hi hL hk rfl rfl (w_cheapest_0 _ _ _ _ _ _ (c_cheapestA _ _ s t w ld sh o tx pl ka kb kc _ E hA)) (u_cheapestA _ _ _ s a v tx ld' ob _ hA) (m_thrown _ _ _ _ _ _ _ _) (fun z => absurd z (by decide)) Z) (by decide) hi ?_
    exact K s H q m c _ _ _ _ _ _ _ _ _ _ _ _ _ _ _ ⟨hV, hq, hm, hc, h3, h4, h6, g4, g6, hS⟩
theorem op_count {xs : Nat → Int32} {L i : Nat} (hi : i + 6 ≤ L) (hL : L < 2 ^ 31) (hk : xs i &&& 31 = 15) (K : LW xs L (i + 6)) : LW xs L i := by
  intro s H q m c t w ld sh o tx pl ka kb kc a v ld' ob E I
  obtain ⟨hV, hq, hm, hc, h3, h4, h6, g4, g6, hS⟩ := I
  by_cases hA : 0 ≤ xs (i + 1) ∧ xs (i + 1) ≤ 14
  · obtain ⟨x, p1, -, x2⟩ := bet (a := 0) (b := 14) hA (by decide) (by decide)
    obtain ⟨T, LD, SH, hX⟩ := k_count (xs := xs) (L := L) H x s w o tx pl ka kb kc (dm s a v tx ld' ob) E hV (by omega) t ld sh
    rw [h4] at hX
    obtain ⟨A1, LD', OB, hO, hC⟩ := n_counted (xs := xs) (L := L) H x (cm s T w LD SH o tx pl ka kb kc) s v tx (vp_updL E 1 (cntV s (nI m) x).toInt64) (nI m) hV (by omega) a ld' (upd ob 0 0) g4
    have hT := m_thrown (xs := xs) (L := L) (cm s T w LD SH o tx pl ka kb kc) s A1 v tx LD' OB (vp_updL E 1 (cntV s (nI m) x).toInt64)
    rw [hO 0 (by decide), show upd ob 0 0 0 = 0 from rfl] at hT
    refine LW_go (k1 := 0) (fun _ _ _ Z => lw_count i _ 0 _ _ _ _ _ _ _ hi hL hk p1 (w_count _ _ _ _ _ _ hX) (u_count _ _ _ _ _ _ s a v tx ld' ob _ (by rw [← p1]; exact hA) hC) hT (fun _ => eL1) Z) (by decide) hi ?_
    exact K s H q m c _ _ _ _ _ _ _ _ _ _ _ _ _ _ _ ⟨hV, hq, hm, hc, h3, h4, h6, (hO 4 (by decide)).trans g4, (hO 6 (by decide)).trans g6, hS⟩
  · skip
    refine LW_go (k1 := 1) (fun _ _ _ Z => lw_count i _ 1 0 _ _ _ _ _ _ hi hL hk rfl (w_count_0 _ _ _ _ _ (c_countA _ s t w ld sh o tx pl ka kb kc _ E hA)) (u_countA _ _ s a v tx ld' ob _ hA) (m_thrown _ _ _ _ _ _ _ _) (fun z => absurd z (by decide)) Z) (by decide) hi ?_
    exact K s H q m c _ _ _ _ _ _ _ _ _ _ _ _ _ _ _ ⟨hV, hq, hm, hc, h3, h4, h6, g4, g6, hS⟩
theorem op_ifLost {xs : Nat → Int32} {L i : Nat} (hi : i + 6 ≤ L) (hL : L < 2 ^ 31) (hk : xs i &&& 31 = 17) (K : LW xs L (i + 6)) : LW xs L i := by
  intro s H q m c t w ld sh o tx pl ka kb kc a v ld' ob E I
  obtain ⟨hV, hq, hm, hc, h3, h4, h6, g4, g6, hS⟩ := I
  by_cases hA : 0 ≤ xs (i + 1) ∧ xs (i + 1) ≤ 3
  · obtain ⟨x, p1, -, x2⟩ := bet (a := 0) (b := 3) hA (by decide) (by decide)
    obtain ⟨T, LD, SH, hX⟩ := k_ifLost (xs := xs) (L := L) H x s w o tx pl ka kb kc (dm s a v tx ld' ob) E hV (by omega) t ld sh
    obtain ⟨A1, LD', OB, hO, hC⟩ := n_dark (xs := xs) (L := L) H x (cm s T w LD SH o tx pl ka kb kc) s v tx (vp_updL E 1 (dwV s x).toInt64) (nI m) hV (by omega) a ld' (upd ob 0 0) g4
    have hT := m_thrown (xs := xs) (L := L) (cm s T w LD SH o tx pl ka kb kc) s A1 v tx LD' OB (vp_updL E 1 (dwV s x).toInt64)
    rw [hO 0 (by decide), show upd ob 0 0 0 = 0 from rfl] at hT
    refine LW_go (k1 := 0) (fun _ _ _ Z => lw_ifLost i _ 0 _ _ _ _ _ _ _ hi hL hk p1 (w_ifLost _ _ _ _ _ _ hX) (u_ifLost _ _ _ _ _ _ s a v tx ld' ob _ (by rw [← p1]; exact hA) hC) hT (fun _ => eL1) Z) (by decide) hi ?_
    exact K s H q m c _ _ _ _ _ _ _ _ _ _ _ _ _ _ _ ⟨hV, hq, hm, hc, h3, h4, h6, (hO 4 (by decide)).trans g4, (hO 6 (by decide)).trans g6, hS⟩
  · skip
    refine LW_go (k1 := 1) (fun _ _ _ Z => lw_ifLost i _ 1 0 _ _ _ _ _ _ hi hL hk rfl (w_ifLost_0 _ _ _ _ _ (c_ifLostA _ s t w ld sh o tx pl ka kb kc _ E hA)) (u_ifLostA _ _ s a v tx ld' ob _ hA) (m_thrown _ _ _ _ _ _ _ _) (fun z => absurd z (by decide)) Z) (by decide) hi ?_
    exact K s H q m c _ _ _ _ _ _ _ _ _ _ _ _ _ _ _ ⟨hV, hq, hm, hc, h3, h4, h6, g4, g6, hS⟩
theorem op_firstDark {xs : Nat → Int32} {L i : Nat} (hi : i + 6 ≤ L) (hL : L < 2 ^ 31) (hk : xs i &&& 31 = 19) (K : LW xs L (i + 6)) : LW xs L i := by
  intro s H q m c t w ld sh o tx pl ka kb kc a v ld' ob E I
  obtain ⟨hV, hq, hm, hc, h3, h4, h6, g4, g6, hS⟩ := I
  · skip
    obtain ⟨T, LD, SH, hX⟩ := k_firstDark (xs := xs) (L := L) H s w o tx pl ka kb kc (dm s a v tx ld' ob) E hV t ld sh
    obtain ⟨A1, LD', OB, hO, hC⟩ := n_darkFirst (xs := xs) (L := L) H (cm s T w LD SH o tx pl ka kb kc) s v tx E (nI m) hV a ld' (upd ob 0 0) g4
    refine LW_go (k1 := 0) (fun _ _ _ Z => lw_firstDark i _ _ _ _ _ _ _ hi hL hk hX (u_firstDark  _ _ _ _ _ s a v tx ld' ob _  hC) Z) (by decide) hi ?_
    exact K s H q m c _ _ _ _ _ _ _ _ _ _ _ _ _ _ _ ⟨hV, hq, hm, hc, h3, h4, h6, (hO 4 (by decide)).trans g4, (hO 6 (by decide)).trans g6, hS⟩
theorem op_ifShed {xs : Nat → Int32} {L i : Nat} (hi : i + 6 ≤ L) (hL : L < 2 ^ 31) (hk : xs i &&& 31 = 20) (K : LW xs L (i + 6)) : LW xs L i := by
  intro s H q m c t w ld sh o tx pl ka kb kc a v ld' ob E I
  obtain ⟨hV, hq, hm, hc, h3, h4, h6, g4, g6, hS⟩ := I
  · skip
    obtain ⟨T, LD, SH, hX⟩ := k_ifShed (xs := xs) (L := L) H s w o tx pl ka kb kc (dm s a v tx ld' ob) E hV t ld sh
    obtain ⟨A1, LD', OB, hO, hC⟩ := n_fewer (xs := xs) (L := L) H (cm s T w LD SH o tx pl ka kb kc) s v tx E (nI m) hV a ld' (upd ob 0 0) g4
    refine LW_go (k1 := 0) (fun _ _ _ Z => lw_ifShed i _ _ _ _ _ _ _ hi hL hk hX (u_ifShed  _ _ _ _ _ s a v tx ld' ob _  hC) Z) (by decide) hi ?_
    exact K s H q m c _ _ _ _ _ _ _ _ _ _ _ _ _ _ _ ⟨hV, hq, hm, hc, h3, h4, h6, (hO 4 (by decide)).trans g4, (hO 6 (by decide)).trans g6, hS⟩
theorem op_bestStart {xs : Nat → Int32} {L i : Nat} (hi : i + 6 ≤ L) (hL : L < 2 ^ 31) (hk : xs i &&& 31 = 21) (K : LW xs L (i + 6)) : LW xs L i := by
  intro s H q m c t w ld sh o tx pl ka kb kc a v ld' ob E I
  obtain ⟨hV, hq, hm, hc, h3, h4, h6, g4, g6, hS⟩ := I
  · skip
    obtain ⟨T, LD, SH, hX⟩ := k_bestStart (xs := xs) (L := L) H s w o tx pl ka kb kc (dm s a v tx ld' ob) E hV t ld sh
    obtain ⟨A1, LD', OB, hO, hC⟩ := n_startBest (xs := xs) (L := L) H (cm s T w LD SH o tx pl ka kb kc) s v tx E (nI m) hV a ld' (upd ob 0 0) g4
    refine LW_go (k1 := 0) (fun _ _ _ Z => lw_bestStart i _ _ _ _ _ _ _ hi hL hk hX (u_bestStart  _ _ _ _ _ s a v tx ld' ob _  hC) Z) (by decide) hi ?_
    exact K s H q m c _ _ _ _ _ _ _ _ _ _ _ _ _ _ _ ⟨hV, hq, hm, hc, h3, h4, h6, (hO 4 (by decide)).trans g4, (hO 6 (by decide)).trans g6, hS⟩
theorem op_safeShare {xs : Nat → Int32} {L i : Nat} (hi : i + 6 ≤ L) (hL : L < 2 ^ 31) (hk : xs i &&& 31 = 22) (K : LW xs L (i + 6)) : LW xs L i := by
  intro s H q m c t w ld sh o tx pl ka kb kc a v ld' ob E I
  obtain ⟨hV, hq, hm, hc, h3, h4, h6, g4, g6, hS⟩ := I
  obtain ⟨a_, haH, ha⟩ := sfN_n H s hV.2.2.2.2.2.2.2.2.2.2
  refine LW_go (k1 := 0) (fun _ _ _ Z => lw_safeShare i _ _ _ _ _ _ _ hi hL hk (k_safe H a_ s t w ld sh o tx pl ka kb kc _ E hV ha haH) (u_safe _ _ s a v tx ld' ob _ (n_safe H a_ _ s a v tx ld' (upd ob 0 0) _ hV ha haH)) (dc_share hV.2.1.2 haH) Z) (by decide) hi ?_
  exact K s H q m c _ _ _ _ _ _ _ _ _ _ _ _ _ _ _ ⟨hV, hq, hm, hc, h3, h4, h6, g4, g6, hS⟩
theorem op_digest {xs : Nat → Int32} {L i : Nat} (hi : i + 6 ≤ L) (hL : L < 2 ^ 31) (hk : xs i &&& 31 = 23) (K : LW xs L (i + 6)) : LW xs L i := by
  intro s H q m c t w ld sh o tx pl ka kb kc a v ld' ob E I
  obtain ⟨hV, hq, hm, hc, h3, h4, h6, g4, g6, hS⟩ := I
  obtain ⟨a_, haH, ha⟩ := sfN_n H s hV.2.2.2.2.2.2.2.2.2.2
  obtain ⟨T, LD, SH, hX⟩ := k_digest (xs := xs) (L := L) H a_ c s w o tx pl ka kb kc (dm s a v tx ld' ob) E hV ha haH h6 hc t ld sh
  rw [h4] at hX
  obtain ⟨A1, LD', OB, hO0, hO, hM⟩ := n_digest (xs := xs) (L := L) H a_ (cm s T w LD SH o tx pl ka kb kc) s v tx E (nI m) c hV ha haH hc a ld' ob g4 g6
  refine LW_go (k1 := 0) (fun _ _ _ Z => lw_digest i _ _ _ _ _ _ _ _ hi hL hk hX hM Z) (by decide) hi ?_
  exact K s H q m c _ _ _ _ _ _ _ _ _ _ _ _ _ _ _ ⟨hV, hq, hm, hc, h3, h4, h6, (hO 4 (by decide) (by decide)).trans g4, (hO 6 (by decide) (by decide)).trans g6, hS⟩
theorem n_go0 {xs : Nat → Int32} {L : Nat} (c : Nat) (C : Nat → Nat → Nat → Int32) (s a v t ld ob : Nat → Int32) (E : Nat → Int64) (hc : c ≤ 60) (h6 : ob 6 = nI c) : ∃ OB : Nat → Int32, OB 13 = nI (gfF t c (c + 1) 0).2 ∧ OB 14 = (bif (gfF t c (c + 1) 0).1 then 1 else 0) ∧ (∀ k, k < 13 → OB k = ob k) ∧ z_Mt xs L m_X5_go [aR 0 32, aI 0] (C, dm s a v t ld ob, E) (.inl (some (aI (0 : Int32)))) (C, dm s a v t ld OB, E) 0 := by
  obtain ⟨OB, g1, g2, g3, K⟩ := n_goF (xs := xs) (L := L) c C s a v t ld E hc (c + 1) 0 (upd (upd ob 13 0) 14 0) (by omega) (by omega) h6 rfl rfl
  exact ⟨OB, g1, g2, fun k hk => (g3 k hk).trans ((upd_ne (by omega)).trans (upd_ne (by omega))), go_beg_0 C s a v t ld ob E K⟩
theorem n_go1 {xs : Nat → Int32} {L : Nat} (c H : Nat) (C : Nat → Nat → Nat → Int32) (s a v t ld ob : Nat → Int32) (E : Nat → Int64) (hc : c ≤ 60) (h6 : ob 6 = nI c) (hV : Vs s H) (hg : (gfF t c (c + 1) 0).1 = false) : ∃ LD OB : Nat → Int32, (∀ k, k < 8 → OB k = ob k) ∧ z_Mt xs L m_X5_go [aR 0 32, aI 1] (C, dm s a v t ld ob, E) (.inl (some (aI (nI (exL (opsF t c (c + 1) 0) s).1)))) (C, dm (exL (opsF t c (c + 1) 0) s).2 a v t LD OB, E) 0 := by
  obtain ⟨LD, OB, g, K⟩ := n_goT (xs := xs) (L := L) c C a v t E hc (c + 1) 0 0 H s ld (upd (upd ob 13 0) 14 0) (by omega) (by omega) hg hV (ops_ok _ _) h6 rfl rfl
  rw [Nat.zero_add] at K
  exact ⟨LD, OB, fun k hk => (g k hk).trans ((upd_ne (by omega)).trans (upd_ne (by omega))), go_beg_1 C s a v t ld ob E K⟩
theorem gf_2 {t : Nat → Int32} {c : Nat} (hc : c ≤ 60) (h : (gfF t c (c + 1) 0).1 = false) : (gfF t c (c + 1) 0).2 = c := by
  obtain ⟨-, l2⟩ := l_read (t := t) (c := c) (c + 1) 0 0 t t t (by omega) (by omega)
  exact (l2 h).1
theorem op_firstError {xs : Nat → Int32} {L i : Nat} (hi : i + 6 ≤ L) (hL : L < 2 ^ 31) (hk : xs i &&& 31 = 10) (K : LW xs L (i + 6)) : LW xs L i := by
  intro s H q m c t w ld sh o tx pl ka kb kc a v ld' ob E I
  obtain ⟨hV, hq, hm, hc, h3, h4, h6, g4, g6, hS⟩ := I
  obtain ⟨pl', A', B', C', hX⟩ := c_firstError (xs := xs) (L := L) c s t w ld sh o tx pl ka kb kc (dm s a v tx ld' ob) E h6 hc
  obtain ⟨OB, g1, g2, g3, hG⟩ := n_go0 (xs := xs) (L := L) c (cm s t w ld sh o tx pl' A' B' C') s a v tx ld' (upd ob 0 0) E hc g6
  have hM : z_Mt xs L m_X5_firstError [aR 0 32] (cm s t w ld sh o tx pl' A' B' C', dm s a v tx ld' ob, E) (.inl (some (aI (nI (gfF tx c (c + 1) 0).2)))) (cm s t w ld sh o tx pl' A' B' C', dm s a v tx ld' OB, E) 0 := by
    cases hg : (gfF tx c (c + 1) 0).1 with
    | true =>
      rw [hg] at g2
      rw [← g1]
      exact u_err_w OB _ s a v tx ld' ob E hG g2
    | false =>
      rw [hg] at g2
      rw [gf_2 hc hg, ← show OB 6 = nI c from (g3 6 (by decide)).trans g6]
      exact u_err_n OB _ s a v tx ld' ob E hG g2
  refine LW_go (k1 := 0) (fun _ _ _ Z => lw_firstError i _ _ _ _ _ _ _ hi hL hk hX hM Z) (by decide) hi ?_
  exact K s H q m c _ _ _ _ _ _ _ _ _ _ _ _ _ _ _ ⟨hV, hq, hm, hc, h3, h4, h6, (g3 4 (by decide)).trans g4, (g3 6 (by decide)).trans g6, hS⟩
theorem op_run {xs : Nat → Int32} {L i : Nat} (hi : i + 6 ≤ L) (hL : L < 2 ^ 31) (hk : xs i &&& 31 = 11) (K : LW xs L (i + 6)) : LW xs L i := by
  intro s H q m c t w ld sh o tx pl ka kb kc a v ld' ob E I
  obtain ⟨hV, hq, hm, hc, h3, h4, h6, g4, g6, hS⟩ := I
  cases hg : (gfF tx c (c + 1) 0).1 with
  | true =>
    obtain ⟨pl', A', B', C', hX⟩ := c_runA (xs := xs) (L := L) c s t w ld sh o tx pl ka kb kc (dm s a v tx ld' ob) E h6 hc hg
    obtain ⟨OB, g1, g2, g3, hG⟩ := n_go0 (xs := xs) (L := L) c (cm s t w ld sh o tx pl' A' B' C') s a v tx ld' ob E hc g6
    rw [hg] at g2
    refine LW_go (k1 := 1) (fun _ _ _ Z => lw_run i 1 0 _ _ _ _ _ _ hi hL hk (w_run_0 _ _ _ _ hX) (u_runA OB _ s a v tx ld' ob E hG g2) (m_thrown _ _ _ _ _ _ _ _) (fun z => absurd z (by decide)) Z) (by decide) hi ?_
    exact K s H q m c _ _ _ _ _ _ _ _ _ _ _ _ _ _ _ ⟨hV, hq, hm, hc, h3, h4, h6, (g3 4 (by decide)).trans g4, (g3 6 (by decide)).trans g6, hS⟩
  | false =>
    obtain ⟨pl', LD, SH, A', B', C', hX⟩ := c_run (xs := xs) (L := L) c H s t w ld sh o tx pl ka kb kc (dm s a v tx ld' ob) E q m h3 h4 hq hm (Vs_b5 hV) (Vs_b6 hV) h6 hc hV hg
    obtain ⟨H', hV'⟩ := exL_V (opsF tx c (c + 1) 0) hV (ops_ok _ _)
    obtain ⟨OB, g1, g2, g3, hG⟩ := n_go0 (xs := xs) (L := L) c (cm (exL (opsF tx c (c + 1) 0) s).2 t (svV w s q m) LD SH (upd (svO o q m) 6 0) tx pl' A' B' C') s a v tx ld' ob (vp_updL E 1 (nI (exL (opsF tx c (c + 1) 0) s).1).toInt64) hc g6
    rw [hg] at g2
    obtain ⟨LD', OB2, g5, hG2⟩ := n_go1 (xs := xs) (L := L) c H (cm (exL (opsF tx c (c + 1) 0) s).2 t (svV w s q m) LD SH (upd (svO o q m) 6 0) tx pl' A' B' C') s a (mvV v s m) tx ld' (upd (upd OB 0 0) 4 (nI (svm m + 1))) (vp_updL E 1 (nI (exL (opsF tx c (c + 1) 0) s).1).toInt64) hc ((g3 6 (by decide)).trans g6) hV hg
    have hT := m_thrown (xs := xs) (L := L) (cm (exL (opsF tx c (c + 1) 0) s).2 t (svV w s q m) LD SH (upd (svO o q m) 6 0) tx pl' A' B' C') (exL (opsF tx c (c + 1) 0) s).2 a (mvV v s m) tx LD' (upd OB2 6 0) (vp_updL E 1 (nI (exL (opsF tx c (c + 1) 0) s).1).toInt64)
    rw [show upd OB2 6 0 0 = 0 from (g5 0 (by decide)).trans rfl] at hT
    refine LW_go (k1 := 0) (fun _ _ _ Z => lw_run i 0 _ _ _ _ _ _ _ hi hL hk (w_run _ _ _ _ _ hX) (u_run m _ OB _ _ OB2 _ s a v tx ld' ob _ hG g2 ((g3 4 (by decide)).trans g4) hm hG2) hT (fun _ => eL1) Z) (by decide) hi ?_
    exact K _ H' (svq q m) (svm m + 1) 0 _ _ _ _ _ _ _ _ _ _ _ _ _ _ _ ⟨hV', svq_lt hq, svm_le hm, by decide, rfl, rfl, rfl, (g5 4 (by decide)).trans rfl, rfl, SI_sv hS hq hm hV⟩
theorem LW_all {xs : Nat → Int32} {L : Nat} (hL : L < 2 ^ 31) : ∀ (d i : Nat), L ≤ i + d → i ≤ L → LW xs L i := by
  intro d
  induction d using Nat.strongRecOn with
  | _ d ih =>
  intro i hd hiL
  by_cases hi : i + 6 ≤ L
  · have K : LW xs L (i + 6) := ih (d - 6) (by omega) (i + 6) (by omega) hi
    obtain ⟨k, hk32, hk⟩ := and31 (xs i)
    rcases (show k = 0 ∨ k = 1 ∨ k = 2 ∨ k = 3 ∨ k = 4 ∨ k = 5 ∨ k = 6 ∨ k = 7 ∨ k = 8 ∨ k = 9 ∨ k = 10 ∨ k = 11 ∨ k = 12 ∨ k = 13 ∨ k = 14 ∨ k = 15 ∨ k = 16 ∨ k = 17 ∨ k = 18 ∨ k = 19 ∨ k = 20 ∨ k = 21 ∨ k = 22 ∨ k = 23 ∨ k = 24 ∨ k = 25 ∨ k = 26 ∨ k = 27 ∨ k = 28 ∨ k = 29 ∨ k = 30 ∨ k = 31 by omega) with e | e | e | e | e | e | e | e | e | e | e | e | e | e | e | e | e | e | e | e | e | e | e | e | e | e | e | e | e | e | e | e <;> subst e
    · exact op_rate hi hL hk K
    · exact op_start hi hL hk K
    · exact op_stop hi hL hk K
    · exact op_lose hi hL hk K
    · exact op_shed hi hL hk K
    · exact op_forecast hi hL hk K
    · exact op_pass hi hL hk K
    · exact op_set hi hL hk K
    · exact op_append hi hL hk K
    · exact op_clearBuffer hi hL hk K
    · exact op_firstError hi hL hk K
    · exact op_run hi hL hk K
    · exact op_undo hi hL hk K
    · exact op_setOf hi hL hk K
    · exact op_hour hi hL hk K
    · exact op_count hi hL hk K
    · exact op_setting hi hL hk K
    · exact op_ifLost hi hL hk K
    · exact op_cheapest hi hL hk K
    · exact op_firstDark hi hL hk K
    · exact op_ifShed hi hL hk K
    · exact op_bestStart hi hL hk K
    · exact op_safeShare hi hL hk K
    · exact op_digest hi hL hk K
    · exact fun s H q m c t w ld sh o tx pl ka kb kc a v ld' ob E I => LW_go (k1 := 0) (fun _ _ _ Z => by rw [Nat.zero_add]; exact lw_24 i _ _ _ hi hL hk Z) (by decide) hi (K s H q m c t w ld sh o tx pl ka kb kc a v ld' ob E I)
    · exact fun s H q m c t w ld sh o tx pl ka kb kc a v ld' ob E I => LW_go (k1 := 0) (fun _ _ _ Z => by rw [Nat.zero_add]; exact lw_25 i _ _ _ hi hL hk Z) (by decide) hi (K s H q m c t w ld sh o tx pl ka kb kc a v ld' ob E I)
    · exact fun s H q m c t w ld sh o tx pl ka kb kc a v ld' ob E I => LW_go (k1 := 0) (fun _ _ _ Z => by rw [Nat.zero_add]; exact lw_26 i _ _ _ hi hL hk Z) (by decide) hi (K s H q m c t w ld sh o tx pl ka kb kc a v ld' ob E I)
    · exact fun s H q m c t w ld sh o tx pl ka kb kc a v ld' ob E I => LW_go (k1 := 0) (fun _ _ _ Z => by rw [Nat.zero_add]; exact lw_27 i _ _ _ hi hL hk Z) (by decide) hi (K s H q m c t w ld sh o tx pl ka kb kc a v ld' ob E I)
    · exact fun s H q m c t w ld sh o tx pl ka kb kc a v ld' ob E I => LW_go (k1 := 0) (fun _ _ _ Z => by rw [Nat.zero_add]; exact lw_28 i _ _ _ hi hL hk Z) (by decide) hi (K s H q m c t w ld sh o tx pl ka kb kc a v ld' ob E I)
    · exact fun s H q m c t w ld sh o tx pl ka kb kc a v ld' ob E I => LW_go (k1 := 0) (fun _ _ _ Z => by rw [Nat.zero_add]; exact lw_29 i _ _ _ hi hL hk Z) (by decide) hi (K s H q m c t w ld sh o tx pl ka kb kc a v ld' ob E I)
    · exact fun s H q m c t w ld sh o tx pl ka kb kc a v ld' ob E I => LW_go (k1 := 0) (fun _ _ _ Z => by rw [Nat.zero_add]; exact lw_30 i _ _ _ hi hL hk Z) (by decide) hi (K s H q m c t w ld sh o tx pl ka kb kc a v ld' ob E I)
    · exact fun s H q m c t w ld sh o tx pl ka kb kc a v ld' ob E I => LW_go (k1 := 0) (fun _ _ _ Z => by rw [Nat.zero_add]; exact lw_31 i _ _ _ hi hL hk Z) (by decide) hi (K s H q m c t w ld sh o tx pl ka kb kc a v ld' ob E I)
  · exact fun s H q m c t w ld sh o tx pl ka kb kc a v ld' ob E I => ⟨0, _, _, _, by omega, lw_end i _ _ _ hi hiL hL⟩
