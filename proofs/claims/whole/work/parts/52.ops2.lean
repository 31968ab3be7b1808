/-! THE LAW: forecast, pass, set, setting, append, clearBuffer, undo -/
theorem up40 {s : Nat → Int32} {H h : Nat} {x : Int32} (hV : Vs s H) (hh : h < 48) (hx : 0 ≤ x ∧ x ≤ 1500) : Vs (upd s (40 + h) x) H :=
  Vs_up hV (Or.inr (Or.inr (Or.inr ⟨by omega, by omega⟩))) ⟨fun z => absurd z (by omega), fun z => absurd z (by omega), fun z => absurd z (by omega), fun _ => ⟨(ge_i (a := 0) (by decide)).mp hx.1, (le_i (a := 1500) (by decide)).mp hx.2⟩⟩
theorem up32 {s : Nat → Int32} {H : Nat} {x : Int32} (hV : Vs s H) (hx : 0 ≤ x ∧ x ≤ 300) : Vs (upd s 32 x) H :=
  Vs_up hV (Or.inl rfl) ⟨fun _ => ⟨(ge_i (a := 0) (by decide)).mp hx.1, (le_i (a := 300) (by decide)).mp hx.2⟩, fun z => absurd z (by decide), fun z => absurd z (by decide), fun z => absurd z (by decide)⟩
theorem up33 {s : Nat → Int32} {H : Nat} {x : Int32} (hV : Vs s H) (hx : 0 ≤ x ∧ x ≤ 48) : Vs (upd s 33 x) H :=
  Vs_up hV (Or.inr (Or.inl rfl)) ⟨fun z => absurd z (by decide), fun _ => ⟨(ge_i (a := 0) (by decide)).mp hx.1, (le_i (a := 48) (by decide)).mp hx.2⟩, fun z => absurd z (by decide), fun z => absurd z (by decide)⟩
theorem nI_leb {a b : Nat} (ha : a < 2 ^ 31) (hb : b < 2 ^ 31) : nI a ≤ nI b ↔ a ≤ b := by
  rw [Int32.le_iff_toInt_le, nI_toInt ha, nI_toInt hb]
  omega
theorem op_forecast {xs : Nat → Int32} {L i : Nat} (hi : i + 6 ≤ L) (hL : L < 2 ^ 31) (hk : xs i &&& 31 = 5) (K : LW xs L (i + 6)) : LW xs L i := by
  intro s H q m c t w ld sh o tx pl ka kb kc a v ld' ob E I
  obtain ⟨hV, hq, hm, hc, h3, h4, h6, g4, g6, hS⟩ := I
  by_cases hA : (0 ≤ xs (i + 1) ∧ xs (i + 1) ≤ 47) ∧ 0 ≤ xs (i + 2) ∧ xs (i + 2) ≤ 1500
  · obtain ⟨h, p1, -, hh⟩ := bet (a := 0) (b := 47) hA.1 (by decide) (by decide)
    refine LW_go (k1 := 0) (fun _ _ _ Z => lw_forecast i _ _ 0 _ _ _ _ _ _ _ hi hL hk p1 rfl (w_forecast _ _ _ _ _ _ _ (c_forecast h _ s t w ld sh o tx pl ka kb kc _ E (by omega) hA.2 q m h3 h4 hq hm (Vs_b5 hV) (Vs_b6 hV))) (u_forecast h _ _ s a v tx ld' ob _ (by omega) (by rw [← p1]; exact hA.1) hA.2 m g4 hm) (m_thrown _ _ _ _ _ _ _ _) (fun _ => eL1) Z) (by decide) hi ?_
    exact K _ H (svq q m) (svm m + 1) c _ _ _ _ _ _ _ _ _ _ _ _ _ _ _ ⟨up40 hV (by omega) hA.2, svq_lt hq, svm_le hm, hc, rfl, rfl, h6, rfl, g6, SI_sv hS hq hm hV⟩
  · skip
    refine LW_go (k1 := 1) (fun _ _ _ Z => lw_forecast i _ _ 1 0 _ _ _ _ _ _ hi hL hk rfl rfl (w_forecast_0 _ _ _ _ _ _ (c_forecastA _ _ s t w ld sh o tx pl ka kb kc _ E hA)) (u_forecastA _ _ _ s a v tx ld' ob _ hA) (m_thrown _ _ _ _ _ _ _ _) (fun z => absurd z (by decide)) Z) (by decide) hi ?_
    exact K s H q m c _ _ _ _ _ _ _ _ _ _ _ _ _ _ _ ⟨hV, hq, hm, hc, h3, h4, h6, g4, g6, hS⟩
theorem op_pass {xs : Nat → Int32} {L i : Nat} (hi : i + 6 ≤ L) (hL : L < 2 ^ 31) (hk : xs i &&& 31 = 6) (K : LW xs L (i + 6)) : LW xs L i := by
  intro s H q m c t w ld sh o tx pl ka kb kc a v ld' ob E I
  obtain ⟨hV, hq, hm, hc, h3, h4, h6, g4, g6, hS⟩ := I
  by_cases hA : 1 ≤ xs (i + 1) ∧ xs (i + 1) ≤ 48
  · obtain ⟨k, p1, hk1, hk2⟩ := bet (a := 1) (b := 48) hA (by decide) (by decide)
    have hA2 : 1 ≤ nI k ∧ nI k ≤ 48 := by rw [← p1]; exact hA
    have e34 : (s 34 + nI k ≤ 48) ↔ H + k ≤ 48 := by
      have := hV.2.1.2
      rw [Vs_34 hV, nI_add]
      exact nI_leb (b := 48) (by omega) (by decide)
    by_cases hp : H + k ≤ 48
    · have hZ := Vs_goM k hV hp
      have hX := c_pass (xs := xs) (L := L) k H (cTI k (s, ld, sh)).1 (cTI k (s, ld, sh)).2.1 (cTI k (s, ld, sh)).2.2 s t w ld sh o tx pl ka kb kc (dm s a v tx ld' ob) E hV hk1 hp rfl (by rw [cTI_1]; exact hZ) q m h3 h4 hq hm (Vs_b5 hV) (Vs_b6 hV)
      rw [cTI_1] at hX
      dsimp only at hX
      rw [Vs_dk hZ, Vs_dk hV] at hX
      obtain ⟨LD, OB, hO, hP⟩ := n_passes (xs := xs) (L := L) (cm (goM k s) t (svV w s q m) (cTI k (s, ld, sh)).2.1 (cTI k (s, ld, sh)).2.2 (svO o q m) tx pl ka kb kc) s a (mvV v s m) tx ld' (upd (upd ob 0 0) 4 (nI (svm m + 1))) (vp_updL E 1 (goM k s 38 - s 38).toInt64) k hV hp
      have hT := m_thrown (xs := xs) (L := L) (cm (goM k s) t (svV w s q m) (cTI k (s, ld, sh)).2.1 (cTI k (s, ld, sh)).2.2 (svO o q m) tx pl ka kb kc) (goM k s) a (mvV v s m) tx LD OB (vp_updL E 1 (goM k s 38 - s 38).toInt64)
      rw [hO 0 (by decide), show upd (upd ob 0 0) 4 (nI (svm m + 1)) 0 = 0 from rfl] at hT
      refine LW_go (k1 := 0) (fun _ _ _ Z => lw_pass i _ 0 _ _ _ _ _ _ _ hi hL hk p1 (w_pass _ _ _ _ _ _ hX) (u_pass k _ _ _ _ _ s a v tx ld' ob _ hA2 (e34.mpr hp) m g4 hm hP) hT (fun _ => eL1) Z) (by decide) hi ?_
      exact K _ (H + k) (svq q m) (svm m + 1) c _ _ _ _ _ _ _ _ _ _ _ _ _ _ _ ⟨hZ, svq_lt hq, svm_le hm, hc, rfl, rfl, h6, hO 4 (by decide), (hO 6 (by decide)).trans g6, SI_sv hS hq hm hV⟩
    · skip
      refine LW_go (k1 := 1) (fun _ _ _ Z => lw_pass i _ 2 0 _ _ _ _ _ _ hi hL hk p1 (w_pass_1 _ _ _ _ _ (c_passS k H s t w ld sh o tx pl ka kb kc _ E hV hk1 hk2 hp)) (u_passS k _ s a v tx ld' ob _ hA2 (fun z => hp (e34.mp z))) (m_thrown _ _ _ _ _ _ _ _) (fun z => absurd z (by decide)) Z) (by decide) hi ?_
      exact K s H q m c _ _ _ _ _ _ _ _ _ _ _ _ _ _ _ ⟨hV, hq, hm, hc, h3, h4, h6, g4, g6, hS⟩
  · skip
    refine LW_go (k1 := 1) (fun _ _ _ Z => lw_pass i _ 1 0 _ _ _ _ _ _ hi hL hk rfl (w_pass_0 _ _ _ _ _ (c_passA _ s t w ld sh o tx pl ka kb kc _ E hA)) (u_passA _ _ s a v tx ld' ob _ hA) (m_thrown _ _ _ _ _ _ _ _) (fun z => absurd z (by decide)) Z) (by decide) hi ?_
    exact K s H q m c _ _ _ _ _ _ _ _ _ _ _ _ _ _ _ ⟨hV, hq, hm, hc, h3, h4, h6, g4, g6, hS⟩
theorem op_set_0 {xs : Nat → Int32} {L i : Nat} (hi : i + 6 ≤ L) (hL : L < 2 ^ 31) (hk : xs i &&& 31 = 7) (p1 : xs (i + 1) = 0) (K : LW xs L (i + 6)) : LW xs L i := by
  intro s H q m c t w ld sh o tx pl ka kb kc a v ld' ob E I
  obtain ⟨hV, hq, hm, hc, h3, h4, h6, g4, g6, hS⟩ := I
  by_cases hp : 0 ≤ xs (i + 2) ∧ xs (i + 2) ≤ 300
  · skip
    refine LW_go (k1 := 0) (fun _ _ _ Z => lw_set i _ _ 0 _ _ _ _ _ _ _ hi hL hk p1 rfl (w_set _ _ _ _ _ _ _ (c_set_0 _ s t w ld sh o tx pl ka kb kc _ E hp q m h3 h4 hq hm (Vs_b5 hV) (Vs_b6 hV))) (u_set_0 _ _ s a v tx ld' ob _ hp m g4 hm) (m_thrown _ _ _ _ _ _ _ _) (fun _ => eL1) Z) (by decide) hi ?_
    exact K _ H (svq q m) (svm m + 1) c _ _ _ _ _ _ _ _ _ _ _ _ _ _ _ ⟨up32 hV hp, svq_lt hq, svm_le hm, hc, rfl, rfl, h6, rfl, g6, SI_sv hS hq hm hV⟩
  · skip
    refine LW_go (k1 := 1) (fun _ _ _ Z => lw_set i _ _ 2 0 _ _ _ _ _ _ hi hL hk p1 rfl (w_set_0 _ _ _ _ _ _ (c_setA_0 _ s t w ld sh o tx pl ka kb kc _ E hp)) (u_setA_0 _ _ s a v tx ld' ob _ hp) (m_thrown _ _ _ _ _ _ _ _) (fun z => absurd z (by decide)) Z) (by decide) hi ?_
    exact K s H q m c _ _ _ _ _ _ _ _ _ _ _ _ _ _ _ ⟨hV, hq, hm, hc, h3, h4, h6, g4, g6, hS⟩
theorem op_setting_0 {xs : Nat → Int32} {L i : Nat} (hi : i + 6 ≤ L) (hL : L < 2 ^ 31) (hk : xs i &&& 31 = 16) (p1 : xs (i + 1) = 0) (K : LW xs L (i + 6)) : LW xs L i := by
  intro s H q m c t w ld sh o tx pl ka kb kc a v ld' ob E I
  obtain ⟨hV, hq, hm, hc, h3, h4, h6, g4, g6, hS⟩ := I
  refine LW_go (k1 := 0) (fun _ _ _ Z => lw_setting i _ 0 _ _ _ _ _ _ _ hi hL hk p1 (w_setting _ _ _ _ _ _ (c_setting_0 s t w ld sh o tx pl ka kb kc _ E)) (u_setting_0 _ s a v tx ld' ob _) (m_thrown _ _ _ _ _ _ _ _) (fun _ => eL1) Z) (by decide) hi ?_
  exact K s H q m c _ _ _ _ _ _ _ _ _ _ _ _ _ _ _ ⟨hV, hq, hm, hc, h3, h4, h6, g4, g6, hS⟩
theorem op_set_1 {xs : Nat → Int32} {L i : Nat} (hi : i + 6 ≤ L) (hL : L < 2 ^ 31) (hk : xs i &&& 31 = 7) (p1 : xs (i + 1) = 1) (K : LW xs L (i + 6)) : LW xs L i := by
  intro s H q m c t w ld sh o tx pl ka kb kc a v ld' ob E I
  obtain ⟨hV, hq, hm, hc, h3, h4, h6, g4, g6, hS⟩ := I
  by_cases hp : 0 ≤ xs (i + 2) ∧ xs (i + 2) ≤ 48
  · skip
    refine LW_go (k1 := 0) (fun _ _ _ Z => lw_set i _ _ 0 _ _ _ _ _ _ _ hi hL hk p1 rfl (w_set _ _ _ _ _ _ _ (c_set_1 _ s t w ld sh o tx pl ka kb kc _ E hp q m h3 h4 hq hm (Vs_b5 hV) (Vs_b6 hV))) (u_set_1 _ _ s a v tx ld' ob _ hp m g4 hm) (m_thrown _ _ _ _ _ _ _ _) (fun _ => eL1) Z) (by decide) hi ?_
    exact K _ H (svq q m) (svm m + 1) c _ _ _ _ _ _ _ _ _ _ _ _ _ _ _ ⟨up33 hV hp, svq_lt hq, svm_le hm, hc, rfl, rfl, h6, rfl, g6, SI_sv hS hq hm hV⟩
  · skip
    refine LW_go (k1 := 1) (fun _ _ _ Z => lw_set i _ _ 2 0 _ _ _ _ _ _ hi hL hk p1 rfl (w_set_0 _ _ _ _ _ _ (c_setA_1 _ s t w ld sh o tx pl ka kb kc _ E hp)) (u_setA_1 _ _ s a v tx ld' ob _ hp) (m_thrown _ _ _ _ _ _ _ _) (fun z => absurd z (by decide)) Z) (by decide) hi ?_
    exact K s H q m c _ _ _ _ _ _ _ _ _ _ _ _ _ _ _ ⟨hV, hq, hm, hc, h3, h4, h6, g4, g6, hS⟩
theorem op_setting_1 {xs : Nat → Int32} {L i : Nat} (hi : i + 6 ≤ L) (hL : L < 2 ^ 31) (hk : xs i &&& 31 = 16) (p1 : xs (i + 1) = 1) (K : LW xs L (i + 6)) : LW xs L i := by
  intro s H q m c t w ld sh o tx pl ka kb kc a v ld' ob E I
  obtain ⟨hV, hq, hm, hc, h3, h4, h6, g4, g6, hS⟩ := I
  refine LW_go (k1 := 0) (fun _ _ _ Z => lw_setting i _ 0 _ _ _ _ _ _ _ hi hL hk p1 (w_setting _ _ _ _ _ _ (c_setting_1 s t w ld sh o tx pl ka kb kc _ E)) (u_setting_1 _ s a v tx ld' ob _) (m_thrown _ _ _ _ _ _ _ _) (fun _ => eL1) Z) (by decide) hi ?_
  exact K s H q m c _ _ _ _ _ _ _ _ _ _ _ _ _ _ _ ⟨hV, hq, hm, hc, h3, h4, h6, g4, g6, hS⟩
theorem op_set {xs : Nat → Int32} {L i : Nat} (hi : i + 6 ≤ L) (hL : L < 2 ^ 31) (hk : xs i &&& 31 = 7) (K : LW xs L (i + 6)) : LW xs L i := by
  intro s H q m c t w ld sh o tx pl ka kb kc a v ld' ob E I
  obtain ⟨hV, hq, hm, hc, h3, h4, h6, g4, g6, hS⟩ := I
  by_cases hA : 0 ≤ xs (i + 1) ∧ xs (i + 1) ≤ 1
  · have I : INV s H q m c w v o ob := ⟨hV, hq, hm, hc, h3, h4, h6, g4, g6, hS⟩
    rcases s2 hA with p1 | p1
    · exact op_set_0 hi hL hk p1 K s H q m c _ _ _ _ _ _ _ _ _ _ _ _ _ _ _ I
    · exact op_set_1 hi hL hk p1 K s H q m c _ _ _ _ _ _ _ _ _ _ _ _ _ _ _ I
  · skip
    refine LW_go (k1 := 1) (fun _ _ _ Z => lw_set i _ _ 1 0 _ _ _ _ _ _ hi hL hk rfl rfl (w_set_2 _ _ _ _ _ _ (c_setX _ _ s t w ld sh o tx pl ka kb kc _ E hA)) (u_setX _ _ _ s a v tx ld' ob _ hA) (m_thrown _ _ _ _ _ _ _ _) (fun z => absurd z (by decide)) Z) (by decide) hi ?_
    exact K s H q m c _ _ _ _ _ _ _ _ _ _ _ _ _ _ _ ⟨hV, hq, hm, hc, h3, h4, h6, g4, g6, hS⟩
theorem op_setting {xs : Nat → Int32} {L i : Nat} (hi : i + 6 ≤ L) (hL : L < 2 ^ 31) (hk : xs i &&& 31 = 16) (K : LW xs L (i + 6)) : LW xs L i := by
  intro s H q m c t w ld sh o tx pl ka kb kc a v ld' ob E I
  obtain ⟨hV, hq, hm, hc, h3, h4, h6, g4, g6, hS⟩ := I
  by_cases hA : 0 ≤ xs (i + 1) ∧ xs (i + 1) ≤ 1
  · have I : INV s H q m c w v o ob := ⟨hV, hq, hm, hc, h3, h4, h6, g4, g6, hS⟩
    rcases s2 hA with p1 | p1
    · exact op_setting_0 hi hL hk p1 K s H q m c _ _ _ _ _ _ _ _ _ _ _ _ _ _ _ I
    · exact op_setting_1 hi hL hk p1 K s H q m c _ _ _ _ _ _ _ _ _ _ _ _ _ _ _ I
  · skip
    refine LW_go (k1 := 1) (fun _ _ _ Z => lw_setting i _ 1 0 _ _ _ _ _ _ hi hL hk rfl (w_setting_2 _ _ _ _ _ (c_settingX _ 0 s t w ld sh o tx pl ka kb kc _ E hA)) (u_settingX _ _ s a v tx ld' ob _ hA) (m_thrown _ _ _ _ _ _ _ _) (fun z => absurd z (by decide)) Z) (by decide) hi ?_
    exact K s H q m c _ _ _ _ _ _ _ _ _ _ _ _ _ _ _ ⟨hV, hq, hm, hc, h3, h4, h6, g4, g6, hS⟩
theorem op_append {xs : Nat → Int32} {L i : Nat} (hi : i + 6 ≤ L) (hL : L < 2 ^ 31) (hk : xs i &&& 31 = 8) (K : LW xs L (i + 6)) : LW xs L i := by
  intro s H q m c t w ld sh o tx pl ka kb kc a v ld' ob E I
  obtain ⟨hV, hq, hm, hc, h3, h4, h6, g4, g6, hS⟩ := I
  by_cases hA : 33 ≤ xs (i + 1) ∧ xs (i + 1) ≤ 126
  · by_cases hp : c < 60
    · skip
      refine LW_go (k1 := 0) (fun _ _ _ Z => lw_append i _ 0 _ _ _ _ _ _ _ hi hL hk rfl (w_append _ _ _ _ _ _ (c_append _ s t w ld sh o tx pl ka kb kc _ E c h6 hp hA)) (u_append c _ _ s a v tx ld' ob _ g6 hp hA) (m_thrown _ _ _ _ _ _ _ _) (fun _ => eL1) Z) (by decide) hi ?_
      exact K s H q m (c + 1) _ _ _ _ _ _ _ _ _ _ _ _ _ _ _ ⟨hV, hq, hm, hp, h3, h4, rfl, g4, rfl, hS⟩
    · have e : c = 60 := by omega
      refine LW_go (k1 := 1) (fun _ _ _ Z => lw_append i _ 2 0 _ _ _ _ _ _ hi hL hk rfl (w_append_1 _ _ _ _ _ (c_appendS _ s t w ld sh o tx pl ka kb kc _ E c h6 e hA)) (u_appendS _ _ s a v tx ld' ob _ (by rw [g6, e]; rfl) hA) (m_thrown _ _ _ _ _ _ _ _) (fun z => absurd z (by decide)) Z) (by decide) hi ?_
      exact K s H q m c _ _ _ _ _ _ _ _ _ _ _ _ _ _ _ ⟨hV, hq, hm, hc, h3, h4, h6, g4, g6, hS⟩
  · skip
    refine LW_go (k1 := 1) (fun _ _ _ Z => lw_append i _ 1 0 _ _ _ _ _ _ hi hL hk rfl (w_append_0 _ _ _ _ _ (c_appendA _ s t w ld sh o tx pl ka kb kc _ E hA)) (u_appendA _ _ s a v tx ld' ob _ hA) (m_thrown _ _ _ _ _ _ _ _) (fun z => absurd z (by decide)) Z) (by decide) hi ?_
    exact K s H q m c _ _ _ _ _ _ _ _ _ _ _ _ _ _ _ ⟨hV, hq, hm, hc, h3, h4, h6, g4, g6, hS⟩
theorem op_clearBuffer {xs : Nat → Int32} {L i : Nat} (hi : i + 6 ≤ L) (hL : L < 2 ^ 31) (hk : xs i &&& 31 = 9) (K : LW xs L (i + 6)) : LW xs L i := by
  intro s H q m c t w ld sh o tx pl ka kb kc a v ld' ob E I
  obtain ⟨hV, hq, hm, hc, h3, h4, h6, g4, g6, hS⟩ := I
  have hX := c_clear (xs := xs) (L := L) s t w ld sh o tx pl ka kb kc (dm s a v tx ld' ob) E
  have hM := u_clear (xs := xs) (L := L) (cm s t w ld sh (upd o 6 0) tx pl ka kb kc) s a v tx ld' ob E
  rw [h6] at hX
  rw [g6] at hM
  refine LW_go (k1 := 0) (fun _ _ _ Z => lw_clearBuffer i _ _ _ _ _ _ _ hi hL hk hX hM Z) (by decide) hi ?_
  exact K s H q m 0 _ _ _ _ _ _ _ _ _ _ _ _ _ _ _ ⟨hV, hq, hm, by decide, h3, h4, rfl, g4, rfl, hS⟩
theorem op_undo {xs : Nat → Int32} {L i : Nat} (hi : i + 6 ≤ L) (hL : L < 2 ^ 31) (hk : xs i &&& 31 = 12) (K : LW xs L (i + 6)) : LW xs L i := by
  intro s H q m c t w ld sh o tx pl ka kb kc a v ld' ob E I
  obtain ⟨hV, hq, hm, hc, h3, h4, h6, g4, g6, hS⟩ := I
  cases m with
  | zero =>
    refine LW_go (k1 := 1) (fun _ _ _ Z => lw_undo i  1 0 _ _ _ _ _ _ hi hL hk  (w_undo_1  _ _ _ _ (c_undoA s t w ld sh o tx pl ka kb kc _ E h4)) (u_undoA _ s a v tx ld' ob _ g4) (m_thrown _ _ _ _ _ _ _ _) (fun z => absurd z (by decide)) Z) (by decide) hi ?_
    exact K s H q 0 c _ _ _ _ _ _ _ _ _ _ _ _ _ _ _ ⟨hV, hq, hm, hc, h3, h4, h6, g4, g6, hS⟩
  | succ m =>
    obtain ⟨H', hV', hE'⟩ := SI_un (s := s) hS
    obtain ⟨⟨Hr, hVr⟩, -⟩ := hS m (by omega)
    have hX := c_undo (xs := xs) (L := L) m ((q + m) % 6) s t w ld sh o tx pl ka kb kc (dm s a v tx ld' ob) E h4 (by omega) (by rw [h3]; exact un_r hq (by omega)) (by omega) (Vs_b5 hVr) (Vs_b6 hVr)
    rw [cmn_congr (a := w ((q + m) % 6)) (b := gu s v (376 * m) 376) (fun j hj => hE' j hj.1)] at hX
    refine LW_go (k1 := 0) (fun _ _ _ Z => lw_undo i  0 _ _ _ _ _ _ _ hi hL hk  (w_undo  _ _ _ _ _ (hX)) (u_undo m _ s a v tx ld' ob _ g4 (by omega)) (m_thrown _ _ _ _ _ _ _ _) (fun _ => eL1) Z) (by decide) hi ?_
    exact K (gu s v (376 * m) 376) H' q m c _ _ _ _ _ _ _ _ _ _ _ _ _ _ _ ⟨hV', hq, by omega, hc, h3, rfl, h6, rfl, g6, SI_down hS⟩
