/-! THE LAW: rate, start, stop, lose, shed -/
theorem eL1 {E : Nat → Int64} {x : Int64} : vp_updL E 1 x 1 = x := if_pos rfl
/-- from the head of the loop at i the law comes to its end with true -/
def RG (xs : Nat → Int32) (L i : Nat) (M : Mem) : Prop := ∃ (k : Nat) (C' : Nat → Nat → Nat → Int32) (D' : Nat → Nat → Int32) (E' : Nat → Int64), 6 * k ≤ L - i ∧ z_Ev xs L m_L_law (23, [some (aR 0 41), some (aR 0 16), some (aR 0 32), some (aR 0 40), some (aI (nI i)), none, none, none, none], [], M) (.inl (some (aI 1))) (C', D', E') k
theorem LW_go {xs : Nat → Int32} {L i k1 : Nat} {M M1 : Mem} (h : ∀ (o_ : z_Rs) (M' : Mem) (kk : Nat), z_Ev xs L m_L_law (23, [some (aR 0 41), some (aR 0 16), some (aR 0 32), some (aR 0 40), some (aI (nI (i + 6))), none, none, none, none], [], M1) o_ M' kk → z_Ev xs L m_L_law (23, [some (aR 0 41), some (aR 0 16), some (aR 0 32), some (aR 0 40), some (aI (nI i)), none, none, none, none], [], M) o_ M' (k1 + kk)) (hk : k1 ≤ 1) (hi : i + 6 ≤ L) (R : RG xs L (i + 6) M1) : RG xs L i M := by
  obtain ⟨k, C', D', E', hb, hR⟩ := R
  exact ⟨k1 + k, C', D', E', by omega, h _ _ _ hR⟩
/-- class and model hold the same -/
def INV (s : Nat → Int32) (H q m c : Nat) (w : Nat → Nat → Int32) (v o ob : Nat → Int32) : Prop := Vs s H ∧ q < 6 ∧ m ≤ 6 ∧ c ≤ 60 ∧ o 3 = nI q ∧ o 4 = nI m ∧ o 6 = nI c ∧ ob 4 = nI m ∧ ob 6 = nI c ∧ SI q m w v
def LW (xs : Nat → Int32) (L i : Nat) : Prop := ∀ (s : Nat → Int32) (H q m c : Nat) (t : Nat → Int32) (w : Nat → Nat → Int32) (ld sh o tx pl ka kb kc a v ld' ob : Nat → Int32) (E : Nat → Int64), INV s H q m c w v o ob → RG xs L i (cm s t w ld sh o tx pl ka kb kc, dm s a v tx ld' ob, E)
theorem s4 {x : Int32} (h : 0 ≤ x ∧ x ≤ 3) : x = 0 ∨ x = 1 ∨ x = 2 ∨ x = 3 := by
  obtain ⟨k, rfl, -, h2⟩ := bet (a := 0) (b := 3) h (by decide) (by decide)
  rcases (show k = 0 ∨ k = 1 ∨ k = 2 ∨ k = 3 by omega) with e | e | e | e <;> subst e
  · exact Or.inl rfl
  · exact Or.inr (Or.inl rfl)
  · exact Or.inr (Or.inr (Or.inl rfl))
  · exact Or.inr (Or.inr (Or.inr rfl))
theorem s2 {x : Int32} (h : 0 ≤ x ∧ x ≤ 1) : x = 0 ∨ x = 1 := by
  obtain ⟨k, rfl, -, h2⟩ := bet (a := 0) (b := 1) h (by decide) (by decide)
  rcases (show k = 0 ∨ k = 1 by omega) with e | e <;> subst e
  · exact Or.inl rfl
  · exact Or.inr rfl
theorem rt_m {s : Nat → Int32} {k : Nat} {g l e w : Int32} : upd (upd (upd (upd s (4 + k) l) (8 + k) e) (12 + k) w) k g = rtF s k g l e w := by
  unfold rtF
  rw [upd_comm (i := 12 + k) (j := k) (by omega), upd_comm (i := 8 + k) (j := k) (by omega), upd_comm (i := 4 + k) (j := k) (by omega)]
theorem sh_c {s : Nat → Int32} {H : Nat} (hV : Vs s H) : (if s 37 = 0 then (1 : Int32) else 0) = 1 - s 37 := by
  rcases isB_or (Vs_b6 hV) with e | e <;> rw [e] <;> rfl
theorem op_rate_0 {xs : Nat → Int32} {L i : Nat} (hi : i + 6 ≤ L) (hL : L < 2 ^ 31) (hk : xs i &&& 31 = 0) (p1 : xs (i + 1) = 0) (hA : (50 ≤ (xs (i + 2)) ∧ (xs (i + 2)) ≤ 500) ∧ (0 ≤ (xs (i + 3)) ∧ (xs (i + 3)) ≤ (xs (i + 2))) ∧ (1 ≤ (xs (i + 4)) ∧ (xs (i + 4)) ≤ 99) ∧ 0 ≤ (xs (i + 5)) ∧ (xs (i + 5)) ≤ 4) (K : LW xs L (i + 6)) : LW xs L i := by
  intro s H q m c t w ld sh o tx pl ka kb kc a v ld' ob E I
  obtain ⟨hV, hq, hm, hc, h3, h4, h6, g4, g6, hS⟩ := I
  obtain ⟨a1, a2, a3, a4⟩ := hA
  by_cases hp : s 16 = 0
  · have hM := u_rate_0 (xs := xs) (L := L) (xs (i + 2)) (xs (i + 3)) (xs (i + 4)) (xs (i + 5)) (cm (rtF s 0 (xs (i + 2)) (xs (i + 3)) (xs (i + 4)) (xs (i + 5))) t (svV w s q m) ld sh (svO o q m) tx pl ka kb kc) s a v tx ld' ob (vp_updL E 1 (s 0).toInt64) a1 a2 a3 a4 hp m g4 hm
    rw [show upd (upd (upd (upd s 4 (xs (i + 3))) 8 (xs (i + 4))) 12 (xs (i + 5))) 0 (xs (i + 2)) = rtF s 0 (xs (i + 2)) (xs (i + 3)) (xs (i + 4)) (xs (i + 5)) from rt_m (k := 0)] at hM
    refine LW_go (k1 := 0) (fun _ _ _ Z => lw_rate i _ _ _ _ _ 0 _ _ _ _ _ _ _ hi hL hk p1 rfl rfl rfl rfl (w_rate _ _ _ _ _ _ _ _ _ _ (c_rate_0 _ _ _ _ s t w ld sh o tx pl ka kb kc _ E a1 a2 a3 a4 hp q m h3 h4 hq hm (Vs_b5 hV) (Vs_b6 hV))) (hM) (m_thrown _ _ _ _ _ _ _ _) (fun _ => eL1) Z) (by decide) hi ?_
    exact K _ H (svq q m) (svm m + 1) c _ _ _ _ _ _ _ _ _ _ _ _ _ _ _ ⟨Vs_rate hV (by decide) a1 a2 a3 a4, svq_lt hq, svm_le hm, hc, rfl, rfl, h6, rfl, g6, SI_sv hS hq hm hV⟩
  · skip
    refine LW_go (k1 := 1) (fun _ _ _ Z => lw_rate i _ _ _ _ _ 2 0 _ _ _ _ _ _ hi hL hk p1 rfl rfl rfl rfl (w_rate_1 _ _ _ _ _ _ _ _ _ (c_rateS_0 _ _ _ _ s t w ld sh o tx pl ka kb kc _ E a1 a2 a3 a4 hp)) (u_rateS_0 _ _ _ _ _ s a v tx ld' ob _ a1 a2 a3 a4 hp) (m_thrown _ _ _ _ _ _ _ _) (fun z => absurd z (by decide)) Z) (by decide) hi ?_
    exact K s H q m c _ _ _ _ _ _ _ _ _ _ _ _ _ _ _ ⟨hV, hq, hm, hc, h3, h4, h6, g4, g6, hS⟩
theorem op_rate_1 {xs : Nat → Int32} {L i : Nat} (hi : i + 6 ≤ L) (hL : L < 2 ^ 31) (hk : xs i &&& 31 = 0) (p1 : xs (i + 1) = 1) (hA : (50 ≤ (xs (i + 2)) ∧ (xs (i + 2)) ≤ 500) ∧ (0 ≤ (xs (i + 3)) ∧ (xs (i + 3)) ≤ (xs (i + 2))) ∧ (1 ≤ (xs (i + 4)) ∧ (xs (i + 4)) ≤ 99) ∧ 0 ≤ (xs (i + 5)) ∧ (xs (i + 5)) ≤ 4) (K : LW xs L (i + 6)) : LW xs L i := by
  intro s H q m c t w ld sh o tx pl ka kb kc a v ld' ob E I
  obtain ⟨hV, hq, hm, hc, h3, h4, h6, g4, g6, hS⟩ := I
  obtain ⟨a1, a2, a3, a4⟩ := hA
  by_cases hp : s 17 = 0
  · have hM := u_rate_1 (xs := xs) (L := L) (xs (i + 2)) (xs (i + 3)) (xs (i + 4)) (xs (i + 5)) (cm (rtF s 1 (xs (i + 2)) (xs (i + 3)) (xs (i + 4)) (xs (i + 5))) t (svV w s q m) ld sh (svO o q m) tx pl ka kb kc) s a v tx ld' ob (vp_updL E 1 (s 1).toInt64) a1 a2 a3 a4 hp m g4 hm
    rw [show upd (upd (upd (upd s 5 (xs (i + 3))) 9 (xs (i + 4))) 13 (xs (i + 5))) 1 (xs (i + 2)) = rtF s 1 (xs (i + 2)) (xs (i + 3)) (xs (i + 4)) (xs (i + 5)) from rt_m (k := 1)] at hM
    refine LW_go (k1 := 0) (fun _ _ _ Z => lw_rate i _ _ _ _ _ 0 _ _ _ _ _ _ _ hi hL hk p1 rfl rfl rfl rfl (w_rate _ _ _ _ _ _ _ _ _ _ (c_rate_1 _ _ _ _ s t w ld sh o tx pl ka kb kc _ E a1 a2 a3 a4 hp q m h3 h4 hq hm (Vs_b5 hV) (Vs_b6 hV))) (hM) (m_thrown _ _ _ _ _ _ _ _) (fun _ => eL1) Z) (by decide) hi ?_
    exact K _ H (svq q m) (svm m + 1) c _ _ _ _ _ _ _ _ _ _ _ _ _ _ _ ⟨Vs_rate hV (by decide) a1 a2 a3 a4, svq_lt hq, svm_le hm, hc, rfl, rfl, h6, rfl, g6, SI_sv hS hq hm hV⟩
  · skip
    refine LW_go (k1 := 1) (fun _ _ _ Z => lw_rate i _ _ _ _ _ 2 0 _ _ _ _ _ _ hi hL hk p1 rfl rfl rfl rfl (w_rate_1 _ _ _ _ _ _ _ _ _ (c_rateS_1 _ _ _ _ s t w ld sh o tx pl ka kb kc _ E a1 a2 a3 a4 hp)) (u_rateS_1 _ _ _ _ _ s a v tx ld' ob _ a1 a2 a3 a4 hp) (m_thrown _ _ _ _ _ _ _ _) (fun z => absurd z (by decide)) Z) (by decide) hi ?_
    exact K s H q m c _ _ _ _ _ _ _ _ _ _ _ _ _ _ _ ⟨hV, hq, hm, hc, h3, h4, h6, g4, g6, hS⟩
theorem op_rate_2 {xs : Nat → Int32} {L i : Nat} (hi : i + 6 ≤ L) (hL : L < 2 ^ 31) (hk : xs i &&& 31 = 0) (p1 : xs (i + 1) = 2) (hA : (50 ≤ (xs (i + 2)) ∧ (xs (i + 2)) ≤ 500) ∧ (0 ≤ (xs (i + 3)) ∧ (xs (i + 3)) ≤ (xs (i + 2))) ∧ (1 ≤ (xs (i + 4)) ∧ (xs (i + 4)) ≤ 99) ∧ 0 ≤ (xs (i + 5)) ∧ (xs (i + 5)) ≤ 4) (K : LW xs L (i + 6)) : LW xs L i := by
  intro s H q m c t w ld sh o tx pl ka kb kc a v ld' ob E I
  obtain ⟨hV, hq, hm, hc, h3, h4, h6, g4, g6, hS⟩ := I
  obtain ⟨a1, a2, a3, a4⟩ := hA
  by_cases hp : s 18 = 0
  · have hM := u_rate_2 (xs := xs) (L := L) (xs (i + 2)) (xs (i + 3)) (xs (i + 4)) (xs (i + 5)) (cm (rtF s 2 (xs (i + 2)) (xs (i + 3)) (xs (i + 4)) (xs (i + 5))) t (svV w s q m) ld sh (svO o q m) tx pl ka kb kc) s a v tx ld' ob (vp_updL E 1 (s 2).toInt64) a1 a2 a3 a4 hp m g4 hm
    rw [show upd (upd (upd (upd s 6 (xs (i + 3))) 10 (xs (i + 4))) 14 (xs (i + 5))) 2 (xs (i + 2)) = rtF s 2 (xs (i + 2)) (xs (i + 3)) (xs (i + 4)) (xs (i + 5)) from rt_m (k := 2)] at hM
    refine LW_go (k1 := 0) (fun _ _ _ Z => lw_rate i _ _ _ _ _ 0 _ _ _ _ _ _ _ hi hL hk p1 rfl rfl rfl rfl (w_rate _ _ _ _ _ _ _ _ _ _ (c_rate_2 _ _ _ _ s t w ld sh o tx pl ka kb kc _ E a1 a2 a3 a4 hp q m h3 h4 hq hm (Vs_b5 hV) (Vs_b6 hV))) (hM) (m_thrown _ _ _ _ _ _ _ _) (fun _ => eL1) Z) (by decide) hi ?_
    exact K _ H (svq q m) (svm m + 1) c _ _ _ _ _ _ _ _ _ _ _ _ _ _ _ ⟨Vs_rate hV (by decide) a1 a2 a3 a4, svq_lt hq, svm_le hm, hc, rfl, rfl, h6, rfl, g6, SI_sv hS hq hm hV⟩
  · skip
    refine LW_go (k1 := 1) (fun _ _ _ Z => lw_rate i _ _ _ _ _ 2 0 _ _ _ _ _ _ hi hL hk p1 rfl rfl rfl rfl (w_rate_1 _ _ _ _ _ _ _ _ _ (c_rateS_2 _ _ _ _ s t w ld sh o tx pl ka kb kc _ E a1 a2 a3 a4 hp)) (u_rateS_2 _ _ _ _ _ s a v tx ld' ob _ a1 a2 a3 a4 hp) (m_thrown _ _ _ _ _ _ _ _) (fun z => absurd z (by decide)) Z) (by decide) hi ?_
    exact K s H q m c _ _ _ _ _ _ _ _ _ _ _ _ _ _ _ ⟨hV, hq, hm, hc, h3, h4, h6, g4, g6, hS⟩
theorem op_rate_3 {xs : Nat → Int32} {L i : Nat} (hi : i + 6 ≤ L) (hL : L < 2 ^ 31) (hk : xs i &&& 31 = 0) (p1 : xs (i + 1) = 3) (hA : (50 ≤ (xs (i + 2)) ∧ (xs (i + 2)) ≤ 500) ∧ (0 ≤ (xs (i + 3)) ∧ (xs (i + 3)) ≤ (xs (i + 2))) ∧ (1 ≤ (xs (i + 4)) ∧ (xs (i + 4)) ≤ 99) ∧ 0 ≤ (xs (i + 5)) ∧ (xs (i + 5)) ≤ 4) (K : LW xs L (i + 6)) : LW xs L i := by
  intro s H q m c t w ld sh o tx pl ka kb kc a v ld' ob E I
  obtain ⟨hV, hq, hm, hc, h3, h4, h6, g4, g6, hS⟩ := I
  obtain ⟨a1, a2, a3, a4⟩ := hA
  by_cases hp : s 19 = 0
  · have hM := u_rate_3 (xs := xs) (L := L) (xs (i + 2)) (xs (i + 3)) (xs (i + 4)) (xs (i + 5)) (cm (rtF s 3 (xs (i + 2)) (xs (i + 3)) (xs (i + 4)) (xs (i + 5))) t (svV w s q m) ld sh (svO o q m) tx pl ka kb kc) s a v tx ld' ob (vp_updL E 1 (s 3).toInt64) a1 a2 a3 a4 hp m g4 hm
    rw [show upd (upd (upd (upd s 7 (xs (i + 3))) 11 (xs (i + 4))) 15 (xs (i + 5))) 3 (xs (i + 2)) = rtF s 3 (xs (i + 2)) (xs (i + 3)) (xs (i + 4)) (xs (i + 5)) from rt_m (k := 3)] at hM
    refine LW_go (k1 := 0) (fun _ _ _ Z => lw_rate i _ _ _ _ _ 0 _ _ _ _ _ _ _ hi hL hk p1 rfl rfl rfl rfl (w_rate _ _ _ _ _ _ _ _ _ _ (c_rate_3 _ _ _ _ s t w ld sh o tx pl ka kb kc _ E a1 a2 a3 a4 hp q m h3 h4 hq hm (Vs_b5 hV) (Vs_b6 hV))) (hM) (m_thrown _ _ _ _ _ _ _ _) (fun _ => eL1) Z) (by decide) hi ?_
    exact K _ H (svq q m) (svm m + 1) c _ _ _ _ _ _ _ _ _ _ _ _ _ _ _ ⟨Vs_rate hV (by decide) a1 a2 a3 a4, svq_lt hq, svm_le hm, hc, rfl, rfl, h6, rfl, g6, SI_sv hS hq hm hV⟩
  · skip
    refine LW_go (k1 := 1) (fun _ _ _ Z => lw_rate i _ _ _ _ _ 2 0 _ _ _ _ _ _ hi hL hk p1 rfl rfl rfl rfl (w_rate_1 _ _ _ _ _ _ _ _ _ (c_rateS_3 _ _ _ _ s t w ld sh o tx pl ka kb kc _ E a1 a2 a3 a4 hp)) (u_rateS_3 _ _ _ _ _ s a v tx ld' ob _ a1 a2 a3 a4 hp) (m_thrown _ _ _ _ _ _ _ _) (fun z => absurd z (by decide)) Z) (by decide) hi ?_
    exact K s H q m c _ _ _ _ _ _ _ _ _ _ _ _ _ _ _ ⟨hV, hq, hm, hc, h3, h4, h6, g4, g6, hS⟩
theorem op_rate {xs : Nat → Int32} {L i : Nat} (hi : i + 6 ≤ L) (hL : L < 2 ^ 31) (hk : xs i &&& 31 = 0) (K : LW xs L (i + 6)) : LW xs L i := by
  intro s H q m c t w ld sh o tx pl ka kb kc a v ld' ob E I
  obtain ⟨hV, hq, hm, hc, h3, h4, h6, g4, g6, hS⟩ := I
  by_cases hA : (0 ≤ xs (i + 1) ∧ xs (i + 1) ≤ 3) ∧ (50 ≤ (xs (i + 2)) ∧ (xs (i + 2)) ≤ 500) ∧ (0 ≤ (xs (i + 3)) ∧ (xs (i + 3)) ≤ (xs (i + 2))) ∧ (1 ≤ (xs (i + 4)) ∧ (xs (i + 4)) ≤ 99) ∧ 0 ≤ (xs (i + 5)) ∧ (xs (i + 5)) ≤ 4
  · have I : INV s H q m c w v o ob := ⟨hV, hq, hm, hc, h3, h4, h6, g4, g6, hS⟩
    rcases s4 hA.1 with p1 | p1 | p1 | p1
    · exact op_rate_0 hi hL hk p1 hA.2 K s H q m c _ _ _ _ _ _ _ _ _ _ _ _ _ _ _ I
    · exact op_rate_1 hi hL hk p1 hA.2 K s H q m c _ _ _ _ _ _ _ _ _ _ _ _ _ _ _ I
    · exact op_rate_2 hi hL hk p1 hA.2 K s H q m c _ _ _ _ _ _ _ _ _ _ _ _ _ _ _ I
    · exact op_rate_3 hi hL hk p1 hA.2 K s H q m c _ _ _ _ _ _ _ _ _ _ _ _ _ _ _ I
  · skip
    refine LW_go (k1 := 1) (fun _ _ _ Z => lw_rate i _ _ _ _ _ 1 0 _ _ _ _ _ _ hi hL hk rfl rfl rfl rfl rfl (w_rate_0 _ _ _ _ _ _ _ _ _ (c_rateA _ _ _ _ _ s t w ld sh o tx pl ka kb kc _ E hA)) (u_rateA _ _ _ _ _ _ s a v tx ld' ob _ hA) (m_thrown _ _ _ _ _ _ _ _) (fun z => absurd z (by decide)) Z) (by decide) hi ?_
    exact K s H q m c _ _ _ _ _ _ _ _ _ _ _ _ _ _ _ ⟨hV, hq, hm, hc, h3, h4, h6, g4, g6, hS⟩
theorem op_start_0 {xs : Nat → Int32} {L i : Nat} (hi : i + 6 ≤ L) (hL : L < 2 ^ 31) (hk : xs i &&& 31 = 1) (p1 : xs (i + 1) = 0) (K : LW xs L (i + 6)) : LW xs L i := by
  intro s H q m c t w ld sh o tx pl ka kb kc a v ld' ob E I
  obtain ⟨hV, hq, hm, hc, h3, h4, h6, g4, g6, hS⟩ := I
  by_cases hp : s 16 = 0
  · skip
    refine LW_go (k1 := 0) (fun _ _ _ Z => lw_start i _ 0 _ _ _ _ _ _ _ hi hL hk p1 (w_start _ _ _ _ _ _ (c_start_0 s t w ld sh o tx pl ka kb kc _ E hp q m h3 h4 hq hm (Vs_b5 hV) (Vs_b6 hV))) (u_start_0 _ s a v tx ld' ob _ hp m g4 hm) (m_thrown _ _ _ _ _ _ _ _) (fun _ => eL1) Z) (by decide) hi ?_
    exact K _ H (svq q m) (svm m + 1) c _ _ _ _ _ _ _ _ _ _ _ _ _ _ _ ⟨Vs_bg (k := 0) hV (by decide), svq_lt hq, svm_le hm, hc, rfl, rfl, h6, rfl, g6, SI_sv hS hq hm hV⟩
  · skip
    refine LW_go (k1 := 1) (fun _ _ _ Z => lw_start i _ 2 0 _ _ _ _ _ _ hi hL hk p1 (w_start_1 _ _ _ _ _ (c_startS_0 s t w ld sh o tx pl ka kb kc _ E hp)) (u_startS_0 _ s a v tx ld' ob _ hp) (m_thrown _ _ _ _ _ _ _ _) (fun z => absurd z (by decide)) Z) (by decide) hi ?_
    exact K s H q m c _ _ _ _ _ _ _ _ _ _ _ _ _ _ _ ⟨hV, hq, hm, hc, h3, h4, h6, g4, g6, hS⟩
theorem op_start_1 {xs : Nat → Int32} {L i : Nat} (hi : i + 6 ≤ L) (hL : L < 2 ^ 31) (hk : xs i &&& 31 = 1) (p1 : xs (i + 1) = 1) (K : LW xs L (i + 6)) : LW xs L i := by
  intro s H q m c t w ld sh o tx pl ka kb kc a v ld' ob E I
  obtain ⟨hV, hq, hm, hc, h3, h4, h6, g4, g6, hS⟩ := I
  by_cases hp : s 17 = 0
  · skip
    refine LW_go (k1 := 0) (fun _ _ _ Z => lw_start i _ 0 _ _ _ _ _ _ _ hi hL hk p1 (w_start _ _ _ _ _ _ (c_start_1 s t w ld sh o tx pl ka kb kc _ E hp q m h3 h4 hq hm (Vs_b5 hV) (Vs_b6 hV))) (u_start_1 _ s a v tx ld' ob _ hp m g4 hm) (m_thrown _ _ _ _ _ _ _ _) (fun _ => eL1) Z) (by decide) hi ?_
    exact K _ H (svq q m) (svm m + 1) c _ _ _ _ _ _ _ _ _ _ _ _ _ _ _ ⟨Vs_bg (k := 1) hV (by decide), svq_lt hq, svm_le hm, hc, rfl, rfl, h6, rfl, g6, SI_sv hS hq hm hV⟩
  · skip
    refine LW_go (k1 := 1) (fun _ _ _ Z => lw_start i _ 2 0 _ _ _ _ _ _ hi hL hk p1 (w_start_1 _ _ _ _ _ (c_startS_1 s t w ld sh o tx pl ka kb kc _ E hp)) (u_startS_1 _ s a v tx ld' ob _ hp) (m_thrown _ _ _ _ _ _ _ _) (fun z => absurd z (by decide)) Z) (by decide) hi ?_
    exact K s H q m c _ _ _ _ _ _ _ _ _ _ _ _ _ _ _ ⟨hV, hq, hm, hc, h3, h4, h6, g4, g6, hS⟩
theorem op_start_2 {xs : Nat → Int32} {L i : Nat} (hi : i + 6 ≤ L) (hL : L < 2 ^ 31) (hk : xs i &&& 31 = 1) (p1 : xs (i + 1) = 2) (K : LW xs L (i + 6)) : LW xs L i := by
  intro s H q m c t w ld sh o tx pl ka kb kc a v ld' ob E I
  obtain ⟨hV, hq, hm, hc, h3, h4, h6, g4, g6, hS⟩ := I
  by_cases hp : s 18 = 0
  · skip
    refine LW_go (k1 := 0) (fun _ _ _ Z => lw_start i _ 0 _ _ _ _ _ _ _ hi hL hk p1 (w_start _ _ _ _ _ _ (c_start_2 s t w ld sh o tx pl ka kb kc _ E hp q m h3 h4 hq hm (Vs_b5 hV) (Vs_b6 hV))) (u_start_2 _ s a v tx ld' ob _ hp m g4 hm) (m_thrown _ _ _ _ _ _ _ _) (fun _ => eL1) Z) (by decide) hi ?_
    exact K _ H (svq q m) (svm m + 1) c _ _ _ _ _ _ _ _ _ _ _ _ _ _ _ ⟨Vs_bg (k := 2) hV (by decide), svq_lt hq, svm_le hm, hc, rfl, rfl, h6, rfl, g6, SI_sv hS hq hm hV⟩
  · skip
    refine LW_go (k1 := 1) (fun _ _ _ Z => lw_start i _ 2 0 _ _ _ _ _ _ hi hL hk p1 (w_start_1 _ _ _ _ _ (c_startS_2 s t w ld sh o tx pl ka kb kc _ E hp)) (u_startS_2 _ s a v tx ld' ob _ hp) (m_thrown _ _ _ _ _ _ _ _) (fun z => absurd z (by decide)) Z) (by decide) hi ?_
    exact K s H q m c _ _ _ _ _ _ _ _ _ _ _ _ _ _ _ ⟨hV, hq, hm, hc, h3, h4, h6, g4, g6, hS⟩
theorem op_start_3 {xs : Nat → Int32} {L i : Nat} (hi : i + 6 ≤ L) (hL : L < 2 ^ 31) (hk : xs i &&& 31 = 1) (p1 : xs (i + 1) = 3) (K : LW xs L (i + 6)) : LW xs L i := by
  intro s H q m c t w ld sh o tx pl ka kb kc a v ld' ob E I
  obtain ⟨hV, hq, hm, hc, h3, h4, h6, g4, g6, hS⟩ := I
  by_cases hp : s 19 = 0
  · skip
    refine LW_go (k1 := 0) (fun _ _ _ Z => lw_start i _ 0 _ _ _ _ _ _ _ hi hL hk p1 (w_start _ _ _ _ _ _ (c_start_3 s t w ld sh o tx pl ka kb kc _ E hp q m h3 h4 hq hm (Vs_b5 hV) (Vs_b6 hV))) (u_start_3 _ s a v tx ld' ob _ hp m g4 hm) (m_thrown _ _ _ _ _ _ _ _) (fun _ => eL1) Z) (by decide) hi ?_
    exact K _ H (svq q m) (svm m + 1) c _ _ _ _ _ _ _ _ _ _ _ _ _ _ _ ⟨Vs_bg (k := 3) hV (by decide), svq_lt hq, svm_le hm, hc, rfl, rfl, h6, rfl, g6, SI_sv hS hq hm hV⟩
  · skip
    refine LW_go (k1 := 1) (fun _ _ _ Z => lw_start i _ 2 0 _ _ _ _ _ _ hi hL hk p1 (w_start_1 _ _ _ _ _ (c_startS_3 s t w ld sh o tx pl ka kb kc _ E hp)) (u_startS_3 _ s a v tx ld' ob _ hp) (m_thrown _ _ _ _ _ _ _ _) (fun z => absurd z (by decide)) Z) (by decide) hi ?_
    exact K s H q m c _ _ _ _ _ _ _ _ _ _ _ _ _ _ _ ⟨hV, hq, hm, hc, h3, h4, h6, g4, g6, hS⟩
theorem op_start {xs : Nat → Int32} {L i : Nat} (hi : i + 6 ≤ L) (hL : L < 2 ^ 31) (hk : xs i &&& 31 = 1) (K : LW xs L (i + 6)) : LW xs L i := by
  intro s H q m c t w ld sh o tx pl ka kb kc a v ld' ob E I
  obtain ⟨hV, hq, hm, hc, h3, h4, h6, g4, g6, hS⟩ := I
  by_cases hA : 0 ≤ xs (i + 1) ∧ xs (i + 1) ≤ 3
  · have I : INV s H q m c w v o ob := ⟨hV, hq, hm, hc, h3, h4, h6, g4, g6, hS⟩
    rcases s4 hA with p1 | p1 | p1 | p1
    · exact op_start_0 hi hL hk p1 K s H q m c _ _ _ _ _ _ _ _ _ _ _ _ _ _ _ I
    · exact op_start_1 hi hL hk p1 K s H q m c _ _ _ _ _ _ _ _ _ _ _ _ _ _ _ I
    · exact op_start_2 hi hL hk p1 K s H q m c _ _ _ _ _ _ _ _ _ _ _ _ _ _ _ I
    · exact op_start_3 hi hL hk p1 K s H q m c _ _ _ _ _ _ _ _ _ _ _ _ _ _ _ I
  · skip
    refine LW_go (k1 := 1) (fun _ _ _ Z => lw_start i _ 1 0 _ _ _ _ _ _ hi hL hk rfl (w_start_0 _ _ _ _ _ (c_startA _ s t w ld sh o tx pl ka kb kc _ E hA)) (u_startA _ _ s a v tx ld' ob _ hA) (m_thrown _ _ _ _ _ _ _ _) (fun z => absurd z (by decide)) Z) (by decide) hi ?_
    exact K s H q m c _ _ _ _ _ _ _ _ _ _ _ _ _ _ _ ⟨hV, hq, hm, hc, h3, h4, h6, g4, g6, hS⟩
theorem op_stop_0 {xs : Nat → Int32} {L i : Nat} (hi : i + 6 ≤ L) (hL : L < 2 ^ 31) (hk : xs i &&& 31 = 2) (p1 : xs (i + 1) = 0) (K : LW xs L (i + 6)) : LW xs L i := by
  intro s H q m c t w ld sh o tx pl ka kb kc a v ld' ob E I
  obtain ⟨hV, hq, hm, hc, h3, h4, h6, g4, g6, hS⟩ := I
  by_cases hp : s 16 = 1 ∨ s 16 = 2
  · skip
    have hX := c_stop_0 (xs := xs) (L := L) s t w ld sh o tx pl ka kb kc (dm s a v tx ld' ob) E hp q m h3 h4 hq hm (Vs_b5 hV) (Vs_b6 hV)
    rw [bcF_m (mkF_m _ _), show upd (upd s 20 0) 16 0 = stF s 0 from upd_comm (by decide)] at hX
    refine LW_go (k1 := 0) (fun _ _ _ Z => lw_stop i _ 0 _ _ _ _ _ _ _ hi hL hk p1 (w_stop _ _ _ _ _ _ (hX)) (u_stop_0 _ s a v tx ld' ob _ hp m g4 hm) (m_thrown _ _ _ _ _ _ _ _) (fun _ => eL1) Z) (by decide) hi ?_
    exact K _ H (svq q m) (svm m + 1) c _ _ _ _ _ _ _ _ _ _ _ _ _ _ _ ⟨Vs_st (k := 0) hV (by decide), svq_lt hq, svm_le hm, hc, rfl, rfl, h6, rfl, g6, SI_sv hS hq hm hV⟩
  · skip
    refine LW_go (k1 := 1) (fun _ _ _ Z => lw_stop i _ 2 0 _ _ _ _ _ _ hi hL hk p1 (w_stop_1 _ _ _ _ _ (c_stopS_0 s t w ld sh o tx pl ka kb kc _ E hp)) (u_stopS_0 _ s a v tx ld' ob _ hp) (m_thrown _ _ _ _ _ _ _ _) (fun z => absurd z (by decide)) Z) (by decide) hi ?_
    exact K s H q m c _ _ _ _ _ _ _ _ _ _ _ _ _ _ _ ⟨hV, hq, hm, hc, h3, h4, h6, g4, g6, hS⟩
theorem op_stop_1 {xs : Nat → Int32} {L i : Nat} (hi : i + 6 ≤ L) (hL : L < 2 ^ 31) (hk : xs i &&& 31 = 2) (p1 : xs (i + 1) = 1) (K : LW xs L (i + 6)) : LW xs L i := by
  intro s H q m c t w ld sh o tx pl ka kb kc a v ld' ob E I
  obtain ⟨hV, hq, hm, hc, h3, h4, h6, g4, g6, hS⟩ := I
  by_cases hp : s 17 = 1 ∨ s 17 = 2
  · skip
    have hX := c_stop_1 (xs := xs) (L := L) s t w ld sh o tx pl ka kb kc (dm s a v tx ld' ob) E hp q m h3 h4 hq hm (Vs_b5 hV) (Vs_b6 hV)
    rw [bcF_m (mkF_m _ _), show upd (upd s 21 0) 17 0 = stF s 1 from upd_comm (by decide)] at hX
    refine LW_go (k1 := 0) (fun _ _ _ Z => lw_stop i _ 0 _ _ _ _ _ _ _ hi hL hk p1 (w_stop _ _ _ _ _ _ (hX)) (u_stop_1 _ s a v tx ld' ob _ hp m g4 hm) (m_thrown _ _ _ _ _ _ _ _) (fun _ => eL1) Z) (by decide) hi ?_
    exact K _ H (svq q m) (svm m + 1) c _ _ _ _ _ _ _ _ _ _ _ _ _ _ _ ⟨Vs_st (k := 1) hV (by decide), svq_lt hq, svm_le hm, hc, rfl, rfl, h6, rfl, g6, SI_sv hS hq hm hV⟩
  · skip
    refine LW_go (k1 := 1) (fun _ _ _ Z => lw_stop i _ 2 0 _ _ _ _ _ _ hi hL hk p1 (w_stop_1 _ _ _ _ _ (c_stopS_1 s t w ld sh o tx pl ka kb kc _ E hp)) (u_stopS_1 _ s a v tx ld' ob _ hp) (m_thrown _ _ _ _ _ _ _ _) (fun z => absurd z (by decide)) Z) (by decide) hi ?_
    exact K s H q m c _ _ _ _ _ _ _ _ _ _ _ _ _ _ _ ⟨hV, hq, hm, hc, h3, h4, h6, g4, g6, hS⟩
theorem op_stop_2 {xs : Nat → Int32} {L i : Nat} (hi : i + 6 ≤ L) (hL : L < 2 ^ 31) (hk : xs i &&& 31 = 2) (p1 : xs (i + 1) = 2) (K : LW xs L (i + 6)) : LW xs L i := by
  intro s H q m c t w ld sh o tx pl ka kb kc a v ld' ob E I
  obtain ⟨hV, hq, hm, hc, h3, h4, h6, g4, g6, hS⟩ := I
  by_cases hp : s 18 = 1 ∨ s 18 = 2
  · skip
    have hX := c_stop_2 (xs := xs) (L := L) s t w ld sh o tx pl ka kb kc (dm s a v tx ld' ob) E hp q m h3 h4 hq hm (Vs_b5 hV) (Vs_b6 hV)
    rw [bcF_m (mkF_m _ _), show upd (upd s 22 0) 18 0 = stF s 2 from upd_comm (by decide)] at hX
    refine LW_go (k1 := 0) (fun _ _ _ Z => lw_stop i _ 0 _ _ _ _ _ _ _ hi hL hk p1 (w_stop _ _ _ _ _ _ (hX)) (u_stop_2 _ s a v tx ld' ob _ hp m g4 hm) (m_thrown _ _ _ _ _ _ _ _) (fun _ => eL1) Z) (by decide) hi ?_
    exact K _ H (svq q m) (svm m + 1) c _ _ _ _ _ _ _ _ _ _ _ _ _ _ _ ⟨Vs_st (k := 2) hV (by decide), svq_lt hq, svm_le hm, hc, rfl, rfl, h6, rfl, g6, SI_sv hS hq hm hV⟩
  · skip
    refine LW_go (k1 := 1) (fun _ _ _ Z => lw_stop i _ 2 0 _ _ _ _ _ _ hi hL hk p1 (w_stop_1 _ _ _ _ _ (c_stopS_2 s t w ld sh o tx pl ka kb kc _ E hp)) (u_stopS_2 _ s a v tx ld' ob _ hp) (m_thrown _ _ _ _ _ _ _ _) (fun z => absurd z (by decide)) Z) (by decide) hi ?_
    exact K s H q m c _ _ _ _ _ _ _ _ _ _ _ _ _ _ _ ⟨hV, hq, hm, hc, h3, h4, h6, g4, g6, hS⟩
theorem op_stop_3 {xs : Nat → Int32} {L i : Nat} (hi : i + 6 ≤ L) (hL : L < 2 ^ 31) (hk : xs i &&& 31 = 2) (p1 : xs (i + 1) = 3) (K : LW xs L (i + 6)) : LW xs L i := by
  intro s H q m c t w ld sh o tx pl ka kb kc a v ld' ob E I
  obtain ⟨hV, hq, hm, hc, h3, h4, h6, g4, g6, hS⟩ := I
  by_cases hp : s 19 = 1 ∨ s 19 = 2
  · skip
    have hX := c_stop_3 (xs := xs) (L := L) s t w ld sh o tx pl ka kb kc (dm s a v tx ld' ob) E hp q m h3 h4 hq hm (Vs_b5 hV) (Vs_b6 hV)
    rw [bcF_m (mkF_m _ _), show upd (upd s 23 0) 19 0 = stF s 3 from upd_comm (by decide)] at hX
    refine LW_go (k1 := 0) (fun _ _ _ Z => lw_stop i _ 0 _ _ _ _ _ _ _ hi hL hk p1 (w_stop _ _ _ _ _ _ (hX)) (u_stop_3 _ s a v tx ld' ob _ hp m g4 hm) (m_thrown _ _ _ _ _ _ _ _) (fun _ => eL1) Z) (by decide) hi ?_
    exact K _ H (svq q m) (svm m + 1) c _ _ _ _ _ _ _ _ _ _ _ _ _ _ _ ⟨Vs_st (k := 3) hV (by decide), svq_lt hq, svm_le hm, hc, rfl, rfl, h6, rfl, g6, SI_sv hS hq hm hV⟩
  · skip
    refine LW_go (k1 := 1) (fun _ _ _ Z => lw_stop i _ 2 0 _ _ _ _ _ _ hi hL hk p1 (w_stop_1 _ _ _ _ _ (c_stopS_3 s t w ld sh o tx pl ka kb kc _ E hp)) (u_stopS_3 _ s a v tx ld' ob _ hp) (m_thrown _ _ _ _ _ _ _ _) (fun z => absurd z (by decide)) Z) (by decide) hi ?_
    exact K s H q m c _ _ _ _ _ _ _ _ _ _ _ _ _ _ _ ⟨hV, hq, hm, hc, h3, h4, h6, g4, g6, hS⟩
theorem op_stop {xs : Nat → Int32} {L i : Nat} (hi : i + 6 ≤ L) (hL : L < 2 ^ 31) (hk : xs i &&& 31 = 2) (K : LW xs L (i + 6)) : LW xs L i := by
  intro s H q m c t w ld sh o tx pl ka kb kc a v ld' ob E I
  obtain ⟨hV, hq, hm, hc, h3, h4, h6, g4, g6, hS⟩ := I
  by_cases hA : 0 ≤ xs (i + 1) ∧ xs (i + 1) ≤ 3
  · have I : INV s H q m c w v o ob := ⟨hV, hq, hm, hc, h3, h4, h6, g4, g6, hS⟩
    rcases s4 hA with p1 | p1 | p1 | p1
    · exact op_stop_0 hi hL hk p1 K s H q m c _ _ _ _ _ _ _ _ _ _ _ _ _ _ _ I
    · exact op_stop_1 hi hL hk p1 K s H q m c _ _ _ _ _ _ _ _ _ _ _ _ _ _ _ I
    · exact op_stop_2 hi hL hk p1 K s H q m c _ _ _ _ _ _ _ _ _ _ _ _ _ _ _ I
    · exact op_stop_3 hi hL hk p1 K s H q m c _ _ _ _ _ _ _ _ _ _ _ _ _ _ _ I
  · skip
    refine LW_go (k1 := 1) (fun _ _ _ Z => lw_stop i _ 1 0 _ _ _ _ _ _ hi hL hk rfl (w_stop_0 _ _ _ _ _ (c_stopA _ s t w ld sh o tx pl ka kb kc _ E hA)) (u_stopA _ _ s a v tx ld' ob _ hA) (m_thrown _ _ _ _ _ _ _ _) (fun z => absurd z (by decide)) Z) (by decide) hi ?_
    exact K s H q m c _ _ _ _ _ _ _ _ _ _ _ _ _ _ _ ⟨hV, hq, hm, hc, h3, h4, h6, g4, g6, hS⟩
theorem op_lose_0 {xs : Nat → Int32} {L i : Nat} (hi : i + 6 ≤ L) (hL : L < 2 ^ 31) (hk : xs i &&& 31 = 3) (p1 : xs (i + 1) = 0) (K : LW xs L (i + 6)) : LW xs L i := by
  intro s H q m c t w ld sh o tx pl ka kb kc a v ld' ob E I
  obtain ⟨hV, hq, hm, hc, h3, h4, h6, g4, g6, hS⟩ := I
  refine LW_go (k1 := 0) (fun _ _ _ Z => lw_lose i _ 0 _ _ _ _ _ _ _ hi hL hk p1 (w_lose _ _ _ _ _ _ (c_lose_0 s t w ld sh o tx pl ka kb kc _ E q m h3 h4 hq hm (Vs_b5 hV) (Vs_b6 hV))) (u_lose_0 _ s a v tx ld' ob _ m g4 hm) (m_thrown _ _ _ _ _ _ _ _) (fun _ => eL1) Z) (by decide) hi ?_
  exact K _ H (svq q m) (svm m + 1) c _ _ _ _ _ _ _ _ _ _ _ _ _ _ _ ⟨Vs_lose (k := 0) hV (by decide), svq_lt hq, svm_le hm, hc, rfl, rfl, h6, rfl, g6, SI_sv hS hq hm hV⟩
theorem op_lose_1 {xs : Nat → Int32} {L i : Nat} (hi : i + 6 ≤ L) (hL : L < 2 ^ 31) (hk : xs i &&& 31 = 3) (p1 : xs (i + 1) = 1) (K : LW xs L (i + 6)) : LW xs L i := by
  intro s H q m c t w ld sh o tx pl ka kb kc a v ld' ob E I
  obtain ⟨hV, hq, hm, hc, h3, h4, h6, g4, g6, hS⟩ := I
  refine LW_go (k1 := 0) (fun _ _ _ Z => lw_lose i _ 0 _ _ _ _ _ _ _ hi hL hk p1 (w_lose _ _ _ _ _ _ (c_lose_1 s t w ld sh o tx pl ka kb kc _ E q m h3 h4 hq hm (Vs_b5 hV) (Vs_b6 hV))) (u_lose_1 _ s a v tx ld' ob _ m g4 hm) (m_thrown _ _ _ _ _ _ _ _) (fun _ => eL1) Z) (by decide) hi ?_
  exact K _ H (svq q m) (svm m + 1) c _ _ _ _ _ _ _ _ _ _ _ _ _ _ _ ⟨Vs_lose (k := 1) hV (by decide), svq_lt hq, svm_le hm, hc, rfl, rfl, h6, rfl, g6, SI_sv hS hq hm hV⟩
theorem op_lose_2 {xs : Nat → Int32} {L i : Nat} (hi : i + 6 ≤ L) (hL : L < 2 ^ 31) (hk : xs i &&& 31 = 3) (p1 : xs (i + 1) = 2) (K : LW xs L (i + 6)) : LW xs L i := by
  intro s H q m c t w ld sh o tx pl ka kb kc a v ld' ob E I
  obtain ⟨hV, hq, hm, hc, h3, h4, h6, g4, g6, hS⟩ := I
  refine LW_go (k1 := 0) (fun _ _ _ Z => lw_lose i _ 0 _ _ _ _ _ _ _ hi hL hk p1 (w_lose _ _ _ _ _ _ (c_lose_2 s t w ld sh o tx pl ka kb kc _ E q m h3 h4 hq hm (Vs_b5 hV) (Vs_b6 hV))) (u_lose_2 _ s a v tx ld' ob _ m g4 hm) (m_thrown _ _ _ _ _ _ _ _) (fun _ => eL1) Z) (by decide) hi ?_
  exact K _ H (svq q m) (svm m + 1) c _ _ _ _ _ _ _ _ _ _ _ _ _ _ _ ⟨Vs_lose (k := 2) hV (by decide), svq_lt hq, svm_le hm, hc, rfl, rfl, h6, rfl, g6, SI_sv hS hq hm hV⟩
theorem op_lose_3 {xs : Nat → Int32} {L i : Nat} (hi : i + 6 ≤ L) (hL : L < 2 ^ 31) (hk : xs i &&& 31 = 3) (p1 : xs (i + 1) = 3) (K : LW xs L (i + 6)) : LW xs L i := by
  intro s H q m c t w ld sh o tx pl ka kb kc a v ld' ob E I
  obtain ⟨hV, hq, hm, hc, h3, h4, h6, g4, g6, hS⟩ := I
  refine LW_go (k1 := 0) (fun _ _ _ Z => lw_lose i _ 0 _ _ _ _ _ _ _ hi hL hk p1 (w_lose _ _ _ _ _ _ (c_lose_3 s t w ld sh o tx pl ka kb kc _ E q m h3 h4 hq hm (Vs_b5 hV) (Vs_b6 hV))) (u_lose_3 _ s a v tx ld' ob _ m g4 hm) (m_thrown _ _ _ _ _ _ _ _) (fun _ => eL1) Z) (by decide) hi ?_
  exact K _ H (svq q m) (svm m + 1) c _ _ _ _ _ _ _ _ _ _ _ _ _ _ _ ⟨Vs_lose (k := 3) hV (by decide), svq_lt hq, svm_le hm, hc, rfl, rfl, h6, rfl, g6, SI_sv hS hq hm hV⟩
theorem op_lose {xs : Nat → Int32} {L i : Nat} (hi : i + 6 ≤ L) (hL : L < 2 ^ 31) (hk : xs i &&& 31 = 3) (K : LW xs L (i + 6)) : LW xs L i := by
  intro s H q m c t w ld sh o tx pl ka kb kc a v ld' ob E I
  obtain ⟨hV, hq, hm, hc, h3, h4, h6, g4, g6, hS⟩ := I
  by_cases hA : 0 ≤ xs (i + 1) ∧ xs (i + 1) ≤ 3
  · have I : INV s H q m c w v o ob := ⟨hV, hq, hm, hc, h3, h4, h6, g4, g6, hS⟩
    rcases s4 hA with p1 | p1 | p1 | p1
    · exact op_lose_0 hi hL hk p1 K s H q m c _ _ _ _ _ _ _ _ _ _ _ _ _ _ _ I
    · exact op_lose_1 hi hL hk p1 K s H q m c _ _ _ _ _ _ _ _ _ _ _ _ _ _ _ I
    · exact op_lose_2 hi hL hk p1 K s H q m c _ _ _ _ _ _ _ _ _ _ _ _ _ _ _ I
    · exact op_lose_3 hi hL hk p1 K s H q m c _ _ _ _ _ _ _ _ _ _ _ _ _ _ _ I
  · skip
    refine LW_go (k1 := 1) (fun _ _ _ Z => lw_lose i _ 1 0 _ _ _ _ _ _ hi hL hk rfl (w_lose_0 _ _ _ _ _ (c_loseA _ s t w ld sh o tx pl ka kb kc _ E hA)) (u_loseA _ _ s a v tx ld' ob _ hA) (m_thrown _ _ _ _ _ _ _ _) (fun z => absurd z (by decide)) Z) (by decide) hi ?_
    exact K s H q m c _ _ _ _ _ _ _ _ _ _ _ _ _ _ _ ⟨hV, hq, hm, hc, h3, h4, h6, g4, g6, hS⟩
theorem op_shed {xs : Nat → Int32} {L i : Nat} (hi : i + 6 ≤ L) (hL : L < 2 ^ 31) (hk : xs i &&& 31 = 4) (K : LW xs L (i + 6)) : LW xs L i := by
  intro s H q m c t w ld sh o tx pl ka kb kc a v ld' ob E I
  obtain ⟨hV, hq, hm, hc, h3, h4, h6, g4, g6, hS⟩ := I
  have hX := c_shed (xs := xs) (L := L) s t w ld sh o tx pl ka kb kc (dm s a v tx ld' ob) E q m h3 h4 hq hm (Vs_b5 hV) (Vs_b6 hV)
  rw [sh_c hV] at hX
  refine LW_go (k1 := 0) (fun _ _ _ Z => lw_shed i _ _ _ _ _ _ _ hi hL hk hX (u_shed _ s a v tx ld' ob _ m g4 hm) Z) (by decide) hi ?_
  exact K _ H (svq q m) (svm m + 1) c _ _ _ _ _ _ _ _ _ _ _ _ _ _ _ ⟨Vs_shed hV, svq_lt hq, svm_le hm, hc, rfl, rfl, h6, rfl, g6, SI_sv hS hq hm hV⟩
