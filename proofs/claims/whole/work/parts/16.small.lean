/-! THE MODEL: its memory by parts, and its small methods -/
def dm (s a v t ld ob : Nat → Int32) : Nat → Nat → Int32 := fun q => if q = 33 then s else if q = 34 then a else if q = 35 then v else if q = 36 then t else if q = 37 then ld else if q = 32 then ob else fun _ => 0
section DM
variable {s a v t ld ob s' ld' ob' : Nat → Int32} {k : Nat} {x : Int32}
theorem dm_33 : up2 (dm s a v t ld ob) 33 k x = dm (upd s k x) a v t ld ob := by
  funext q
  unfold up2 dm
  by_cases h : q = 33
  · subst h; rfl
  · simp [h]
theorem dm_34 : up2 (dm s a v t ld ob) 34 k x = dm s (upd a k x) v t ld ob := by
  funext q
  unfold up2 dm
  by_cases h : q = 34
  · subst h; rfl
  · simp [h]
theorem dm_35 : up2 (dm s a v t ld ob) 35 k x = dm s a (upd v k x) t ld ob := by
  funext q
  unfold up2 dm
  by_cases h : q = 35
  · subst h; rfl
  · simp [h]
theorem dm_36 : up2 (dm s a v t ld ob) 36 k x = dm s a v (upd t k x) ld ob := by
  funext q
  unfold up2 dm
  by_cases h : q = 36
  · subst h; rfl
  · simp [h]
theorem dm_37 : up2 (dm s a v t ld ob) 37 k x = dm s a v t (upd ld k x) ob := by
  funext q
  unfold up2 dm
  by_cases h : q = 37
  · subst h; rfl
  · simp [h]
theorem dm_32 : up2 (dm s a v t ld ob) 32 k x = dm s a v t ld (upd ob k x) := by
  funext q
  unfold up2 dm
  by_cases h : q = 32
  · subst h; rfl
  · simp [h]
theorem dm_mk : mk2 (md (dm s a v t ld ob) s') ld' ob' = dm s' a v t ld' ob' := by
  funext q
  unfold mk2 md dm
  by_cases h1 : q = 37
  · subst h1; rfl
  · by_cases h2 : q = 32
    · subst h2; rfl
    · by_cases h3 : q = 33
      · subst h3; rfl
      · simp [h1, h2, h3]
theorem dm_mk0 : mk2 (dm s a v t ld ob) ld' ob' = dm s a v t ld' ob' := by
  funext q
  unfold mk2 dm
  by_cases h1 : q = 37
  · subst h1; rfl
  · by_cases h2 : q = 32
    · subst h2; rfl
    · simp [h1, h2]
end DM
theorem set4 {v : Int32} (h : 0 ≤ v ∧ v ≤ 3) : v = 0 ∨ v = 1 ∨ v = 2 ∨ v = 3 := by
  have h1 := Int32.le_iff_toInt_le.mp h.1
  have h2 := Int32.le_iff_toInt_le.mp h.2
  have e0 : (0 : Int32).toInt = 0 := rfl
  have e3 : (3 : Int32).toInt = 3 := rfl
  rw [e0] at h1
  rw [e3] at h2
  have h3 : v.toInt = 0 ∨ v.toInt = 1 ∨ v.toInt = 2 ∨ v.toInt = 3 := by omega
  rcases h3 with e | e | e | e
  · exact Or.inl (Int32.toInt_inj.mp e)
  · exact Or.inr (Or.inl (Int32.toInt_inj.mp e))
  · exact Or.inr (Or.inr (Or.inl (Int32.toInt_inj.mp e)))
  · exact Or.inr (Or.inr (Or.inr (Int32.toInt_inj.mp e)))

theorem m_thrown {xs : Nat → Int32} {L : Nat}  (C : Nat → Nat → Nat → Int32) (s a v t ld ob : Nat → Int32) (E : Nat → Int64)  : z_Mt xs L m_X5_thrown [aR 0 32] (C, dm s a v t ld ob, E) (.inl (some (aI (ob 0)))) (C, dm s a v t ld ob, E) 0 := by
  refine z_Ev_blk 2 (c' := (4, [some (aR 0 32)], [aI (ob 0)], (C, dm s a v t ld ob, E))) rfl trivial ?_
  exact z_Ev_iretE rfl rfl (by first | rfl | simp [*]) (by first | rfl | simp [*, dm_33, dm_34, dm_35, dm_36, dm_37, dm_32])
theorem m_holds {xs : Nat → Int32} {L : Nat} (p : Int32) (C : Nat → Nat → Nat → Int32) (s a v t ld ob : Nat → Int32) (E : Nat → Int64)  : z_Mt xs L m_X5_holds [aR 0 32, aI p] (C, dm s a v t ld ob, E) (.inl (some (aI (f_b (p = 0))))) (C, dm s a v t ld (upd ob 0 p), E) 0 := by
  refine z_Ev_blk 3 (c' := (5, [some (aR 0 32), some (aI p)], [], (C, up2 (dm s a v t ld ob) 32 0 p, E))) rfl trivial ?_
  rw [dm_32]
  refine z_Ev_blk 2 (c' := ((if p = 0 then 9 else 13), [some (aR 0 32), some (aI p)], [], (C, dm s a v t ld (upd ob 0 p), E))) rfl trivial ?_
  refine z_Ev_ite (fun h1 => ?_) (fun h1 => ?_)
  · skip
    refine z_Ev_blk 2 (c' := (14, [some (aR 0 32), some (aI p)], [aI (1 : Int32)], (C, dm s a v t ld (upd ob 0 p), E))) rfl trivial ?_
    exact z_Ev_zretE rfl rfl (rfl) (by first | exact f_b1 h1 | exact f_b0 h1) (by first | rfl | simp [*, dm_33, dm_34, dm_35, dm_36, dm_37, dm_32])
  · skip
    refine z_Ev_blk 1 (c' := (14, [some (aR 0 32), some (aI p)], [aI (0 : Int32)], (C, dm s a v t ld (upd ob 0 p), E))) rfl trivial ?_
    exact z_Ev_zretE rfl rfl (rfl) (by first | exact f_b1 h1 | exact f_b0 h1) (by first | rfl | simp [*, dm_33, dm_34, dm_35, dm_36, dm_37, dm_32])
theorem m_now {xs : Nat → Int32} {L : Nat}  (C : Nat → Nat → Nat → Int32) (s a v t ld ob : Nat → Int32) (E : Nat → Int64)  : z_Mt xs L m_X5_now [aR 0 32] (C, dm s a v t ld ob, E) (.inl (some (aI (if s 34 = 48 then 47 else s 34)))) (C, dm s a v t ld ob, E) 0 := by
  refine z_Ev_blk 6 (c' := ((if (s 34) = (48 : Int32) then 12 else 17), [some (aR 0 32)], [], (C, dm s a v t ld ob, E))) rfl ⟨rfl, trivial⟩ ?_
  refine z_Ev_ite (fun h1 => ?_) (fun h1 => ?_)
  · skip
    refine z_Ev_blk 2 (c' := (24, [some (aR 0 32)], [aI (47 : Int32)], (C, dm s a v t ld ob, E))) rfl trivial ?_
    exact z_Ev_iretE rfl rfl (by first | rfl | simp [*]) (by first | rfl | simp [*, dm_33, dm_34, dm_35, dm_36, dm_37, dm_32])
  · skip
    refine z_Ev_blk 4 (c' := (24, [some (aR 0 32)], [aI (s 34)], (C, dm s a v t ld ob, E))) rfl ⟨rfl, trivial⟩ ?_
    exact z_Ev_iretE rfl rfl (by first | rfl | simp [*]) (by first | rfl | simp [*, dm_33, dm_34, dm_35, dm_36, dm_37, dm_32])
theorem m_many {xs : Nat → Int32} {L : Nat} (m : Int32) (C : Nat → Nat → Nat → Int32) (s a v t ld ob : Nat → Int32) (E : Nat → Int64)  : z_Mt xs L m_X5_many [aI m] (C, dm s a v t ld ob, E) (.inl (some (aI ((m &&& 1) + ((m >>> ((1 : Int32) &&& 31)) &&& 1) + ((m >>> ((2 : Int32) &&& 31)) &&& 1) + ((m >>> ((3 : Int32) &&& 31)) &&& 1))))) (C, dm s a v t ld ob, E) 0 := by
  refine z_Ev_blk 21 (c' := (21, [some (aI m)], [aI ((((m &&& (1 : Int32)) + ((m >>> ((1 : Int32) &&& 31)) &&& (1 : Int32))) + ((m >>> ((2 : Int32) &&& 31)) &&& (1 : Int32))) + ((m >>> ((3 : Int32) &&& 31)) &&& (1 : Int32)))], (C, dm s a v t ld ob, E))) rfl trivial ?_
  exact z_Ev_iretE rfl rfl (by rfl) (by first | rfl | simp [*, dm_33, dm_34, dm_35, dm_36, dm_37, dm_32])
theorem f_b_t {P : Prop} [Decidable P] (h : P) : f_b P = 1 := if_pos h
theorem f_b_f {P : Prop} [Decidable P] (h : ¬ P) : f_b P = 0 := if_neg h
theorem m_startFault_0 {xs : Nat → Int32} {L : Nat}  (C : Nat → Nat → Nat → Int32) (s a v t ld ob : Nat → Int32) (E : Nat → Int64)  : z_Mt xs L m_X5_startFault [aR 0 32, aI (0 : Int32)] (C, dm s a v t ld ob, E) (.inl (some (aI (if s 16 = 0 then 0 else 2)))) (C, dm s a v t ld ob, E) 0 := by
  refine z_Ev_blk 1 (c' := (1, [some (aR 0 32), some (aI (0 : Int32))], [aI (0 : Int32)], (C, dm s a v t ld ob, E))) rfl trivial ?_
  refine z_Ev_call0 (m' := m_X5_isSet) (as := [aI (0 : Int32)]) (r := []) ((by have q := e_mSet (xs := xs) (L := L) (0 : Int32) C (dm s a v t ld ob) E; rw [f_b_t (by decide)] at q; exact q)) rfl rfl ?_
  refine z_Ev_blk 1 (c' := ((if (1 : Int32) = 0 then 7 else 11), [some (aR 0 32), some (aI (0 : Int32))], [], (C, dm s a v t ld ob, E))) rfl trivial ?_
  refine z_Ev_else (by decide) ?_
  refine z_Ev_blk 7 (c' := ((if (s 16) = 0 then 27 else 23), [some (aR 0 32), some (aI (0 : Int32))], [], (C, dm s a v t ld ob, E))) rfl ⟨rfl, trivial⟩ ?_
  refine z_Ev_ite (fun h1 => ?_) (fun h1 => ?_)
  · skip
    refine z_Ev_blk 1 (c' := (28, [some (aR 0 32), some (aI (0 : Int32))], [aI (0 : Int32)], (C, dm s a v t ld ob, E))) rfl trivial ?_
    exact z_Ev_iretE rfl rfl (by first | rfl | simp [*]) (by first | rfl | simp [*, dm_33, dm_34, dm_35, dm_36, dm_37, dm_32])
  · skip
    refine z_Ev_blk 2 (c' := (28, [some (aR 0 32), some (aI (0 : Int32))], [aI (2 : Int32)], (C, dm s a v t ld ob, E))) rfl trivial ?_
    exact z_Ev_iretE rfl rfl (by first | rfl | simp [*]) (by first | rfl | simp [*, dm_33, dm_34, dm_35, dm_36, dm_37, dm_32])
theorem m_starts_0 {xs : Nat → Int32} {L : Nat}  (C : Nat → Nat → Nat → Int32) (s a v t ld ob : Nat → Int32) (E : Nat → Int64)  : z_Mt xs L m_X5_starts [aR 0 32, aI (0 : Int32)] (C, dm s a v t ld ob, E) (.inl (some (aI (s 12)))) (C, dm (upd (upd s 20 (s 12)) 16 (if s 12 = 0 then 2 else 1)) a v t ld ob, E) 0 := by
  refine z_Ev_blk 12 (c' := (18, [some (aR 0 32), some (aI (0 : Int32))], [], (C, up2 (dm s a v t ld ob) 33 20 (s 12), E))) rfl ⟨rfl, rfl, trivial⟩ ?_
  rw [dm_33]
  refine z_Ev_blk 12 (c' := ((if (s 12) = 0 then 38 else 42), [some (aR 0 32), some (aI (0 : Int32))], [aI (16 : Int32), aR 0 33], (C, dm (upd s 20 (s 12)) a v t ld ob, E))) rfl ⟨rfl, trivial⟩ ?_
  refine z_Ev_ite (fun h1 => ?_) (fun h1 => ?_)
  · skip
    refine z_Ev_blk 3 (c' := (44, [some (aR 0 32), some (aI (0 : Int32))], [], (C, up2 (dm (upd s 20 (s 12)) a v t ld ob) 33 16 (2 : Int32), E))) rfl ⟨rfl, trivial⟩ ?_
    rw [dm_33]
    refine z_Ev_blk 6 (c' := (53, [some (aR 0 32), some (aI (0 : Int32))], [aI (s 12)], (C, dm (upd (upd s 20 (s 12)) 16 (2 : Int32)) a v t ld ob, E))) rfl ⟨rfl, trivial⟩ ?_
    exact z_Ev_iretE rfl rfl (by simp [upd]) (by first | rfl | simp [*, dm_33, dm_34, dm_35, dm_36, dm_37, dm_32])
  · skip
    refine z_Ev_blk 2 (c' := (44, [some (aR 0 32), some (aI (0 : Int32))], [], (C, up2 (dm (upd s 20 (s 12)) a v t ld ob) 33 16 (1 : Int32), E))) rfl ⟨rfl, trivial⟩ ?_
    rw [dm_33]
    refine z_Ev_blk 6 (c' := (53, [some (aR 0 32), some (aI (0 : Int32))], [aI (s 12)], (C, dm (upd (upd s 20 (s 12)) 16 (1 : Int32)) a v t ld ob, E))) rfl ⟨rfl, trivial⟩ ?_
    exact z_Ev_iretE rfl rfl (by simp [upd]) (by first | rfl | simp [*, dm_33, dm_34, dm_35, dm_36, dm_37, dm_32])
theorem m_stopFault_0 {xs : Nat → Int32} {L : Nat}  (C : Nat → Nat → Nat → Int32) (s a v t ld ob : Nat → Int32) (E : Nat → Int64)  : z_Mt xs L m_X5_stopFault [aR 0 32, aI (0 : Int32)] (C, dm s a v t ld ob, E) (.inl (some (aI (if 1 ≤ s 16 ∧ s 16 ≤ 2 then 0 else 2)))) (C, dm s a v t ld ob, E) 0 := by
  refine z_Ev_blk 1 (c' := (1, [some (aR 0 32), some (aI (0 : Int32))], [aI (0 : Int32)], (C, dm s a v t ld ob, E))) rfl trivial ?_
  refine z_Ev_call0 (m' := m_X5_isSet) (as := [aI (0 : Int32)]) (r := []) ((by have q := e_mSet (xs := xs) (L := L) (0 : Int32) C (dm s a v t ld ob) E; rw [f_b_t (by decide)] at q; exact q)) rfl rfl ?_
  refine z_Ev_blk 1 (c' := ((if (1 : Int32) = 0 then 7 else 11), [some (aR 0 32), some (aI (0 : Int32))], [], (C, dm s a v t ld ob, E))) rfl trivial ?_
  refine z_Ev_else (by decide) ?_
  refine z_Ev_blk 8 (c' := (22, [some (aR 0 32), some (aI (0 : Int32))], [aI (2 : Int32), aI (1 : Int32), aI (s 16)], (C, dm s a v t ld ob, E))) rfl ⟨rfl, trivial⟩ ?_
  refine z_Ev_call0 (m' := m_X5_in) (as := [aI (s 16), aI (1 : Int32), aI (2 : Int32)]) (r := []) (e_in (s 16) (1 : Int32) (2 : Int32) _ _ _) rfl rfl ?_
  refine z_Ev_blk 1 (c' := ((if (f_b ((1 : Int32) ≤ (s 16) ∧ (s 16) ≤ (2 : Int32))) = 0 then 28 else 32), [some (aR 0 32), some (aI (0 : Int32))], [], (C, dm s a v t ld ob, E))) rfl trivial ?_
  refine z_Ev_ite (fun h1 => ?_) (fun h1 => ?_)
  · replace h1 := f_bZ h1
    refine z_Ev_blk 2 (c' := (33, [some (aR 0 32), some (aI (0 : Int32))], [aI (2 : Int32)], (C, dm s a v t ld ob, E))) rfl trivial ?_
    exact z_Ev_iretE rfl rfl (by first | rfl | simp [*]) (by first | rfl | simp [*, dm_33, dm_34, dm_35, dm_36, dm_37, dm_32])
  · replace h1 := f_bQ h1
    refine z_Ev_blk 1 (c' := (33, [some (aR 0 32), some (aI (0 : Int32))], [aI (0 : Int32)], (C, dm s a v t ld ob, E))) rfl trivial ?_
    exact z_Ev_iretE rfl rfl (by first | rfl | simp [*]) (by first | rfl | simp [*, dm_33, dm_34, dm_35, dm_36, dm_37, dm_32])
def manF (m : Int32) : Int32 := (m &&& 1) + ((m >>> ((1 : Int32) &&& 31)) &&& 1) + ((m >>> ((2 : Int32) &&& 31)) &&& 1) + ((m >>> ((3 : Int32) &&& 31)) &&& 1)
theorem m_stops_0 {xs : Nat → Int32} {L : Nat}  (C : Nat → Nat → Nat → Int32) (s a v t ld ob : Nat → Int32) (E : Nat → Int64)  : z_Mt xs L m_X5_stops [aR 0 32, aI (0 : Int32)] (C, dm s a v t ld ob, E) (.inl (some (aI (manF (mkF (fun j => (upd (upd s 16 0) 20 0) (16 + j)) 2))))) (C, dm (upd (upd s 16 0) 20 0) a v t ld ob, E) 0 := by
  refine z_Ev_blk 7 (c' := (10, [some (aR 0 32), some (aI (0 : Int32))], [], (C, up2 (dm s a v t ld ob) 33 16 (0 : Int32), E))) rfl ⟨rfl, trivial⟩ ?_
  rw [dm_33]
  refine z_Ev_blk 7 (c' := (20, [some (aR 0 32), some (aI (0 : Int32))], [], (C, up2 (dm (upd s 16 (0 : Int32)) a v t ld ob) 33 20 (0 : Int32), E))) rfl ⟨rfl, trivial⟩ ?_
  rw [dm_33]
  refine z_Ev_blk 1 (c' := (21, [some (aR 0 32), some (aI (0 : Int32))], [aR 0 32], (C, dm (upd (upd s 16 (0 : Int32)) 20 (0 : Int32)) a v t ld ob, E))) rfl trivial ?_
  refine z_Ev_call0 (m' := m_X5_running) (as := [aR 0 32]) (r := []) ((e_running C (dm (upd (upd s 16 (0 : Int32)) 20 (0 : Int32)) a v t ld ob) E)) rfl rfl ?_
  refine z_Ev_call0 (m' := m_X5_many) (as := [aI (mkF (fun j => (upd (upd s 16 (0 : Int32)) 20 (0 : Int32)) (16 + j)) 2)]) (r := []) (m_many (mkF (fun j => (upd (upd s 16 (0 : Int32)) 20 (0 : Int32)) (16 + j)) 2) C (upd (upd s 16 (0 : Int32)) 20 (0 : Int32)) a v t ld ob E) rfl rfl ?_
  exact z_Ev_iretE rfl rfl (by rfl) (by first | rfl | simp [*, dm_33, dm_34, dm_35, dm_36, dm_37, dm_32])
theorem m_startFault_1 {xs : Nat → Int32} {L : Nat}  (C : Nat → Nat → Nat → Int32) (s a v t ld ob : Nat → Int32) (E : Nat → Int64)  : z_Mt xs L m_X5_startFault [aR 0 32, aI (1 : Int32)] (C, dm s a v t ld ob, E) (.inl (some (aI (if s 17 = 0 then 0 else 2)))) (C, dm s a v t ld ob, E) 0 := by
  refine z_Ev_blk 1 (c' := (1, [some (aR 0 32), some (aI (1 : Int32))], [aI (1 : Int32)], (C, dm s a v t ld ob, E))) rfl trivial ?_
  refine z_Ev_call0 (m' := m_X5_isSet) (as := [aI (1 : Int32)]) (r := []) ((by have q := e_mSet (xs := xs) (L := L) (1 : Int32) C (dm s a v t ld ob) E; rw [f_b_t (by decide)] at q; exact q)) rfl rfl ?_
  refine z_Ev_blk 1 (c' := ((if (1 : Int32) = 0 then 7 else 11), [some (aR 0 32), some (aI (1 : Int32))], [], (C, dm s a v t ld ob, E))) rfl trivial ?_
  refine z_Ev_else (by decide) ?_
  refine z_Ev_blk 7 (c' := ((if (s 17) = 0 then 27 else 23), [some (aR 0 32), some (aI (1 : Int32))], [], (C, dm s a v t ld ob, E))) rfl ⟨rfl, trivial⟩ ?_
  refine z_Ev_ite (fun h1 => ?_) (fun h1 => ?_)
  · skip
    refine z_Ev_blk 1 (c' := (28, [some (aR 0 32), some (aI (1 : Int32))], [aI (0 : Int32)], (C, dm s a v t ld ob, E))) rfl trivial ?_
    exact z_Ev_iretE rfl rfl (by first | rfl | simp [*]) (by first | rfl | simp [*, dm_33, dm_34, dm_35, dm_36, dm_37, dm_32])
  · skip
    refine z_Ev_blk 2 (c' := (28, [some (aR 0 32), some (aI (1 : Int32))], [aI (2 : Int32)], (C, dm s a v t ld ob, E))) rfl trivial ?_
    exact z_Ev_iretE rfl rfl (by first | rfl | simp [*]) (by first | rfl | simp [*, dm_33, dm_34, dm_35, dm_36, dm_37, dm_32])
theorem m_starts_1 {xs : Nat → Int32} {L : Nat}  (C : Nat → Nat → Nat → Int32) (s a v t ld ob : Nat → Int32) (E : Nat → Int64)  : z_Mt xs L m_X5_starts [aR 0 32, aI (1 : Int32)] (C, dm s a v t ld ob, E) (.inl (some (aI (s 13)))) (C, dm (upd (upd s 21 (s 13)) 17 (if s 13 = 0 then 2 else 1)) a v t ld ob, E) 0 := by
  refine z_Ev_blk 12 (c' := (18, [some (aR 0 32), some (aI (1 : Int32))], [], (C, up2 (dm s a v t ld ob) 33 21 (s 13), E))) rfl ⟨rfl, rfl, trivial⟩ ?_
  rw [dm_33]
  refine z_Ev_blk 12 (c' := ((if (s 13) = 0 then 38 else 42), [some (aR 0 32), some (aI (1 : Int32))], [aI (17 : Int32), aR 0 33], (C, dm (upd s 21 (s 13)) a v t ld ob, E))) rfl ⟨rfl, trivial⟩ ?_
  refine z_Ev_ite (fun h1 => ?_) (fun h1 => ?_)
  · skip
    refine z_Ev_blk 3 (c' := (44, [some (aR 0 32), some (aI (1 : Int32))], [], (C, up2 (dm (upd s 21 (s 13)) a v t ld ob) 33 17 (2 : Int32), E))) rfl ⟨rfl, trivial⟩ ?_
    rw [dm_33]
    refine z_Ev_blk 6 (c' := (53, [some (aR 0 32), some (aI (1 : Int32))], [aI (s 13)], (C, dm (upd (upd s 21 (s 13)) 17 (2 : Int32)) a v t ld ob, E))) rfl ⟨rfl, trivial⟩ ?_
    exact z_Ev_iretE rfl rfl (by simp [upd]) (by first | rfl | simp [*, dm_33, dm_34, dm_35, dm_36, dm_37, dm_32])
  · skip
    refine z_Ev_blk 2 (c' := (44, [some (aR 0 32), some (aI (1 : Int32))], [], (C, up2 (dm (upd s 21 (s 13)) a v t ld ob) 33 17 (1 : Int32), E))) rfl ⟨rfl, trivial⟩ ?_
    rw [dm_33]
    refine z_Ev_blk 6 (c' := (53, [some (aR 0 32), some (aI (1 : Int32))], [aI (s 13)], (C, dm (upd (upd s 21 (s 13)) 17 (1 : Int32)) a v t ld ob, E))) rfl ⟨rfl, trivial⟩ ?_
    exact z_Ev_iretE rfl rfl (by simp [upd]) (by first | rfl | simp [*, dm_33, dm_34, dm_35, dm_36, dm_37, dm_32])
theorem m_stopFault_1 {xs : Nat → Int32} {L : Nat}  (C : Nat → Nat → Nat → Int32) (s a v t ld ob : Nat → Int32) (E : Nat → Int64)  : z_Mt xs L m_X5_stopFault [aR 0 32, aI (1 : Int32)] (C, dm s a v t ld ob, E) (.inl (some (aI (if 1 ≤ s 17 ∧ s 17 ≤ 2 then 0 else 2)))) (C, dm s a v t ld ob, E) 0 := by
  refine z_Ev_blk 1 (c' := (1, [some (aR 0 32), some (aI (1 : Int32))], [aI (1 : Int32)], (C, dm s a v t ld ob, E))) rfl trivial ?_
  refine z_Ev_call0 (m' := m_X5_isSet) (as := [aI (1 : Int32)]) (r := []) ((by have q := e_mSet (xs := xs) (L := L) (1 : Int32) C (dm s a v t ld ob) E; rw [f_b_t (by decide)] at q; exact q)) rfl rfl ?_
  refine z_Ev_blk 1 (c' := ((if (1 : Int32) = 0 then 7 else 11), [some (aR 0 32), some (aI (1 : Int32))], [], (C, dm s a v t ld ob, E))) rfl trivial ?_
  refine z_Ev_else (by decide) ?_
  refine z_Ev_blk 8 (c' := (22, [some (aR 0 32), some (aI (1 : Int32))], [aI (2 : Int32), aI (1 : Int32), aI (s 17)], (C, dm s a v t ld ob, E))) rfl ⟨rfl, trivial⟩ ?_
  refine z_Ev_call0 (m' := m_X5_in) (as := [aI (s 17), aI (1 : Int32), aI (2 : Int32)]) (r := []) (e_in (s 17) (1 : Int32) (2 : Int32) _ _ _) rfl rfl ?_
  refine z_Ev_blk 1 (c' := ((if (f_b ((1 : Int32) ≤ (s 17) ∧ (s 17) ≤ (2 : Int32))) = 0 then 28 else 32), [some (aR 0 32), some (aI (1 : Int32))], [], (C, dm s a v t ld ob, E))) rfl trivial ?_
  refine z_Ev_ite (fun h1 => ?_) (fun h1 => ?_)
  · replace h1 := f_bZ h1
    refine z_Ev_blk 2 (c' := (33, [some (aR 0 32), some (aI (1 : Int32))], [aI (2 : Int32)], (C, dm s a v t ld ob, E))) rfl trivial ?_
    exact z_Ev_iretE rfl rfl (by first | rfl | simp [*]) (by first | rfl | simp [*, dm_33, dm_34, dm_35, dm_36, dm_37, dm_32])
  · replace h1 := f_bQ h1
    refine z_Ev_blk 1 (c' := (33, [some (aR 0 32), some (aI (1 : Int32))], [aI (0 : Int32)], (C, dm s a v t ld ob, E))) rfl trivial ?_
    exact z_Ev_iretE rfl rfl (by first | rfl | simp [*]) (by first | rfl | simp [*, dm_33, dm_34, dm_35, dm_36, dm_37, dm_32])
theorem m_stops_1 {xs : Nat → Int32} {L : Nat}  (C : Nat → Nat → Nat → Int32) (s a v t ld ob : Nat → Int32) (E : Nat → Int64)  : z_Mt xs L m_X5_stops [aR 0 32, aI (1 : Int32)] (C, dm s a v t ld ob, E) (.inl (some (aI (manF (mkF (fun j => (upd (upd s 17 0) 21 0) (16 + j)) 2))))) (C, dm (upd (upd s 17 0) 21 0) a v t ld ob, E) 0 := by
  refine z_Ev_blk 7 (c' := (10, [some (aR 0 32), some (aI (1 : Int32))], [], (C, up2 (dm s a v t ld ob) 33 17 (0 : Int32), E))) rfl ⟨rfl, trivial⟩ ?_
  rw [dm_33]
  refine z_Ev_blk 7 (c' := (20, [some (aR 0 32), some (aI (1 : Int32))], [], (C, up2 (dm (upd s 17 (0 : Int32)) a v t ld ob) 33 21 (0 : Int32), E))) rfl ⟨rfl, trivial⟩ ?_
  rw [dm_33]
  refine z_Ev_blk 1 (c' := (21, [some (aR 0 32), some (aI (1 : Int32))], [aR 0 32], (C, dm (upd (upd s 17 (0 : Int32)) 21 (0 : Int32)) a v t ld ob, E))) rfl trivial ?_
  refine z_Ev_call0 (m' := m_X5_running) (as := [aR 0 32]) (r := []) ((e_running C (dm (upd (upd s 17 (0 : Int32)) 21 (0 : Int32)) a v t ld ob) E)) rfl rfl ?_
  refine z_Ev_call0 (m' := m_X5_many) (as := [aI (mkF (fun j => (upd (upd s 17 (0 : Int32)) 21 (0 : Int32)) (16 + j)) 2)]) (r := []) (m_many (mkF (fun j => (upd (upd s 17 (0 : Int32)) 21 (0 : Int32)) (16 + j)) 2) C (upd (upd s 17 (0 : Int32)) 21 (0 : Int32)) a v t ld ob E) rfl rfl ?_
  exact z_Ev_iretE rfl rfl (by rfl) (by first | rfl | simp [*, dm_33, dm_34, dm_35, dm_36, dm_37, dm_32])
theorem m_startFault_2 {xs : Nat → Int32} {L : Nat}  (C : Nat → Nat → Nat → Int32) (s a v t ld ob : Nat → Int32) (E : Nat → Int64)  : z_Mt xs L m_X5_startFault [aR 0 32, aI (2 : Int32)] (C, dm s a v t ld ob, E) (.inl (some (aI (if s 18 = 0 then 0 else 2)))) (C, dm s a v t ld ob, E) 0 := by
  refine z_Ev_blk 1 (c' := (1, [some (aR 0 32), some (aI (2 : Int32))], [aI (2 : Int32)], (C, dm s a v t ld ob, E))) rfl trivial ?_
  refine z_Ev_call0 (m' := m_X5_isSet) (as := [aI (2 : Int32)]) (r := []) ((by have q := e_mSet (xs := xs) (L := L) (2 : Int32) C (dm s a v t ld ob) E; rw [f_b_t (by decide)] at q; exact q)) rfl rfl ?_
  refine z_Ev_blk 1 (c' := ((if (1 : Int32) = 0 then 7 else 11), [some (aR 0 32), some (aI (2 : Int32))], [], (C, dm s a v t ld ob, E))) rfl trivial ?_
  refine z_Ev_else (by decide) ?_
  refine z_Ev_blk 7 (c' := ((if (s 18) = 0 then 27 else 23), [some (aR 0 32), some (aI (2 : Int32))], [], (C, dm s a v t ld ob, E))) rfl ⟨rfl, trivial⟩ ?_
  refine z_Ev_ite (fun h1 => ?_) (fun h1 => ?_)
  · skip
    refine z_Ev_blk 1 (c' := (28, [some (aR 0 32), some (aI (2 : Int32))], [aI (0 : Int32)], (C, dm s a v t ld ob, E))) rfl trivial ?_
    exact z_Ev_iretE rfl rfl (by first | rfl | simp [*]) (by first | rfl | simp [*, dm_33, dm_34, dm_35, dm_36, dm_37, dm_32])
  · skip
    refine z_Ev_blk 2 (c' := (28, [some (aR 0 32), some (aI (2 : Int32))], [aI (2 : Int32)], (C, dm s a v t ld ob, E))) rfl trivial ?_
    exact z_Ev_iretE rfl rfl (by first | rfl | simp [*]) (by first | rfl | simp [*, dm_33, dm_34, dm_35, dm_36, dm_37, dm_32])
theorem m_starts_2 {xs : Nat → Int32} {L : Nat}  (C : Nat → Nat → Nat → Int32) (s a v t ld ob : Nat → Int32) (E : Nat → Int64)  : z_Mt xs L m_X5_starts [aR 0 32, aI (2 : Int32)] (C, dm s a v t ld ob, E) (.inl (some (aI (s 14)))) (C, dm (upd (upd s 22 (s 14)) 18 (if s 14 = 0 then 2 else 1)) a v t ld ob, E) 0 := by
  refine z_Ev_blk 12 (c' := (18, [some (aR 0 32), some (aI (2 : Int32))], [], (C, up2 (dm s a v t ld ob) 33 22 (s 14), E))) rfl ⟨rfl, rfl, trivial⟩ ?_
  rw [dm_33]
  refine z_Ev_blk 12 (c' := ((if (s 14) = 0 then 38 else 42), [some (aR 0 32), some (aI (2 : Int32))], [aI (18 : Int32), aR 0 33], (C, dm (upd s 22 (s 14)) a v t ld ob, E))) rfl ⟨rfl, trivial⟩ ?_
  refine z_Ev_ite (fun h1 => ?_) (fun h1 => ?_)
  · skip
    refine z_Ev_blk 3 (c' := (44, [some (aR 0 32), some (aI (2 : Int32))], [], (C, up2 (dm (upd s 22 (s 14)) a v t ld ob) 33 18 (2 : Int32), E))) rfl ⟨rfl, trivial⟩ ?_
    rw [dm_33]
    refine z_Ev_blk 6 (c' := (53, [some (aR 0 32), some (aI (2 : Int32))], [aI (s 14)], (C, dm (upd (upd s 22 (s 14)) 18 (2 : Int32)) a v t ld ob, E))) rfl ⟨rfl, trivial⟩ ?_
    exact z_Ev_iretE rfl rfl (by simp [upd]) (by first | rfl | simp [*, dm_33, dm_34, dm_35, dm_36, dm_37, dm_32])
  · skip
    refine z_Ev_blk 2 (c' := (44, [some (aR 0 32), some (aI (2 : Int32))], [], (C, up2 (dm (upd s 22 (s 14)) a v t ld ob) 33 18 (1 : Int32), E))) rfl ⟨rfl, trivial⟩ ?_
    rw [dm_33]
    refine z_Ev_blk 6 (c' := (53, [some (aR 0 32), some (aI (2 : Int32))], [aI (s 14)], (C, dm (upd (upd s 22 (s 14)) 18 (1 : Int32)) a v t ld ob, E))) rfl ⟨rfl, trivial⟩ ?_
    exact z_Ev_iretE rfl rfl (by simp [upd]) (by first | rfl | simp [*, dm_33, dm_34, dm_35, dm_36, dm_37, dm_32])
theorem m_stopFault_2 {xs : Nat → Int32} {L : Nat}  (C : Nat → Nat → Nat → Int32) (s a v t ld ob : Nat → Int32) (E : Nat → Int64)  : z_Mt xs L m_X5_stopFault [aR 0 32, aI (2 : Int32)] (C, dm s a v t ld ob, E) (.inl (some (aI (if 1 ≤ s 18 ∧ s 18 ≤ 2 then 0 else 2)))) (C, dm s a v t ld ob, E) 0 := by
  refine z_Ev_blk 1 (c' := (1, [some (aR 0 32), some (aI (2 : Int32))], [aI (2 : Int32)], (C, dm s a v t ld ob, E))) rfl trivial ?_
  refine z_Ev_call0 (m' := m_X5_isSet) (as := [aI (2 : Int32)]) (r := []) ((by have q := e_mSet (xs := xs) (L := L) (2 : Int32) C (dm s a v t ld ob) E; rw [f_b_t (by decide)] at q; exact q)) rfl rfl ?_
  refine z_Ev_blk 1 (c' := ((if (1 : Int32) = 0 then 7 else 11), [some (aR 0 32), some (aI (2 : Int32))], [], (C, dm s a v t ld ob, E))) rfl trivial ?_
  refine z_Ev_else (by decide) ?_
  refine z_Ev_blk 8 (c' := (22, [some (aR 0 32), some (aI (2 : Int32))], [aI (2 : Int32), aI (1 : Int32), aI (s 18)], (C, dm s a v t ld ob, E))) rfl ⟨rfl, trivial⟩ ?_
  refine z_Ev_call0 (m' := m_X5_in) (as := [aI (s 18), aI (1 : Int32), aI (2 : Int32)]) (r := []) (e_in (s 18) (1 : Int32) (2 : Int32) _ _ _) rfl rfl ?_
  refine z_Ev_blk 1 (c' := ((if (f_b ((1 : Int32) ≤ (s 18) ∧ (s 18) ≤ (2 : Int32))) = 0 then 28 else 32), [some (aR 0 32), some (aI (2 : Int32))], [], (C, dm s a v t ld ob, E))) rfl trivial ?_
  refine z_Ev_ite (fun h1 => ?_) (fun h1 => ?_)
  · replace h1 := f_bZ h1
    refine z_Ev_blk 2 (c' := (33, [some (aR 0 32), some (aI (2 : Int32))], [aI (2 : Int32)], (C, dm s a v t ld ob, E))) rfl trivial ?_
    exact z_Ev_iretE rfl rfl (by first | rfl | simp [*]) (by first | rfl | simp [*, dm_33, dm_34, dm_35, dm_36, dm_37, dm_32])
  · replace h1 := f_bQ h1
    refine z_Ev_blk 1 (c' := (33, [some (aR 0 32), some (aI (2 : Int32))], [aI (0 : Int32)], (C, dm s a v t ld ob, E))) rfl trivial ?_
    exact z_Ev_iretE rfl rfl (by first | rfl | simp [*]) (by first | rfl | simp [*, dm_33, dm_34, dm_35, dm_36, dm_37, dm_32])
theorem m_stops_2 {xs : Nat → Int32} {L : Nat}  (C : Nat → Nat → Nat → Int32) (s a v t ld ob : Nat → Int32) (E : Nat → Int64)  : z_Mt xs L m_X5_stops [aR 0 32, aI (2 : Int32)] (C, dm s a v t ld ob, E) (.inl (some (aI (manF (mkF (fun j => (upd (upd s 18 0) 22 0) (16 + j)) 2))))) (C, dm (upd (upd s 18 0) 22 0) a v t ld ob, E) 0 := by
  refine z_Ev_blk 7 (c' := (10, [some (aR 0 32), some (aI (2 : Int32))], [], (C, up2 (dm s a v t ld ob) 33 18 (0 : Int32), E))) rfl ⟨rfl, trivial⟩ ?_
  rw [dm_33]
  refine z_Ev_blk 7 (c' := (20, [some (aR 0 32), some (aI (2 : Int32))], [], (C, up2 (dm (upd s 18 (0 : Int32)) a v t ld ob) 33 22 (0 : Int32), E))) rfl ⟨rfl, trivial⟩ ?_
  rw [dm_33]
  refine z_Ev_blk 1 (c' := (21, [some (aR 0 32), some (aI (2 : Int32))], [aR 0 32], (C, dm (upd (upd s 18 (0 : Int32)) 22 (0 : Int32)) a v t ld ob, E))) rfl trivial ?_
  refine z_Ev_call0 (m' := m_X5_running) (as := [aR 0 32]) (r := []) ((e_running C (dm (upd (upd s 18 (0 : Int32)) 22 (0 : Int32)) a v t ld ob) E)) rfl rfl ?_
  refine z_Ev_call0 (m' := m_X5_many) (as := [aI (mkF (fun j => (upd (upd s 18 (0 : Int32)) 22 (0 : Int32)) (16 + j)) 2)]) (r := []) (m_many (mkF (fun j => (upd (upd s 18 (0 : Int32)) 22 (0 : Int32)) (16 + j)) 2) C (upd (upd s 18 (0 : Int32)) 22 (0 : Int32)) a v t ld ob E) rfl rfl ?_
  exact z_Ev_iretE rfl rfl (by rfl) (by first | rfl | simp [*, dm_33, dm_34, dm_35, dm_36, dm_37, dm_32])
theorem m_startFault_3 {xs : Nat → Int32} {L : Nat}  (C : Nat → Nat → Nat → Int32) (s a v t ld ob : Nat → Int32) (E : Nat → Int64)  : z_Mt xs L m_X5_startFault [aR 0 32, aI (3 : Int32)] (C, dm s a v t ld ob, E) (.inl (some (aI (if s 19 = 0 then 0 else 2)))) (C, dm s a v t ld ob, E) 0 := by
  refine z_Ev_blk 1 (c' := (1, [some (aR 0 32), some (aI (3 : Int32))], [aI (3 : Int32)], (C, dm s a v t ld ob, E))) rfl trivial ?_
  refine z_Ev_call0 (m' := m_X5_isSet) (as := [aI (3 : Int32)]) (r := []) ((by have q := e_mSet (xs := xs) (L := L) (3 : Int32) C (dm s a v t ld ob) E; rw [f_b_t (by decide)] at q; exact q)) rfl rfl ?_
  refine z_Ev_blk 1 (c' := ((if (1 : Int32) = 0 then 7 else 11), [some (aR 0 32), some (aI (3 : Int32))], [], (C, dm s a v t ld ob, E))) rfl trivial ?_
  refine z_Ev_else (by decide) ?_
  refine z_Ev_blk 7 (c' := ((if (s 19) = 0 then 27 else 23), [some (aR 0 32), some (aI (3 : Int32))], [], (C, dm s a v t ld ob, E))) rfl ⟨rfl, trivial⟩ ?_
  refine z_Ev_ite (fun h1 => ?_) (fun h1 => ?_)
  · skip
    refine z_Ev_blk 1 (c' := (28, [some (aR 0 32), some (aI (3 : Int32))], [aI (0 : Int32)], (C, dm s a v t ld ob, E))) rfl trivial ?_
    exact z_Ev_iretE rfl rfl (by first | rfl | simp [*]) (by first | rfl | simp [*, dm_33, dm_34, dm_35, dm_36, dm_37, dm_32])
  · skip
    refine z_Ev_blk 2 (c' := (28, [some (aR 0 32), some (aI (3 : Int32))], [aI (2 : Int32)], (C, dm s a v t ld ob, E))) rfl trivial ?_
    exact z_Ev_iretE rfl rfl (by first | rfl | simp [*]) (by first | rfl | simp [*, dm_33, dm_34, dm_35, dm_36, dm_37, dm_32])
theorem m_starts_3 {xs : Nat → Int32} {L : Nat}  (C : Nat → Nat → Nat → Int32) (s a v t ld ob : Nat → Int32) (E : Nat → Int64)  : z_Mt xs L m_X5_starts [aR 0 32, aI (3 : Int32)] (C, dm s a v t ld ob, E) (.inl (some (aI (s 15)))) (C, dm (upd (upd s 23 (s 15)) 19 (if s 15 = 0 then 2 else 1)) a v t ld ob, E) 0 := by
  refine z_Ev_blk 12 (c' := (18, [some (aR 0 32), some (aI (3 : Int32))], [], (C, up2 (dm s a v t ld ob) 33 23 (s 15), E))) rfl ⟨rfl, rfl, trivial⟩ ?_
  rw [dm_33]
  refine z_Ev_blk 12 (c' := ((if (s 15) = 0 then 38 else 42), [some (aR 0 32), some (aI (3 : Int32))], [aI (19 : Int32), aR 0 33], (C, dm (upd s 23 (s 15)) a v t ld ob, E))) rfl ⟨rfl, trivial⟩ ?_
  refine z_Ev_ite (fun h1 => ?_) (fun h1 => ?_)
  · skip
    refine z_Ev_blk 3 (c' := (44, [some (aR 0 32), some (aI (3 : Int32))], [], (C, up2 (dm (upd s 23 (s 15)) a v t ld ob) 33 19 (2 : Int32), E))) rfl ⟨rfl, trivial⟩ ?_
    rw [dm_33]
    refine z_Ev_blk 6 (c' := (53, [some (aR 0 32), some (aI (3 : Int32))], [aI (s 15)], (C, dm (upd (upd s 23 (s 15)) 19 (2 : Int32)) a v t ld ob, E))) rfl ⟨rfl, trivial⟩ ?_
    exact z_Ev_iretE rfl rfl (by simp [upd]) (by first | rfl | simp [*, dm_33, dm_34, dm_35, dm_36, dm_37, dm_32])
  · skip
    refine z_Ev_blk 2 (c' := (44, [some (aR 0 32), some (aI (3 : Int32))], [], (C, up2 (dm (upd s 23 (s 15)) a v t ld ob) 33 19 (1 : Int32), E))) rfl ⟨rfl, trivial⟩ ?_
    rw [dm_33]
    refine z_Ev_blk 6 (c' := (53, [some (aR 0 32), some (aI (3 : Int32))], [aI (s 15)], (C, dm (upd (upd s 23 (s 15)) 19 (1 : Int32)) a v t ld ob, E))) rfl ⟨rfl, trivial⟩ ?_
    exact z_Ev_iretE rfl rfl (by simp [upd]) (by first | rfl | simp [*, dm_33, dm_34, dm_35, dm_36, dm_37, dm_32])
theorem m_stopFault_3 {xs : Nat → Int32} {L : Nat}  (C : Nat → Nat → Nat → Int32) (s a v t ld ob : Nat → Int32) (E : Nat → Int64)  : z_Mt xs L m_X5_stopFault [aR 0 32, aI (3 : Int32)] (C, dm s a v t ld ob, E) (.inl (some (aI (if 1 ≤ s 19 ∧ s 19 ≤ 2 then 0 else 2)))) (C, dm s a v t ld ob, E) 0 := by
  refine z_Ev_blk 1 (c' := (1, [some (aR 0 32), some (aI (3 : Int32))], [aI (3 : Int32)], (C, dm s a v t ld ob, E))) rfl trivial ?_
  refine z_Ev_call0 (m' := m_X5_isSet) (as := [aI (3 : Int32)]) (r := []) ((by have q := e_mSet (xs := xs) (L := L) (3 : Int32) C (dm s a v t ld ob) E; rw [f_b_t (by decide)] at q; exact q)) rfl rfl ?_
  refine z_Ev_blk 1 (c' := ((if (1 : Int32) = 0 then 7 else 11), [some (aR 0 32), some (aI (3 : Int32))], [], (C, dm s a v t ld ob, E))) rfl trivial ?_
  refine z_Ev_else (by decide) ?_
  refine z_Ev_blk 8 (c' := (22, [some (aR 0 32), some (aI (3 : Int32))], [aI (2 : Int32), aI (1 : Int32), aI (s 19)], (C, dm s a v t ld ob, E))) rfl ⟨rfl, trivial⟩ ?_
  refine z_Ev_call0 (m' := m_X5_in) (as := [aI (s 19), aI (1 : Int32), aI (2 : Int32)]) (r := []) (e_in (s 19) (1 : Int32) (2 : Int32) _ _ _) rfl rfl ?_
  refine z_Ev_blk 1 (c' := ((if (f_b ((1 : Int32) ≤ (s 19) ∧ (s 19) ≤ (2 : Int32))) = 0 then 28 else 32), [some (aR 0 32), some (aI (3 : Int32))], [], (C, dm s a v t ld ob, E))) rfl trivial ?_
  refine z_Ev_ite (fun h1 => ?_) (fun h1 => ?_)
  · replace h1 := f_bZ h1
    refine z_Ev_blk 2 (c' := (33, [some (aR 0 32), some (aI (3 : Int32))], [aI (2 : Int32)], (C, dm s a v t ld ob, E))) rfl trivial ?_
    exact z_Ev_iretE rfl rfl (by first | rfl | simp [*]) (by first | rfl | simp [*, dm_33, dm_34, dm_35, dm_36, dm_37, dm_32])
  · replace h1 := f_bQ h1
    refine z_Ev_blk 1 (c' := (33, [some (aR 0 32), some (aI (3 : Int32))], [aI (0 : Int32)], (C, dm s a v t ld ob, E))) rfl trivial ?_
    exact z_Ev_iretE rfl rfl (by first | rfl | simp [*]) (by first | rfl | simp [*, dm_33, dm_34, dm_35, dm_36, dm_37, dm_32])
theorem m_stops_3 {xs : Nat → Int32} {L : Nat}  (C : Nat → Nat → Nat → Int32) (s a v t ld ob : Nat → Int32) (E : Nat → Int64)  : z_Mt xs L m_X5_stops [aR 0 32, aI (3 : Int32)] (C, dm s a v t ld ob, E) (.inl (some (aI (manF (mkF (fun j => (upd (upd s 19 0) 23 0) (16 + j)) 2))))) (C, dm (upd (upd s 19 0) 23 0) a v t ld ob, E) 0 := by
  refine z_Ev_blk 7 (c' := (10, [some (aR 0 32), some (aI (3 : Int32))], [], (C, up2 (dm s a v t ld ob) 33 19 (0 : Int32), E))) rfl ⟨rfl, trivial⟩ ?_
  rw [dm_33]
  refine z_Ev_blk 7 (c' := (20, [some (aR 0 32), some (aI (3 : Int32))], [], (C, up2 (dm (upd s 19 (0 : Int32)) a v t ld ob) 33 23 (0 : Int32), E))) rfl ⟨rfl, trivial⟩ ?_
  rw [dm_33]
  refine z_Ev_blk 1 (c' := (21, [some (aR 0 32), some (aI (3 : Int32))], [aR 0 32], (C, dm (upd (upd s 19 (0 : Int32)) 23 (0 : Int32)) a v t ld ob, E))) rfl trivial ?_
  refine z_Ev_call0 (m' := m_X5_running) (as := [aR 0 32]) (r := []) ((e_running C (dm (upd (upd s 19 (0 : Int32)) 23 (0 : Int32)) a v t ld ob) E)) rfl rfl ?_
  refine z_Ev_call0 (m' := m_X5_many) (as := [aI (mkF (fun j => (upd (upd s 19 (0 : Int32)) 23 (0 : Int32)) (16 + j)) 2)]) (r := []) (m_many (mkF (fun j => (upd (upd s 19 (0 : Int32)) 23 (0 : Int32)) (16 + j)) 2) C (upd (upd s 19 (0 : Int32)) 23 (0 : Int32)) a v t ld ob E) rfl rfl ?_
  exact z_Ev_iretE rfl rfl (by rfl) (by first | rfl | simp [*, dm_33, dm_34, dm_35, dm_36, dm_37, dm_32])
theorem m_startFault_x {xs : Nat → Int32} {L : Nat} (v0 : Int32) (C : Nat → Nat → Nat → Int32) (s a v t ld ob : Nat → Int32) (E : Nat → Int64) (hv : ¬ (0 ≤ v0 ∧ v0 ≤ 3)) : z_Mt xs L m_X5_startFault [aR 0 32, aI v0] (C, dm s a v t ld ob, E) (.inl (some (aI (1 : Int32)))) (C, dm s a v t ld ob, E) 0 := by
  refine z_Ev_blk 1 (c' := (1, [some (aR 0 32), some (aI v0)], [aI v0], (C, dm s a v t ld ob, E))) rfl trivial ?_
  refine z_Ev_call0 (m' := m_X5_isSet) (as := [aI v0]) (r := []) (e_mSet v0 _ _ _) rfl rfl ?_
  refine z_Ev_blk 1 (c' := ((if (f_b (0 ≤ v0 ∧ v0 ≤ 3)) = 0 then 7 else 11), [some (aR 0 32), some (aI v0)], [], (C, dm s a v t ld ob, E))) rfl trivial ?_
  refine z_Ev_if (f_bN hv) ?_
  refine z_Ev_blk 2 (c' := (28, [some (aR 0 32), some (aI v0)], [aI (1 : Int32)], (C, dm s a v t ld ob, E))) rfl trivial ?_
  exact z_Ev_iretE rfl rfl (by first | rfl | simp [*]) (by first | rfl | simp [*, dm_33, dm_34, dm_35, dm_36, dm_37, dm_32])
theorem m_stopFault_x {xs : Nat → Int32} {L : Nat} (v0 : Int32) (C : Nat → Nat → Nat → Int32) (s a v t ld ob : Nat → Int32) (E : Nat → Int64) (hv : ¬ (0 ≤ v0 ∧ v0 ≤ 3)) : z_Mt xs L m_X5_stopFault [aR 0 32, aI v0] (C, dm s a v t ld ob, E) (.inl (some (aI (1 : Int32)))) (C, dm s a v t ld ob, E) 0 := by
  refine z_Ev_blk 1 (c' := (1, [some (aR 0 32), some (aI v0)], [aI v0], (C, dm s a v t ld ob, E))) rfl trivial ?_
  refine z_Ev_call0 (m' := m_X5_isSet) (as := [aI v0]) (r := []) (e_mSet v0 _ _ _) rfl rfl ?_
  refine z_Ev_blk 1 (c' := ((if (f_b (0 ≤ v0 ∧ v0 ≤ 3)) = 0 then 7 else 11), [some (aR 0 32), some (aI v0)], [], (C, dm s a v t ld ob, E))) rfl trivial ?_
  refine z_Ev_if (f_bN hv) ?_
  refine z_Ev_blk 2 (c' := (33, [some (aR 0 32), some (aI v0)], [aI (1 : Int32)], (C, dm s a v t ld ob, E))) rfl trivial ?_
  exact z_Ev_iretE rfl rfl (by first | rfl | simp [*]) (by first | rfl | simp [*, dm_33, dm_34, dm_35, dm_36, dm_37, dm_32])
theorem m_sheds {xs : Nat → Int32} {L : Nat}  (C : Nat → Nat → Nat → Int32) (s a v t ld ob : Nat → Int32) (E : Nat → Int64)  : z_Mt xs L m_X5_sheds [aR 0 32] (C, dm s a v t ld ob, E) (.inl (some (aI (1 - s 37)))) (C, dm (upd s 37 (1 - s 37)) a v t ld ob, E) 0 := by
  refine z_Ev_blk 10 (c' := (16, [some (aR 0 32)], [], (C, up2 (dm s a v t ld ob) 33 37 ((1 : Int32) - (s 37)), E))) rfl ⟨rfl, rfl, trivial⟩ ?_
  rw [dm_33]
  refine z_Ev_blk 4 (c' := (23, [some (aR 0 32)], [aI ((1 : Int32) - (s 37))], (C, dm (upd s 37 ((1 : Int32) - (s 37))) a v t ld ob, E))) rfl ⟨rfl, trivial⟩ ?_
  exact z_Ev_iretE rfl rfl (by simp [upd]) (by first | rfl | simp [*, dm_33, dm_34, dm_35, dm_36, dm_37, dm_32])
theorem m_passFault {xs : Nat → Int32} {L : Nat} (h : Int32) (C : Nat → Nat → Nat → Int32) (s a v t ld ob : Nat → Int32) (E : Nat → Int64)  : z_Mt xs L m_X5_passFault [aR 0 32, aI h] (C, dm s a v t ld ob, E) (.inl (some (aI (if 1 ≤ h ∧ h ≤ 48 then (if s 34 + h ≤ 48 then 0 else 2) else 1)))) (C, dm s a v t ld ob, E) 0 := by
  refine z_Ev_blk 3 (c' := (4, [some (aR 0 32), some (aI h)], [aI (48 : Int32), aI (1 : Int32), aI h], (C, dm s a v t ld ob, E))) rfl trivial ?_
  refine z_Ev_call0 (m' := m_X5_in) (as := [aI h, aI (1 : Int32), aI (48 : Int32)]) (r := []) (e_in h (1 : Int32) (48 : Int32) _ _ _) rfl rfl ?_
  refine z_Ev_blk 1 (c' := ((if (f_b ((1 : Int32) ≤ h ∧ h ≤ (48 : Int32))) = 0 then 10 else 14), [some (aR 0 32), some (aI h)], [], (C, dm s a v t ld ob, E))) rfl trivial ?_
  refine z_Ev_ite (fun h1 => ?_) (fun h1 => ?_)
  · replace h1 := f_bZ h1
    refine z_Ev_blk 2 (c' := (33, [some (aR 0 32), some (aI h)], [aI (1 : Int32)], (C, dm s a v t ld ob, E))) rfl trivial ?_
    exact z_Ev_iretE rfl rfl (by simp [*]) (by first | rfl | simp [*, dm_33, dm_34, dm_35, dm_36, dm_37, dm_32])
  · replace h1 := f_bQ h1
    refine z_Ev_blk 8 (c' := ((if ((s 34) + h) ≤ (48 : Int32) then 32 else 28), [some (aR 0 32), some (aI h)], [], (C, dm s a v t ld ob, E))) rfl ⟨rfl, trivial⟩ ?_
    refine z_Ev_ite (fun h2 => ?_) (fun h2 => ?_)
    · skip
      refine z_Ev_blk 1 (c' := (33, [some (aR 0 32), some (aI h)], [aI (0 : Int32)], (C, dm s a v t ld ob, E))) rfl trivial ?_
      exact z_Ev_iretE rfl rfl (by simp [*]) (by first | rfl | simp [*, dm_33, dm_34, dm_35, dm_36, dm_37, dm_32])
    · skip
      refine z_Ev_blk 2 (c' := (33, [some (aR 0 32), some (aI h)], [aI (2 : Int32)], (C, dm s a v t ld ob, E))) rfl trivial ?_
      exact z_Ev_iretE rfl rfl (by simp [*]) (by first | rfl | simp [*, dm_33, dm_34, dm_35, dm_36, dm_37, dm_32])
theorem m_forecastFault {xs : Nat → Int32} {L : Nat} (h w : Int32) (C : Nat → Nat → Nat → Int32) (s a v t ld ob : Nat → Int32) (E : Nat → Int64)  : z_Mt xs L m_X5_forecastFault [aR 0 32, aI h, aI w] (C, dm s a v t ld ob, E) (.inl (some (aI (if (0 ≤ h ∧ h ≤ 47) ∧ (0 ≤ w ∧ w ≤ 1500) then 0 else 1)))) (C, dm s a v t ld ob, E) 0 := by
  refine z_Ev_blk 3 (c' := (4, [some (aR 0 32), some (aI h), some (aI w)], [aI (47 : Int32), aI (0 : Int32), aI h], (C, dm s a v t ld ob, E))) rfl trivial ?_
  refine z_Ev_call0 (m' := m_X5_in) (as := [aI h, aI (0 : Int32), aI (47 : Int32)]) (r := []) (e_in h (0 : Int32) (47 : Int32) _ _ _) rfl rfl ?_
  refine z_Ev_blk 1 (c' := ((if (f_b ((0 : Int32) ≤ h ∧ h ≤ (47 : Int32))) = 0 then 25 else 10), [some (aR 0 32), some (aI h), some (aI w)], [], (C, dm s a v t ld ob, E))) rfl trivial ?_
  refine z_Ev_ite (fun h1 => ?_) (fun h1 => ?_)
  · replace h1 := f_bZ h1
    refine z_Ev_blk 1 (c' := (26, [some (aR 0 32), some (aI h), some (aI w)], [aI (1 : Int32)], (C, dm s a v t ld ob, E))) rfl trivial ?_
    exact z_Ev_iretE rfl rfl (by simp [*]) (by first | rfl | simp [*, dm_33, dm_34, dm_35, dm_36, dm_37, dm_32])
  · replace h1 := f_bQ h1
    refine z_Ev_blk 3 (c' := (15, [some (aR 0 32), some (aI h), some (aI w)], [aI (1500 : Int32), aI (0 : Int32), aI w], (C, dm s a v t ld ob, E))) rfl trivial ?_
    refine z_Ev_call0 (m' := m_X5_in) (as := [aI w, aI (0 : Int32), aI (1500 : Int32)]) (r := []) (e_in w (0 : Int32) (1500 : Int32) _ _ _) rfl rfl ?_
    refine z_Ev_blk 1 (c' := ((if (f_b ((0 : Int32) ≤ w ∧ w ≤ (1500 : Int32))) = 0 then 25 else 21), [some (aR 0 32), some (aI h), some (aI w)], [], (C, dm s a v t ld ob, E))) rfl trivial ?_
    refine z_Ev_ite (fun h2 => ?_) (fun h2 => ?_)
    · replace h2 := f_bZ h2
      refine z_Ev_blk 1 (c' := (26, [some (aR 0 32), some (aI h), some (aI w)], [aI (1 : Int32)], (C, dm s a v t ld ob, E))) rfl trivial ?_
      exact z_Ev_iretE rfl rfl (by simp [*]) (by first | rfl | simp [*, dm_33, dm_34, dm_35, dm_36, dm_37, dm_32])
    · replace h2 := f_bQ h2
      refine z_Ev_blk 2 (c' := (26, [some (aR 0 32), some (aI h), some (aI w)], [aI (0 : Int32)], (C, dm s a v t ld ob, E))) rfl trivial ?_
      exact z_Ev_iretE rfl rfl (by simp [*]) (by first | rfl | simp [*, dm_33, dm_34, dm_35, dm_36, dm_37, dm_32])
theorem m_puts {xs : Nat → Int32} {L : Nat} (i w : Int32) (C : Nat → Nat → Nat → Int32) (s a v t ld ob : Nat → Int32) (E : Nat → Int64) (hi : z_inb i 376 = true) : z_Mt xs L m_X5_puts [aR 0 32, aI i, aI w] (C, dm s a v t ld ob, E) (.inl (some (aI (s i.toNatClampNeg)))) (C, dm (upd s i.toNatClampNeg w) a v t ld ob, E) 0 := by
  refine z_Ev_blk 10 (c' := (14, [some (aR 0 32), some (aI i), some (aI w), some (aI (s i.toNatClampNeg))], [], (C, up2 (dm s a v t ld ob) 33 i.toNatClampNeg w, E))) rfl ⟨(hi), (hi), trivial⟩ ?_
  rw [dm_33]
  refine z_Ev_blk 1 (c' := (15, [some (aR 0 32), some (aI i), some (aI w), some (aI (s i.toNatClampNeg))], [aI (s i.toNatClampNeg)], (C, dm (upd s i.toNatClampNeg w) a v t ld ob, E))) rfl trivial ?_
  exact z_Ev_iretE rfl rfl (by rfl) (by first | rfl | simp [*, dm_33, dm_34, dm_35, dm_36, dm_37, dm_32])
