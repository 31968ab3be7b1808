/-! THE MODEL: orders are done, go -/
theorem oa_hi {D : Nat → Nat → Int32} {ld ob : Nat → Int32} {all mask : Int32} {k : Nat} (h : 13 ≤ k) : sOb D all mask ld ob k = ob k := by
  unfold sOb sObT
  simp only [upd]
  rw [if_neg (by omega), if_neg (by omega), if_neg (by omega), if_neg (by omega), if_neg (by omega)]
theorem goI_hi : ∀ (n : Nat) (x : S3) (k : Nat), 13 ≤ k → (goI n x).2.2 k = x.2.2 k
  | 0, x, k, _ => rfl
  | n + 1, x, k, hk => by
    rw [goI_s, goI_hi n (goT x) k hk, goT_3]
    unfold gOb
    exact oa_hi hk
def keep (ob OB : Nat → Int32) : Prop := ∀ k, (k < 8 ∨ 13 ≤ k) → OB k = ob k
theorem p_passes {xs : Nat → Int32} {L : Nat} (C : Nat → Nat → Nat → Int32) (s a v t ld ob : Nat → Int32) (E : Nat → Int64) {H : Nat} (n : Nat) (hV : Vs s H) (hn : H + n ≤ 48) : ∃ LD OB : Nat → Int32, keep ob OB ∧ z_Mt xs L m_X5_passes [aR 0 32, aI (nI n)] (C, dm s a v t ld ob, E) (.inl (some (aI (goM n s 38 - s 38)))) (C, dm (goM n s) a v t LD OB, E) 0 := by
  have q := m_passes (xs := xs) (L := L) n H C s a v t ld ob E hV.2.1.1 hn
  have e : (goI n (s, ld, ob)).1 = goM n s := goI_M n (s, ld, ob)
  rw [e] at q
  exact ⟨_, _, fun k hk => hk.elim (goI_ob n (s, ld, ob) k) (goI_hi n (s, ld, ob) k), q⟩
theorem st12 {x : Int32} : (1 ≤ x ∧ x ≤ 2) ↔ (x = 1 ∨ x = 2) := by
  have t2 : (2 : Int32).toInt = 2 := rfl
  rw [i_le, i_le, ← Int32.toInt_inj, ← Int32.toInt_inj, t1, t2]
  omega
theorem idx40 {h : Nat} (hh : h < 48) : (40 + nI h : Int32).toNatClampNeg = 40 + h := by
  rw [show (40 : Int32) = nI 40 from rfl, nI_add, nI_clamp (by omega)]
theorem in40 {h : Nat} (hh : h < 48) : z_inb (40 + nI h) 376 = true := hrA (c := 40) 40 rfl (by omega) (by decide)

theorem Vs_st {s : Nat → Int32} {H k : Nat} (hV : Vs s H) (hk : k < 4) : Vs (stF s k) H := by
  have o : ∀ j, j ≠ 16 + k → j ≠ 20 + k → stF s k j = s j := fun j h1 h2 => by unfold stF; rw [upd_ne h2, upd_ne h1]
  refine Vs_lo hV (fun i hi => ?_) (fun j hj => o j (by omega) (by omega))
  have h := hV.1 i hi
  unfold okk at h ⊢
  rw [o _ (by omega) (by omega), o _ (by omega) (by omega), o _ (by omega) (by omega), o _ (by omega) (by omega)]
  by_cases e : i = k
  · subst e
    have e16 : stF s i (16 + i) = 0 := by unfold stF; rw [upd_ne (by omega), upd_at]
    have e20 : stF s i (20 + i) = 0 := by unfold stF; rw [upd_at]
    rw [e16, e20]
    obtain ⟨a, b, c, d, -, -, -⟩ := h
    exact ⟨a, b, c, d, by decide, fun z => absurd z (by decide), by decide⟩
  · rw [o _ (by omega) (by omega), o _ (by omega) (by omega)]
    exact h
theorem do_43_0_1 {xs : Nat → Int32} {L : Nat}  (C : Nat → Nat → Nat → Int32) (s a v t ld ob : Nat → Int32) (E : Nat → Int64) (h15 : ob 15 = 43) (h16 : ob 16 = 0) (hp : s 16 = 0) : z_Mt xs L m_X5_does [aR 0 32] (C, dm s a v t ld ob, E) (.inl (some (aI 1))) (C, dm (bgF s 0) a v t ld ob, E) 0 := by
  refine z_Ev_blk 2 (c' := (4, [some (aR 0 32), none, none, none], [aI (ob 15)], (C, dm s a v t ld ob, E))) rfl trivial ?_
  rw [h15]
  refine z_Ev_blk 4 (c' := ((if (43 : Int32) = (43 : Int32) then 11 else 22), [some (aR 0 32), some (aI (43 : Int32)), none, none], [], (C, dm s a v t ld ob, E))) rfl trivial ?_
  refine z_Ev_if (by decide) ?_
  refine z_Ev_blk 3 (c' := (16, [some (aR 0 32), some (aI (43 : Int32)), none, none], [aI (ob 16), aR 0 32], (C, dm s a v t ld ob, E))) rfl trivial ?_
  rw [h16]
  refine z_Ev_call0 (m' := m_X5_startFault) (as := [aR 0 32, aI (0 : Int32)]) (r := []) ((by have q := m_startFault_0 (xs := xs) (L := L) C s a v t ld ob E; rw [if_pos hp] at q; exact q)) rfl rfl ?_
  refine z_Ev_blk 4 (c' := ((if (0 : Int32) = 0 then 83 else 163), [some (aR 0 32), some (aI (43 : Int32)), some (aI (0 : Int32)), none], [], (C, dm s a v t ld ob, E))) rfl trivial ?_
  refine z_Ev_if (by decide) ?_
  refine z_Ev_blk 3 (c' := ((if (43 : Int32) = (43 : Int32) then 89 else 100), [some (aR 0 32), some (aI (43 : Int32)), some (aI (0 : Int32)), none], [], (C, dm s a v t ld ob, E))) rfl trivial ?_
  refine z_Ev_if (by decide) ?_
  refine z_Ev_blk 3 (c' := (94, [some (aR 0 32), some (aI (43 : Int32)), some (aI (0 : Int32)), none], [aI (ob 16), aR 0 32], (C, dm s a v t ld ob, E))) rfl trivial ?_
  rw [h16]
  refine z_Ev_call0 (m' := m_X5_starts) (as := [aR 0 32, aI (0 : Int32)]) (r := []) (m_starts_0 C s a v t ld ob E) rfl rfl ?_
  refine z_Ev_blk 4 (c' := ((if (0 : Int32) = 0 then 167 else 171), [some (aR 0 32), some (aI (43 : Int32)), some (aI (0 : Int32)), some (aI (s 12))], [], (C, dm (bgF s 0) a v t ld ob, E))) rfl trivial ?_
  refine z_Ev_if (by decide) ?_
  refine z_Ev_blk 2 (c' := (172, [some (aR 0 32), some (aI (43 : Int32)), some (aI (0 : Int32)), some (aI (s 12))], [aI (1 : Int32)], (C, dm (bgF s 0) a v t ld ob, E))) rfl trivial ?_
  exact z_Ev_zretE rfl rfl (rfl) (by rfl) (by rfl)
theorem do_45_0_1 {xs : Nat → Int32} {L : Nat}  (C : Nat → Nat → Nat → Int32) (s a v t ld ob : Nat → Int32) (E : Nat → Int64) (h15 : ob 15 = 45) (h16 : ob 16 = 0) (hp : (s 16 = 1 ∨ s 16 = 2)) : z_Mt xs L m_X5_does [aR 0 32] (C, dm s a v t ld ob, E) (.inl (some (aI 1))) (C, dm (stF s 0) a v t ld ob, E) 0 := by
  refine z_Ev_blk 2 (c' := (4, [some (aR 0 32), none, none, none], [aI (ob 15)], (C, dm s a v t ld ob, E))) rfl trivial ?_
  rw [h15]
  refine z_Ev_blk 4 (c' := ((if (45 : Int32) = (43 : Int32) then 11 else 22), [some (aR 0 32), some (aI (45 : Int32)), none, none], [], (C, dm s a v t ld ob, E))) rfl trivial ?_
  refine z_Ev_else (by decide) ?_
  refine z_Ev_blk 3 (c' := ((if (45 : Int32) = (45 : Int32) then 28 else 39), [some (aR 0 32), some (aI (45 : Int32)), none, none], [], (C, dm s a v t ld ob, E))) rfl trivial ?_
  refine z_Ev_if (by decide) ?_
  refine z_Ev_blk 3 (c' := (33, [some (aR 0 32), some (aI (45 : Int32)), none, none], [aI (ob 16), aR 0 32], (C, dm s a v t ld ob, E))) rfl trivial ?_
  rw [h16]
  refine z_Ev_call0 (m' := m_X5_stopFault) (as := [aR 0 32, aI (0 : Int32)]) (r := []) ((by have q := m_stopFault_0 (xs := xs) (L := L) C s a v t ld ob E; rw [if_pos (st12.mpr hp)] at q; exact q)) rfl rfl ?_
  refine z_Ev_blk 4 (c' := ((if (0 : Int32) = 0 then 83 else 163), [some (aR 0 32), some (aI (45 : Int32)), some (aI (0 : Int32)), none], [], (C, dm s a v t ld ob, E))) rfl trivial ?_
  refine z_Ev_if (by decide) ?_
  refine z_Ev_blk 3 (c' := ((if (45 : Int32) = (43 : Int32) then 89 else 100), [some (aR 0 32), some (aI (45 : Int32)), some (aI (0 : Int32)), none], [], (C, dm s a v t ld ob, E))) rfl trivial ?_
  refine z_Ev_else (by decide) ?_
  refine z_Ev_blk 3 (c' := ((if (45 : Int32) = (45 : Int32) then 106 else 117), [some (aR 0 32), some (aI (45 : Int32)), some (aI (0 : Int32)), none], [], (C, dm s a v t ld ob, E))) rfl trivial ?_
  refine z_Ev_if (by decide) ?_
  refine z_Ev_blk 3 (c' := (111, [some (aR 0 32), some (aI (45 : Int32)), some (aI (0 : Int32)), none], [aI (ob 16), aR 0 32], (C, dm s a v t ld ob, E))) rfl trivial ?_
  rw [h16]
  refine z_Ev_call0 (m' := m_X5_stops) (as := [aR 0 32, aI (0 : Int32)]) (r := []) (m_stops_0 C s a v t ld ob E) rfl rfl ?_
  refine z_Ev_blk 4 (c' := ((if (0 : Int32) = 0 then 167 else 171), [some (aR 0 32), some (aI (45 : Int32)), some (aI (0 : Int32)), some (aI (manF (mkF (fun j => (stF s 0) (16 + j)) 2)))], [], (C, dm (stF s 0) a v t ld ob, E))) rfl trivial ?_
  refine z_Ev_if (by decide) ?_
  refine z_Ev_blk 2 (c' := (172, [some (aR 0 32), some (aI (45 : Int32)), some (aI (0 : Int32)), some (aI (manF (mkF (fun j => (stF s 0) (16 + j)) 2)))], [aI (1 : Int32)], (C, dm (stF s 0) a v t ld ob, E))) rfl trivial ?_
  exact z_Ev_zretE rfl rfl (rfl) (by rfl) (by rfl)
theorem do_43_0_0 {xs : Nat → Int32} {L : Nat}  (C : Nat → Nat → Nat → Int32) (s a v t ld ob : Nat → Int32) (E : Nat → Int64) (h15 : ob 15 = 43) (h16 : ob 16 = 0) (hp : ¬ s 16 = 0) : z_Mt xs L m_X5_does [aR 0 32] (C, dm s a v t ld ob, E) (.inl (some (aI 0))) (C, dm s a v t ld ob, E) 0 := by
  refine z_Ev_blk 2 (c' := (4, [some (aR 0 32), none, none, none], [aI (ob 15)], (C, dm s a v t ld ob, E))) rfl trivial ?_
  rw [h15]
  refine z_Ev_blk 4 (c' := ((if (43 : Int32) = (43 : Int32) then 11 else 22), [some (aR 0 32), some (aI (43 : Int32)), none, none], [], (C, dm s a v t ld ob, E))) rfl trivial ?_
  refine z_Ev_if (by decide) ?_
  refine z_Ev_blk 3 (c' := (16, [some (aR 0 32), some (aI (43 : Int32)), none, none], [aI (ob 16), aR 0 32], (C, dm s a v t ld ob, E))) rfl trivial ?_
  rw [h16]
  refine z_Ev_call0 (m' := m_X5_startFault) (as := [aR 0 32, aI (0 : Int32)]) (r := []) ((by have q := m_startFault_0 (xs := xs) (L := L) C s a v t ld ob E; rw [if_neg hp] at q; exact q)) rfl rfl ?_
  refine z_Ev_blk 4 (c' := ((if (2 : Int32) = 0 then 83 else 163), [some (aR 0 32), some (aI (43 : Int32)), some (aI (2 : Int32)), none], [], (C, dm s a v t ld ob, E))) rfl trivial ?_
  refine z_Ev_else (by decide) ?_
  refine z_Ev_blk 2 (c' := ((if (2 : Int32) = 0 then 167 else 171), [some (aR 0 32), some (aI (43 : Int32)), some (aI (2 : Int32)), none], [], (C, dm s a v t ld ob, E))) rfl trivial ?_
  refine z_Ev_else (by decide) ?_
  refine z_Ev_blk 1 (c' := (172, [some (aR 0 32), some (aI (43 : Int32)), some (aI (2 : Int32)), none], [aI (0 : Int32)], (C, dm s a v t ld ob, E))) rfl trivial ?_
  exact z_Ev_zretE rfl rfl (rfl) (by rfl) (by rfl)
theorem do_45_0_0 {xs : Nat → Int32} {L : Nat}  (C : Nat → Nat → Nat → Int32) (s a v t ld ob : Nat → Int32) (E : Nat → Int64) (h15 : ob 15 = 45) (h16 : ob 16 = 0) (hp : ¬ (s 16 = 1 ∨ s 16 = 2)) : z_Mt xs L m_X5_does [aR 0 32] (C, dm s a v t ld ob, E) (.inl (some (aI 0))) (C, dm s a v t ld ob, E) 0 := by
  refine z_Ev_blk 2 (c' := (4, [some (aR 0 32), none, none, none], [aI (ob 15)], (C, dm s a v t ld ob, E))) rfl trivial ?_
  rw [h15]
  refine z_Ev_blk 4 (c' := ((if (45 : Int32) = (43 : Int32) then 11 else 22), [some (aR 0 32), some (aI (45 : Int32)), none, none], [], (C, dm s a v t ld ob, E))) rfl trivial ?_
  refine z_Ev_else (by decide) ?_
  refine z_Ev_blk 3 (c' := ((if (45 : Int32) = (45 : Int32) then 28 else 39), [some (aR 0 32), some (aI (45 : Int32)), none, none], [], (C, dm s a v t ld ob, E))) rfl trivial ?_
  refine z_Ev_if (by decide) ?_
  refine z_Ev_blk 3 (c' := (33, [some (aR 0 32), some (aI (45 : Int32)), none, none], [aI (ob 16), aR 0 32], (C, dm s a v t ld ob, E))) rfl trivial ?_
  rw [h16]
  refine z_Ev_call0 (m' := m_X5_stopFault) (as := [aR 0 32, aI (0 : Int32)]) (r := []) ((by have q := m_stopFault_0 (xs := xs) (L := L) C s a v t ld ob E; rw [if_neg (fun z => hp (st12.mp z))] at q; exact q)) rfl rfl ?_
  refine z_Ev_blk 4 (c' := ((if (2 : Int32) = 0 then 83 else 163), [some (aR 0 32), some (aI (45 : Int32)), some (aI (2 : Int32)), none], [], (C, dm s a v t ld ob, E))) rfl trivial ?_
  refine z_Ev_else (by decide) ?_
  refine z_Ev_blk 2 (c' := ((if (2 : Int32) = 0 then 167 else 171), [some (aR 0 32), some (aI (45 : Int32)), some (aI (2 : Int32)), none], [], (C, dm s a v t ld ob, E))) rfl trivial ?_
  refine z_Ev_else (by decide) ?_
  refine z_Ev_blk 1 (c' := (172, [some (aR 0 32), some (aI (45 : Int32)), some (aI (2 : Int32)), none], [aI (0 : Int32)], (C, dm s a v t ld ob, E))) rfl trivial ?_
  exact z_Ev_zretE rfl rfl (rfl) (by rfl) (by rfl)
theorem do_43_1_1 {xs : Nat → Int32} {L : Nat}  (C : Nat → Nat → Nat → Int32) (s a v t ld ob : Nat → Int32) (E : Nat → Int64) (h15 : ob 15 = 43) (h16 : ob 16 = 1) (hp : s 17 = 0) : z_Mt xs L m_X5_does [aR 0 32] (C, dm s a v t ld ob, E) (.inl (some (aI 1))) (C, dm (bgF s 1) a v t ld ob, E) 0 := by
  refine z_Ev_blk 2 (c' := (4, [some (aR 0 32), none, none, none], [aI (ob 15)], (C, dm s a v t ld ob, E))) rfl trivial ?_
  rw [h15]
  refine z_Ev_blk 4 (c' := ((if (43 : Int32) = (43 : Int32) then 11 else 22), [some (aR 0 32), some (aI (43 : Int32)), none, none], [], (C, dm s a v t ld ob, E))) rfl trivial ?_
  refine z_Ev_if (by decide) ?_
  refine z_Ev_blk 3 (c' := (16, [some (aR 0 32), some (aI (43 : Int32)), none, none], [aI (ob 16), aR 0 32], (C, dm s a v t ld ob, E))) rfl trivial ?_
  rw [h16]
  refine z_Ev_call0 (m' := m_X5_startFault) (as := [aR 0 32, aI (1 : Int32)]) (r := []) ((by have q := m_startFault_1 (xs := xs) (L := L) C s a v t ld ob E; rw [if_pos hp] at q; exact q)) rfl rfl ?_
  refine z_Ev_blk 4 (c' := ((if (0 : Int32) = 0 then 83 else 163), [some (aR 0 32), some (aI (43 : Int32)), some (aI (0 : Int32)), none], [], (C, dm s a v t ld ob, E))) rfl trivial ?_
  refine z_Ev_if (by decide) ?_
  refine z_Ev_blk 3 (c' := ((if (43 : Int32) = (43 : Int32) then 89 else 100), [some (aR 0 32), some (aI (43 : Int32)), some (aI (0 : Int32)), none], [], (C, dm s a v t ld ob, E))) rfl trivial ?_
  refine z_Ev_if (by decide) ?_
  refine z_Ev_blk 3 (c' := (94, [some (aR 0 32), some (aI (43 : Int32)), some (aI (0 : Int32)), none], [aI (ob 16), aR 0 32], (C, dm s a v t ld ob, E))) rfl trivial ?_
  rw [h16]
  refine z_Ev_call0 (m' := m_X5_starts) (as := [aR 0 32, aI (1 : Int32)]) (r := []) (m_starts_1 C s a v t ld ob E) rfl rfl ?_
  refine z_Ev_blk 4 (c' := ((if (0 : Int32) = 0 then 167 else 171), [some (aR 0 32), some (aI (43 : Int32)), some (aI (0 : Int32)), some (aI (s 13))], [], (C, dm (bgF s 1) a v t ld ob, E))) rfl trivial ?_
  refine z_Ev_if (by decide) ?_
  refine z_Ev_blk 2 (c' := (172, [some (aR 0 32), some (aI (43 : Int32)), some (aI (0 : Int32)), some (aI (s 13))], [aI (1 : Int32)], (C, dm (bgF s 1) a v t ld ob, E))) rfl trivial ?_
  exact z_Ev_zretE rfl rfl (rfl) (by rfl) (by rfl)
theorem do_45_1_1 {xs : Nat → Int32} {L : Nat}  (C : Nat → Nat → Nat → Int32) (s a v t ld ob : Nat → Int32) (E : Nat → Int64) (h15 : ob 15 = 45) (h16 : ob 16 = 1) (hp : (s 17 = 1 ∨ s 17 = 2)) : z_Mt xs L m_X5_does [aR 0 32] (C, dm s a v t ld ob, E) (.inl (some (aI 1))) (C, dm (stF s 1) a v t ld ob, E) 0 := by
  refine z_Ev_blk 2 (c' := (4, [some (aR 0 32), none, none, none], [aI (ob 15)], (C, dm s a v t ld ob, E))) rfl trivial ?_
  rw [h15]
  refine z_Ev_blk 4 (c' := ((if (45 : Int32) = (43 : Int32) then 11 else 22), [some (aR 0 32), some (aI (45 : Int32)), none, none], [], (C, dm s a v t ld ob, E))) rfl trivial ?_
  refine z_Ev_else (by decide) ?_
  refine z_Ev_blk 3 (c' := ((if (45 : Int32) = (45 : Int32) then 28 else 39), [some (aR 0 32), some (aI (45 : Int32)), none, none], [], (C, dm s a v t ld ob, E))) rfl trivial ?_
  refine z_Ev_if (by decide) ?_
  refine z_Ev_blk 3 (c' := (33, [some (aR 0 32), some (aI (45 : Int32)), none, none], [aI (ob 16), aR 0 32], (C, dm s a v t ld ob, E))) rfl trivial ?_
  rw [h16]
  refine z_Ev_call0 (m' := m_X5_stopFault) (as := [aR 0 32, aI (1 : Int32)]) (r := []) ((by have q := m_stopFault_1 (xs := xs) (L := L) C s a v t ld ob E; rw [if_pos (st12.mpr hp)] at q; exact q)) rfl rfl ?_
  refine z_Ev_blk 4 (c' := ((if (0 : Int32) = 0 then 83 else 163), [some (aR 0 32), some (aI (45 : Int32)), some (aI (0 : Int32)), none], [], (C, dm s a v t ld ob, E))) rfl trivial ?_
  refine z_Ev_if (by decide) ?_
  refine z_Ev_blk 3 (c' := ((if (45 : Int32) = (43 : Int32) then 89 else 100), [some (aR 0 32), some (aI (45 : Int32)), some (aI (0 : Int32)), none], [], (C, dm s a v t ld ob, E))) rfl trivial ?_
  refine z_Ev_else (by decide) ?_
  refine z_Ev_blk 3 (c' := ((if (45 : Int32) = (45 : Int32) then 106 else 117), [some (aR 0 32), some (aI (45 : Int32)), some (aI (0 : Int32)), none], [], (C, dm s a v t ld ob, E))) rfl trivial ?_
  refine z_Ev_if (by decide) ?_
  refine z_Ev_blk 3 (c' := (111, [some (aR 0 32), some (aI (45 : Int32)), some (aI (0 : Int32)), none], [aI (ob 16), aR 0 32], (C, dm s a v t ld ob, E))) rfl trivial ?_
  rw [h16]
  refine z_Ev_call0 (m' := m_X5_stops) (as := [aR 0 32, aI (1 : Int32)]) (r := []) (m_stops_1 C s a v t ld ob E) rfl rfl ?_
  refine z_Ev_blk 4 (c' := ((if (0 : Int32) = 0 then 167 else 171), [some (aR 0 32), some (aI (45 : Int32)), some (aI (0 : Int32)), some (aI (manF (mkF (fun j => (stF s 1) (16 + j)) 2)))], [], (C, dm (stF s 1) a v t ld ob, E))) rfl trivial ?_
  refine z_Ev_if (by decide) ?_
  refine z_Ev_blk 2 (c' := (172, [some (aR 0 32), some (aI (45 : Int32)), some (aI (0 : Int32)), some (aI (manF (mkF (fun j => (stF s 1) (16 + j)) 2)))], [aI (1 : Int32)], (C, dm (stF s 1) a v t ld ob, E))) rfl trivial ?_
  exact z_Ev_zretE rfl rfl (rfl) (by rfl) (by rfl)
theorem do_43_1_0 {xs : Nat → Int32} {L : Nat}  (C : Nat → Nat → Nat → Int32) (s a v t ld ob : Nat → Int32) (E : Nat → Int64) (h15 : ob 15 = 43) (h16 : ob 16 = 1) (hp : ¬ s 17 = 0) : z_Mt xs L m_X5_does [aR 0 32] (C, dm s a v t ld ob, E) (.inl (some (aI 0))) (C, dm s a v t ld ob, E) 0 := by
  refine z_Ev_blk 2 (c' := (4, [some (aR 0 32), none, none, none], [aI (ob 15)], (C, dm s a v t ld ob, E))) rfl trivial ?_
  rw [h15]
  refine z_Ev_blk 4 (c' := ((if (43 : Int32) = (43 : Int32) then 11 else 22), [some (aR 0 32), some (aI (43 : Int32)), none, none], [], (C, dm s a v t ld ob, E))) rfl trivial ?_
  refine z_Ev_if (by decide) ?_
  refine z_Ev_blk 3 (c' := (16, [some (aR 0 32), some (aI (43 : Int32)), none, none], [aI (ob 16), aR 0 32], (C, dm s a v t ld ob, E))) rfl trivial ?_
  rw [h16]
  refine z_Ev_call0 (m' := m_X5_startFault) (as := [aR 0 32, aI (1 : Int32)]) (r := []) ((by have q := m_startFault_1 (xs := xs) (L := L) C s a v t ld ob E; rw [if_neg hp] at q; exact q)) rfl rfl ?_
  refine z_Ev_blk 4 (c' := ((if (2 : Int32) = 0 then 83 else 163), [some (aR 0 32), some (aI (43 : Int32)), some (aI (2 : Int32)), none], [], (C, dm s a v t ld ob, E))) rfl trivial ?_
  refine z_Ev_else (by decide) ?_
  refine z_Ev_blk 2 (c' := ((if (2 : Int32) = 0 then 167 else 171), [some (aR 0 32), some (aI (43 : Int32)), some (aI (2 : Int32)), none], [], (C, dm s a v t ld ob, E))) rfl trivial ?_
  refine z_Ev_else (by decide) ?_
  refine z_Ev_blk 1 (c' := (172, [some (aR 0 32), some (aI (43 : Int32)), some (aI (2 : Int32)), none], [aI (0 : Int32)], (C, dm s a v t ld ob, E))) rfl trivial ?_
  exact z_Ev_zretE rfl rfl (rfl) (by rfl) (by rfl)
theorem do_45_1_0 {xs : Nat → Int32} {L : Nat}  (C : Nat → Nat → Nat → Int32) (s a v t ld ob : Nat → Int32) (E : Nat → Int64) (h15 : ob 15 = 45) (h16 : ob 16 = 1) (hp : ¬ (s 17 = 1 ∨ s 17 = 2)) : z_Mt xs L m_X5_does [aR 0 32] (C, dm s a v t ld ob, E) (.inl (some (aI 0))) (C, dm s a v t ld ob, E) 0 := by
  refine z_Ev_blk 2 (c' := (4, [some (aR 0 32), none, none, none], [aI (ob 15)], (C, dm s a v t ld ob, E))) rfl trivial ?_
  rw [h15]
  refine z_Ev_blk 4 (c' := ((if (45 : Int32) = (43 : Int32) then 11 else 22), [some (aR 0 32), some (aI (45 : Int32)), none, none], [], (C, dm s a v t ld ob, E))) rfl trivial ?_
  refine z_Ev_else (by decide) ?_
  refine z_Ev_blk 3 (c' := ((if (45 : Int32) = (45 : Int32) then 28 else 39), [some (aR 0 32), some (aI (45 : Int32)), none, none], [], (C, dm s a v t ld ob, E))) rfl trivial ?_
  refine z_Ev_if (by decide) ?_
  refine z_Ev_blk 3 (c' := (33, [some (aR 0 32), some (aI (45 : Int32)), none, none], [aI (ob 16), aR 0 32], (C, dm s a v t ld ob, E))) rfl trivial ?_
  rw [h16]
  refine z_Ev_call0 (m' := m_X5_stopFault) (as := [aR 0 32, aI (1 : Int32)]) (r := []) ((by have q := m_stopFault_1 (xs := xs) (L := L) C s a v t ld ob E; rw [if_neg (fun z => hp (st12.mp z))] at q; exact q)) rfl rfl ?_
  refine z_Ev_blk 4 (c' := ((if (2 : Int32) = 0 then 83 else 163), [some (aR 0 32), some (aI (45 : Int32)), some (aI (2 : Int32)), none], [], (C, dm s a v t ld ob, E))) rfl trivial ?_
  refine z_Ev_else (by decide) ?_
  refine z_Ev_blk 2 (c' := ((if (2 : Int32) = 0 then 167 else 171), [some (aR 0 32), some (aI (45 : Int32)), some (aI (2 : Int32)), none], [], (C, dm s a v t ld ob, E))) rfl trivial ?_
  refine z_Ev_else (by decide) ?_
  refine z_Ev_blk 1 (c' := (172, [some (aR 0 32), some (aI (45 : Int32)), some (aI (2 : Int32)), none], [aI (0 : Int32)], (C, dm s a v t ld ob, E))) rfl trivial ?_
  exact z_Ev_zretE rfl rfl (rfl) (by rfl) (by rfl)
theorem do_43_2_1 {xs : Nat → Int32} {L : Nat}  (C : Nat → Nat → Nat → Int32) (s a v t ld ob : Nat → Int32) (E : Nat → Int64) (h15 : ob 15 = 43) (h16 : ob 16 = 2) (hp : s 18 = 0) : z_Mt xs L m_X5_does [aR 0 32] (C, dm s a v t ld ob, E) (.inl (some (aI 1))) (C, dm (bgF s 2) a v t ld ob, E) 0 := by
  refine z_Ev_blk 2 (c' := (4, [some (aR 0 32), none, none, none], [aI (ob 15)], (C, dm s a v t ld ob, E))) rfl trivial ?_
  rw [h15]
  refine z_Ev_blk 4 (c' := ((if (43 : Int32) = (43 : Int32) then 11 else 22), [some (aR 0 32), some (aI (43 : Int32)), none, none], [], (C, dm s a v t ld ob, E))) rfl trivial ?_
  refine z_Ev_if (by decide) ?_
  refine z_Ev_blk 3 (c' := (16, [some (aR 0 32), some (aI (43 : Int32)), none, none], [aI (ob 16), aR 0 32], (C, dm s a v t ld ob, E))) rfl trivial ?_
  rw [h16]
  refine z_Ev_call0 (m' := m_X5_startFault) (as := [aR 0 32, aI (2 : Int32)]) (r := []) ((by have q := m_startFault_2 (xs := xs) (L := L) C s a v t ld ob E; rw [if_pos hp] at q; exact q)) rfl rfl ?_
  refine z_Ev_blk 4 (c' := ((if (0 : Int32) = 0 then 83 else 163), [some (aR 0 32), some (aI (43 : Int32)), some (aI (0 : Int32)), none], [], (C, dm s a v t ld ob, E))) rfl trivial ?_
  refine z_Ev_if (by decide) ?_
  refine z_Ev_blk 3 (c' := ((if (43 : Int32) = (43 : Int32) then 89 else 100), [some (aR 0 32), some (aI (43 : Int32)), some (aI (0 : Int32)), none], [], (C, dm s a v t ld ob, E))) rfl trivial ?_
  refine z_Ev_if (by decide) ?_
  refine z_Ev_blk 3 (c' := (94, [some (aR 0 32), some (aI (43 : Int32)), some (aI (0 : Int32)), none], [aI (ob 16), aR 0 32], (C, dm s a v t ld ob, E))) rfl trivial ?_
  rw [h16]
  refine z_Ev_call0 (m' := m_X5_starts) (as := [aR 0 32, aI (2 : Int32)]) (r := []) (m_starts_2 C s a v t ld ob E) rfl rfl ?_
  refine z_Ev_blk 4 (c' := ((if (0 : Int32) = 0 then 167 else 171), [some (aR 0 32), some (aI (43 : Int32)), some (aI (0 : Int32)), some (aI (s 14))], [], (C, dm (bgF s 2) a v t ld ob, E))) rfl trivial ?_
  refine z_Ev_if (by decide) ?_
  refine z_Ev_blk 2 (c' := (172, [some (aR 0 32), some (aI (43 : Int32)), some (aI (0 : Int32)), some (aI (s 14))], [aI (1 : Int32)], (C, dm (bgF s 2) a v t ld ob, E))) rfl trivial ?_
  exact z_Ev_zretE rfl rfl (rfl) (by rfl) (by rfl)
theorem do_45_2_1 {xs : Nat → Int32} {L : Nat}  (C : Nat → Nat → Nat → Int32) (s a v t ld ob : Nat → Int32) (E : Nat → Int64) (h15 : ob 15 = 45) (h16 : ob 16 = 2) (hp : (s 18 = 1 ∨ s 18 = 2)) : z_Mt xs L m_X5_does [aR 0 32] (C, dm s a v t ld ob, E) (.inl (some (aI 1))) (C, dm (stF s 2) a v t ld ob, E) 0 := by
  refine z_Ev_blk 2 (c' := (4, [some (aR 0 32), none, none, none], [aI (ob 15)], (C, dm s a v t ld ob, E))) rfl trivial ?_
  rw [h15]
  refine z_Ev_blk 4 (c' := ((if (45 : Int32) = (43 : Int32) then 11 else 22), [some (aR 0 32), some (aI (45 : Int32)), none, none], [], (C, dm s a v t ld ob, E))) rfl trivial ?_
  refine z_Ev_else (by decide) ?_
  refine z_Ev_blk 3 (c' := ((if (45 : Int32) = (45 : Int32) then 28 else 39), [some (aR 0 32), some (aI (45 : Int32)), none, none], [], (C, dm s a v t ld ob, E))) rfl trivial ?_
  refine z_Ev_if (by decide) ?_
  refine z_Ev_blk 3 (c' := (33, [some (aR 0 32), some (aI (45 : Int32)), none, none], [aI (ob 16), aR 0 32], (C, dm s a v t ld ob, E))) rfl trivial ?_
  rw [h16]
  refine z_Ev_call0 (m' := m_X5_stopFault) (as := [aR 0 32, aI (2 : Int32)]) (r := []) ((by have q := m_stopFault_2 (xs := xs) (L := L) C s a v t ld ob E; rw [if_pos (st12.mpr hp)] at q; exact q)) rfl rfl ?_
  refine z_Ev_blk 4 (c' := ((if (0 : Int32) = 0 then 83 else 163), [some (aR 0 32), some (aI (45 : Int32)), some (aI (0 : Int32)), none], [], (C, dm s a v t ld ob, E))) rfl trivial ?_
  refine z_Ev_if (by decide) ?_
  refine z_Ev_blk 3 (c' := ((if (45 : Int32) = (43 : Int32) then 89 else 100), [some (aR 0 32), some (aI (45 : Int32)), some (aI (0 : Int32)), none], [], (C, dm s a v t ld ob, E))) rfl trivial ?_
  refine z_Ev_else (by decide) ?_
  refine z_Ev_blk 3 (c' := ((if (45 : Int32) = (45 : Int32) then 106 else 117), [some (aR 0 32), some (aI (45 : Int32)), some (aI (0 : Int32)), none], [], (C, dm s a v t ld ob, E))) rfl trivial ?_
  refine z_Ev_if (by decide) ?_
  refine z_Ev_blk 3 (c' := (111, [some (aR 0 32), some (aI (45 : Int32)), some (aI (0 : Int32)), none], [aI (ob 16), aR 0 32], (C, dm s a v t ld ob, E))) rfl trivial ?_
  rw [h16]
  refine z_Ev_call0 (m' := m_X5_stops) (as := [aR 0 32, aI (2 : Int32)]) (r := []) (m_stops_2 C s a v t ld ob E) rfl rfl ?_
  refine z_Ev_blk 4 (c' := ((if (0 : Int32) = 0 then 167 else 171), [some (aR 0 32), some (aI (45 : Int32)), some (aI (0 : Int32)), some (aI (manF (mkF (fun j => (stF s 2) (16 + j)) 2)))], [], (C, dm (stF s 2) a v t ld ob, E))) rfl trivial ?_
  refine z_Ev_if (by decide) ?_
  refine z_Ev_blk 2 (c' := (172, [some (aR 0 32), some (aI (45 : Int32)), some (aI (0 : Int32)), some (aI (manF (mkF (fun j => (stF s 2) (16 + j)) 2)))], [aI (1 : Int32)], (C, dm (stF s 2) a v t ld ob, E))) rfl trivial ?_
  exact z_Ev_zretE rfl rfl (rfl) (by rfl) (by rfl)
theorem do_43_2_0 {xs : Nat → Int32} {L : Nat}  (C : Nat → Nat → Nat → Int32) (s a v t ld ob : Nat → Int32) (E : Nat → Int64) (h15 : ob 15 = 43) (h16 : ob 16 = 2) (hp : ¬ s 18 = 0) : z_Mt xs L m_X5_does [aR 0 32] (C, dm s a v t ld ob, E) (.inl (some (aI 0))) (C, dm s a v t ld ob, E) 0 := by
  refine z_Ev_blk 2 (c' := (4, [some (aR 0 32), none, none, none], [aI (ob 15)], (C, dm s a v t ld ob, E))) rfl trivial ?_
  rw [h15]
  refine z_Ev_blk 4 (c' := ((if (43 : Int32) = (43 : Int32) then 11 else 22), [some (aR 0 32), some (aI (43 : Int32)), none, none], [], (C, dm s a v t ld ob, E))) rfl trivial ?_
  refine z_Ev_if (by decide) ?_
  refine z_Ev_blk 3 (c' := (16, [some (aR 0 32), some (aI (43 : Int32)), none, none], [aI (ob 16), aR 0 32], (C, dm s a v t ld ob, E))) rfl trivial ?_
  rw [h16]
  refine z_Ev_call0 (m' := m_X5_startFault) (as := [aR 0 32, aI (2 : Int32)]) (r := []) ((by have q := m_startFault_2 (xs := xs) (L := L) C s a v t ld ob E; rw [if_neg hp] at q; exact q)) rfl rfl ?_
  refine z_Ev_blk 4 (c' := ((if (2 : Int32) = 0 then 83 else 163), [some (aR 0 32), some (aI (43 : Int32)), some (aI (2 : Int32)), none], [], (C, dm s a v t ld ob, E))) rfl trivial ?_
  refine z_Ev_else (by decide) ?_
  refine z_Ev_blk 2 (c' := ((if (2 : Int32) = 0 then 167 else 171), [some (aR 0 32), some (aI (43 : Int32)), some (aI (2 : Int32)), none], [], (C, dm s a v t ld ob, E))) rfl trivial ?_
  refine z_Ev_else (by decide) ?_
  refine z_Ev_blk 1 (c' := (172, [some (aR 0 32), some (aI (43 : Int32)), some (aI (2 : Int32)), none], [aI (0 : Int32)], (C, dm s a v t ld ob, E))) rfl trivial ?_
  exact z_Ev_zretE rfl rfl (rfl) (by rfl) (by rfl)
theorem do_45_2_0 {xs : Nat → Int32} {L : Nat}  (C : Nat → Nat → Nat → Int32) (s a v t ld ob : Nat → Int32) (E : Nat → Int64) (h15 : ob 15 = 45) (h16 : ob 16 = 2) (hp : ¬ (s 18 = 1 ∨ s 18 = 2)) : z_Mt xs L m_X5_does [aR 0 32] (C, dm s a v t ld ob, E) (.inl (some (aI 0))) (C, dm s a v t ld ob, E) 0 := by
  refine z_Ev_blk 2 (c' := (4, [some (aR 0 32), none, none, none], [aI (ob 15)], (C, dm s a v t ld ob, E))) rfl trivial ?_
  rw [h15]
  refine z_Ev_blk 4 (c' := ((if (45 : Int32) = (43 : Int32) then 11 else 22), [some (aR 0 32), some (aI (45 : Int32)), none, none], [], (C, dm s a v t ld ob, E))) rfl trivial ?_
  refine z_Ev_else (by decide) ?_
  refine z_Ev_blk 3 (c' := ((if (45 : Int32) = (45 : Int32) then 28 else 39), [some (aR 0 32), some (aI (45 : Int32)), none, none], [], (C, dm s a v t ld ob, E))) rfl trivial ?_
  refine z_Ev_if (by decide) ?_
  refine z_Ev_blk 3 (c' := (33, [some (aR 0 32), some (aI (45 : Int32)), none, none], [aI (ob 16), aR 0 32], (C, dm s a v t ld ob, E))) rfl trivial ?_
  rw [h16]
  refine z_Ev_call0 (m' := m_X5_stopFault) (as := [aR 0 32, aI (2 : Int32)]) (r := []) ((by have q := m_stopFault_2 (xs := xs) (L := L) C s a v t ld ob E; rw [if_neg (fun z => hp (st12.mp z))] at q; exact q)) rfl rfl ?_
  refine z_Ev_blk 4 (c' := ((if (2 : Int32) = 0 then 83 else 163), [some (aR 0 32), some (aI (45 : Int32)), some (aI (2 : Int32)), none], [], (C, dm s a v t ld ob, E))) rfl trivial ?_
  refine z_Ev_else (by decide) ?_
  refine z_Ev_blk 2 (c' := ((if (2 : Int32) = 0 then 167 else 171), [some (aR 0 32), some (aI (45 : Int32)), some (aI (2 : Int32)), none], [], (C, dm s a v t ld ob, E))) rfl trivial ?_
  refine z_Ev_else (by decide) ?_
  refine z_Ev_blk 1 (c' := (172, [some (aR 0 32), some (aI (45 : Int32)), some (aI (2 : Int32)), none], [aI (0 : Int32)], (C, dm s a v t ld ob, E))) rfl trivial ?_
  exact z_Ev_zretE rfl rfl (rfl) (by rfl) (by rfl)
theorem do_43_3_1 {xs : Nat → Int32} {L : Nat}  (C : Nat → Nat → Nat → Int32) (s a v t ld ob : Nat → Int32) (E : Nat → Int64) (h15 : ob 15 = 43) (h16 : ob 16 = 3) (hp : s 19 = 0) : z_Mt xs L m_X5_does [aR 0 32] (C, dm s a v t ld ob, E) (.inl (some (aI 1))) (C, dm (bgF s 3) a v t ld ob, E) 0 := by
  refine z_Ev_blk 2 (c' := (4, [some (aR 0 32), none, none, none], [aI (ob 15)], (C, dm s a v t ld ob, E))) rfl trivial ?_
  rw [h15]
  refine z_Ev_blk 4 (c' := ((if (43 : Int32) = (43 : Int32) then 11 else 22), [some (aR 0 32), some (aI (43 : Int32)), none, none], [], (C, dm s a v t ld ob, E))) rfl trivial ?_
  refine z_Ev_if (by decide) ?_
  refine z_Ev_blk 3 (c' := (16, [some (aR 0 32), some (aI (43 : Int32)), none, none], [aI (ob 16), aR 0 32], (C, dm s a v t ld ob, E))) rfl trivial ?_
  rw [h16]
  refine z_Ev_call0 (m' := m_X5_startFault) (as := [aR 0 32, aI (3 : Int32)]) (r := []) ((by have q := m_startFault_3 (xs := xs) (L := L) C s a v t ld ob E; rw [if_pos hp] at q; exact q)) rfl rfl ?_
  refine z_Ev_blk 4 (c' := ((if (0 : Int32) = 0 then 83 else 163), [some (aR 0 32), some (aI (43 : Int32)), some (aI (0 : Int32)), none], [], (C, dm s a v t ld ob, E))) rfl trivial ?_
  refine z_Ev_if (by decide) ?_
  refine z_Ev_blk 3 (c' := ((if (43 : Int32) = (43 : Int32) then 89 else 100), [some (aR 0 32), some (aI (43 : Int32)), some (aI (0 : Int32)), none], [], (C, dm s a v t ld ob, E))) rfl trivial ?_
  refine z_Ev_if (by decide) ?_
  refine z_Ev_blk 3 (c' := (94, [some (aR 0 32), some (aI (43 : Int32)), some (aI (0 : Int32)), none], [aI (ob 16), aR 0 32], (C, dm s a v t ld ob, E))) rfl trivial ?_
  rw [h16]
  refine z_Ev_call0 (m' := m_X5_starts) (as := [aR 0 32, aI (3 : Int32)]) (r := []) (m_starts_3 C s a v t ld ob E) rfl rfl ?_
  refine z_Ev_blk 4 (c' := ((if (0 : Int32) = 0 then 167 else 171), [some (aR 0 32), some (aI (43 : Int32)), some (aI (0 : Int32)), some (aI (s 15))], [], (C, dm (bgF s 3) a v t ld ob, E))) rfl trivial ?_
  refine z_Ev_if (by decide) ?_
  refine z_Ev_blk 2 (c' := (172, [some (aR 0 32), some (aI (43 : Int32)), some (aI (0 : Int32)), some (aI (s 15))], [aI (1 : Int32)], (C, dm (bgF s 3) a v t ld ob, E))) rfl trivial ?_
  exact z_Ev_zretE rfl rfl (rfl) (by rfl) (by rfl)
theorem do_45_3_1 {xs : Nat → Int32} {L : Nat}  (C : Nat → Nat → Nat → Int32) (s a v t ld ob : Nat → Int32) (E : Nat → Int64) (h15 : ob 15 = 45) (h16 : ob 16 = 3) (hp : (s 19 = 1 ∨ s 19 = 2)) : z_Mt xs L m_X5_does [aR 0 32] (C, dm s a v t ld ob, E) (.inl (some (aI 1))) (C, dm (stF s 3) a v t ld ob, E) 0 := by
  refine z_Ev_blk 2 (c' := (4, [some (aR 0 32), none, none, none], [aI (ob 15)], (C, dm s a v t ld ob, E))) rfl trivial ?_
  rw [h15]
  refine z_Ev_blk 4 (c' := ((if (45 : Int32) = (43 : Int32) then 11 else 22), [some (aR 0 32), some (aI (45 : Int32)), none, none], [], (C, dm s a v t ld ob, E))) rfl trivial ?_
  refine z_Ev_else (by decide) ?_
  refine z_Ev_blk 3 (c' := ((if (45 : Int32) = (45 : Int32) then 28 else 39), [some (aR 0 32), some (aI (45 : Int32)), none, none], [], (C, dm s a v t ld ob, E))) rfl trivial ?_
  refine z_Ev_if (by decide) ?_
  refine z_Ev_blk 3 (c' := (33, [some (aR 0 32), some (aI (45 : Int32)), none, none], [aI (ob 16), aR 0 32], (C, dm s a v t ld ob, E))) rfl trivial ?_
  rw [h16]
  refine z_Ev_call0 (m' := m_X5_stopFault) (as := [aR 0 32, aI (3 : Int32)]) (r := []) ((by have q := m_stopFault_3 (xs := xs) (L := L) C s a v t ld ob E; rw [if_pos (st12.mpr hp)] at q; exact q)) rfl rfl ?_
  refine z_Ev_blk 4 (c' := ((if (0 : Int32) = 0 then 83 else 163), [some (aR 0 32), some (aI (45 : Int32)), some (aI (0 : Int32)), none], [], (C, dm s a v t ld ob, E))) rfl trivial ?_
  refine z_Ev_if (by decide) ?_
  refine z_Ev_blk 3 (c' := ((if (45 : Int32) = (43 : Int32) then 89 else 100), [some (aR 0 32), some (aI (45 : Int32)), some (aI (0 : Int32)), none], [], (C, dm s a v t ld ob, E))) rfl trivial ?_
  refine z_Ev_else (by decide) ?_
  refine z_Ev_blk 3 (c' := ((if (45 : Int32) = (45 : Int32) then 106 else 117), [some (aR 0 32), some (aI (45 : Int32)), some (aI (0 : Int32)), none], [], (C, dm s a v t ld ob, E))) rfl trivial ?_
  refine z_Ev_if (by decide) ?_
  refine z_Ev_blk 3 (c' := (111, [some (aR 0 32), some (aI (45 : Int32)), some (aI (0 : Int32)), none], [aI (ob 16), aR 0 32], (C, dm s a v t ld ob, E))) rfl trivial ?_
  rw [h16]
  refine z_Ev_call0 (m' := m_X5_stops) (as := [aR 0 32, aI (3 : Int32)]) (r := []) (m_stops_3 C s a v t ld ob E) rfl rfl ?_
  refine z_Ev_blk 4 (c' := ((if (0 : Int32) = 0 then 167 else 171), [some (aR 0 32), some (aI (45 : Int32)), some (aI (0 : Int32)), some (aI (manF (mkF (fun j => (stF s 3) (16 + j)) 2)))], [], (C, dm (stF s 3) a v t ld ob, E))) rfl trivial ?_
  refine z_Ev_if (by decide) ?_
  refine z_Ev_blk 2 (c' := (172, [some (aR 0 32), some (aI (45 : Int32)), some (aI (0 : Int32)), some (aI (manF (mkF (fun j => (stF s 3) (16 + j)) 2)))], [aI (1 : Int32)], (C, dm (stF s 3) a v t ld ob, E))) rfl trivial ?_
  exact z_Ev_zretE rfl rfl (rfl) (by rfl) (by rfl)
theorem do_43_3_0 {xs : Nat → Int32} {L : Nat}  (C : Nat → Nat → Nat → Int32) (s a v t ld ob : Nat → Int32) (E : Nat → Int64) (h15 : ob 15 = 43) (h16 : ob 16 = 3) (hp : ¬ s 19 = 0) : z_Mt xs L m_X5_does [aR 0 32] (C, dm s a v t ld ob, E) (.inl (some (aI 0))) (C, dm s a v t ld ob, E) 0 := by
  refine z_Ev_blk 2 (c' := (4, [some (aR 0 32), none, none, none], [aI (ob 15)], (C, dm s a v t ld ob, E))) rfl trivial ?_
  rw [h15]
  refine z_Ev_blk 4 (c' := ((if (43 : Int32) = (43 : Int32) then 11 else 22), [some (aR 0 32), some (aI (43 : Int32)), none, none], [], (C, dm s a v t ld ob, E))) rfl trivial ?_
  refine z_Ev_if (by decide) ?_
  refine z_Ev_blk 3 (c' := (16, [some (aR 0 32), some (aI (43 : Int32)), none, none], [aI (ob 16), aR 0 32], (C, dm s a v t ld ob, E))) rfl trivial ?_
  rw [h16]
  refine z_Ev_call0 (m' := m_X5_startFault) (as := [aR 0 32, aI (3 : Int32)]) (r := []) ((by have q := m_startFault_3 (xs := xs) (L := L) C s a v t ld ob E; rw [if_neg hp] at q; exact q)) rfl rfl ?_
  refine z_Ev_blk 4 (c' := ((if (2 : Int32) = 0 then 83 else 163), [some (aR 0 32), some (aI (43 : Int32)), some (aI (2 : Int32)), none], [], (C, dm s a v t ld ob, E))) rfl trivial ?_
  refine z_Ev_else (by decide) ?_
  refine z_Ev_blk 2 (c' := ((if (2 : Int32) = 0 then 167 else 171), [some (aR 0 32), some (aI (43 : Int32)), some (aI (2 : Int32)), none], [], (C, dm s a v t ld ob, E))) rfl trivial ?_
  refine z_Ev_else (by decide) ?_
  refine z_Ev_blk 1 (c' := (172, [some (aR 0 32), some (aI (43 : Int32)), some (aI (2 : Int32)), none], [aI (0 : Int32)], (C, dm s a v t ld ob, E))) rfl trivial ?_
  exact z_Ev_zretE rfl rfl (rfl) (by rfl) (by rfl)
theorem do_45_3_0 {xs : Nat → Int32} {L : Nat}  (C : Nat → Nat → Nat → Int32) (s a v t ld ob : Nat → Int32) (E : Nat → Int64) (h15 : ob 15 = 45) (h16 : ob 16 = 3) (hp : ¬ (s 19 = 1 ∨ s 19 = 2)) : z_Mt xs L m_X5_does [aR 0 32] (C, dm s a v t ld ob, E) (.inl (some (aI 0))) (C, dm s a v t ld ob, E) 0 := by
  refine z_Ev_blk 2 (c' := (4, [some (aR 0 32), none, none, none], [aI (ob 15)], (C, dm s a v t ld ob, E))) rfl trivial ?_
  rw [h15]
  refine z_Ev_blk 4 (c' := ((if (45 : Int32) = (43 : Int32) then 11 else 22), [some (aR 0 32), some (aI (45 : Int32)), none, none], [], (C, dm s a v t ld ob, E))) rfl trivial ?_
  refine z_Ev_else (by decide) ?_
  refine z_Ev_blk 3 (c' := ((if (45 : Int32) = (45 : Int32) then 28 else 39), [some (aR 0 32), some (aI (45 : Int32)), none, none], [], (C, dm s a v t ld ob, E))) rfl trivial ?_
  refine z_Ev_if (by decide) ?_
  refine z_Ev_blk 3 (c' := (33, [some (aR 0 32), some (aI (45 : Int32)), none, none], [aI (ob 16), aR 0 32], (C, dm s a v t ld ob, E))) rfl trivial ?_
  rw [h16]
  refine z_Ev_call0 (m' := m_X5_stopFault) (as := [aR 0 32, aI (3 : Int32)]) (r := []) ((by have q := m_stopFault_3 (xs := xs) (L := L) C s a v t ld ob E; rw [if_neg (fun z => hp (st12.mp z))] at q; exact q)) rfl rfl ?_
  refine z_Ev_blk 4 (c' := ((if (2 : Int32) = 0 then 83 else 163), [some (aR 0 32), some (aI (45 : Int32)), some (aI (2 : Int32)), none], [], (C, dm s a v t ld ob, E))) rfl trivial ?_
  refine z_Ev_else (by decide) ?_
  refine z_Ev_blk 2 (c' := ((if (2 : Int32) = 0 then 167 else 171), [some (aR 0 32), some (aI (45 : Int32)), some (aI (2 : Int32)), none], [], (C, dm s a v t ld ob, E))) rfl trivial ?_
  refine z_Ev_else (by decide) ?_
  refine z_Ev_blk 1 (c' := (172, [some (aR 0 32), some (aI (45 : Int32)), some (aI (2 : Int32)), none], [aI (0 : Int32)], (C, dm s a v t ld ob, E))) rfl trivial ?_
  exact z_Ev_zretE rfl rfl (rfl) (by rfl) (by rfl)
theorem do_115 {xs : Nat → Int32} {L : Nat} (one : Int32) (C : Nat → Nat → Nat → Int32) (s a v t ld ob : Nat → Int32) (E : Nat → Int64) (h15 : ob 15 = 115) (h16 : ob 16 = one)  : z_Mt xs L m_X5_does [aR 0 32] (C, dm s a v t ld ob, E) (.inl (some (aI 1))) (C, dm (upd s 37 (1 - s 37)) a v t ld ob, E) 0 := by
  refine z_Ev_blk 2 (c' := (4, [some (aR 0 32), none, none, none], [aI (ob 15)], (C, dm s a v t ld ob, E))) rfl trivial ?_
  rw [h15]
  refine z_Ev_blk 4 (c' := ((if (115 : Int32) = (43 : Int32) then 11 else 22), [some (aR 0 32), some (aI (115 : Int32)), none, none], [], (C, dm s a v t ld ob, E))) rfl trivial ?_
  refine z_Ev_else (by decide) ?_
  refine z_Ev_blk 3 (c' := ((if (115 : Int32) = (45 : Int32) then 28 else 39), [some (aR 0 32), some (aI (115 : Int32)), none, none], [], (C, dm s a v t ld ob, E))) rfl trivial ?_
  refine z_Ev_else (by decide) ?_
  refine z_Ev_blk 3 (c' := ((if (115 : Int32) = (104 : Int32) then 45 else 56), [some (aR 0 32), some (aI (115 : Int32)), none, none], [], (C, dm s a v t ld ob, E))) rfl trivial ?_
  refine z_Ev_else (by decide) ?_
  refine z_Ev_blk 3 (c' := ((if (115 : Int32) = (102 : Int32) then 62 else 77), [some (aR 0 32), some (aI (115 : Int32)), none, none], [], (C, dm s a v t ld ob, E))) rfl trivial ?_
  refine z_Ev_else (by decide) ?_
  refine z_Ev_blk 4 (c' := ((if (0 : Int32) = 0 then 83 else 163), [some (aR 0 32), some (aI (115 : Int32)), some (aI (0 : Int32)), none], [], (C, dm s a v t ld ob, E))) rfl trivial ?_
  refine z_Ev_if (by decide) ?_
  refine z_Ev_blk 3 (c' := ((if (115 : Int32) = (43 : Int32) then 89 else 100), [some (aR 0 32), some (aI (115 : Int32)), some (aI (0 : Int32)), none], [], (C, dm s a v t ld ob, E))) rfl trivial ?_
  refine z_Ev_else (by decide) ?_
  refine z_Ev_blk 3 (c' := ((if (115 : Int32) = (45 : Int32) then 106 else 117), [some (aR 0 32), some (aI (115 : Int32)), some (aI (0 : Int32)), none], [], (C, dm s a v t ld ob, E))) rfl trivial ?_
  refine z_Ev_else (by decide) ?_
  refine z_Ev_blk 3 (c' := ((if (115 : Int32) = (104 : Int32) then 123 else 134), [some (aR 0 32), some (aI (115 : Int32)), some (aI (0 : Int32)), none], [], (C, dm s a v t ld ob, E))) rfl trivial ?_
  refine z_Ev_else (by decide) ?_
  refine z_Ev_blk 3 (c' := ((if (115 : Int32) = (102 : Int32) then 140 else 158), [some (aR 0 32), some (aI (115 : Int32)), some (aI (0 : Int32)), none], [], (C, dm s a v t ld ob, E))) rfl trivial ?_
  refine z_Ev_else (by decide) ?_
  refine z_Ev_blk 1 (c' := (159, [some (aR 0 32), some (aI (115 : Int32)), some (aI (0 : Int32)), none], [aR 0 32], (C, dm s a v t ld ob, E))) rfl trivial ?_
  refine z_Ev_call0 (m' := m_X5_sheds) (as := [aR 0 32]) (r := []) (m_sheds C s a v t ld ob E) rfl rfl ?_
  refine z_Ev_blk 3 (c' := ((if (0 : Int32) = 0 then 167 else 171), [some (aR 0 32), some (aI (115 : Int32)), some (aI (0 : Int32)), some (aI (1 - s 37))], [], (C, dm (upd s 37 (1 - s 37)) a v t ld ob, E))) rfl trivial ?_
  refine z_Ev_if (by decide) ?_
  refine z_Ev_blk 2 (c' := (172, [some (aR 0 32), some (aI (115 : Int32)), some (aI (0 : Int32)), some (aI (1 - s 37))], [aI (1 : Int32)], (C, dm (upd s 37 (1 - s 37)) a v t ld ob, E))) rfl trivial ?_
  exact z_Ev_zretE rfl rfl (rfl) (by rfl) (by rfl)
theorem do_104_1 {xs : Nat → Int32} {L : Nat} (x : Nat) (y : Int32) (Z LD OB : Nat → Int32) (C : Nat → Nat → Nat → Int32) (s a v t ld ob : Nat → Int32) (E : Nat → Int64) (h15 : ob 15 = 104) (h16 : ob 16 = (nI x)) (hx : 1 ≤ nI x ∧ nI x ≤ 48) (hp : s 34 + nI x ≤ 48) (hP : z_Mt xs L m_X5_passes [aR 0 32, aI (nI x)] (C, dm s a v t ld ob, E) (.inl (some (aI y))) (C, dm Z a v t LD OB, E) 0) : z_Mt xs L m_X5_does [aR 0 32] (C, dm s a v t ld ob, E) (.inl (some (aI 1))) (C, dm Z a v t LD OB, E) 0 := by
  refine z_Ev_blk 2 (c' := (4, [some (aR 0 32), none, none, none], [aI (ob 15)], (C, dm s a v t ld ob, E))) rfl trivial ?_
  rw [h15]
  refine z_Ev_blk 4 (c' := ((if (104 : Int32) = (43 : Int32) then 11 else 22), [some (aR 0 32), some (aI (104 : Int32)), none, none], [], (C, dm s a v t ld ob, E))) rfl trivial ?_
  refine z_Ev_else (by decide) ?_
  refine z_Ev_blk 3 (c' := ((if (104 : Int32) = (45 : Int32) then 28 else 39), [some (aR 0 32), some (aI (104 : Int32)), none, none], [], (C, dm s a v t ld ob, E))) rfl trivial ?_
  refine z_Ev_else (by decide) ?_
  refine z_Ev_blk 3 (c' := ((if (104 : Int32) = (104 : Int32) then 45 else 56), [some (aR 0 32), some (aI (104 : Int32)), none, none], [], (C, dm s a v t ld ob, E))) rfl trivial ?_
  refine z_Ev_if (by decide) ?_
  refine z_Ev_blk 3 (c' := (50, [some (aR 0 32), some (aI (104 : Int32)), none, none], [aI (ob 16), aR 0 32], (C, dm s a v t ld ob, E))) rfl trivial ?_
  rw [h16]
  refine z_Ev_call0 (m' := m_X5_passFault) (as := [aR 0 32, aI ((nI x))]) (r := []) ((by have q := m_passFault (xs := xs) (L := L) (nI x) C s a v t ld ob E; rw [if_pos hx, if_pos hp] at q; exact q)) rfl rfl ?_
  refine z_Ev_blk 4 (c' := ((if (0 : Int32) = 0 then 83 else 163), [some (aR 0 32), some (aI (104 : Int32)), some (aI (0 : Int32)), none], [], (C, dm s a v t ld ob, E))) rfl trivial ?_
  refine z_Ev_if (by decide) ?_
  refine z_Ev_blk 3 (c' := ((if (104 : Int32) = (43 : Int32) then 89 else 100), [some (aR 0 32), some (aI (104 : Int32)), some (aI (0 : Int32)), none], [], (C, dm s a v t ld ob, E))) rfl trivial ?_
  refine z_Ev_else (by decide) ?_
  refine z_Ev_blk 3 (c' := ((if (104 : Int32) = (45 : Int32) then 106 else 117), [some (aR 0 32), some (aI (104 : Int32)), some (aI (0 : Int32)), none], [], (C, dm s a v t ld ob, E))) rfl trivial ?_
  refine z_Ev_else (by decide) ?_
  refine z_Ev_blk 3 (c' := ((if (104 : Int32) = (104 : Int32) then 123 else 134), [some (aR 0 32), some (aI (104 : Int32)), some (aI (0 : Int32)), none], [], (C, dm s a v t ld ob, E))) rfl trivial ?_
  refine z_Ev_if (by decide) ?_
  refine z_Ev_blk 3 (c' := (128, [some (aR 0 32), some (aI (104 : Int32)), some (aI (0 : Int32)), none], [aI (ob 16), aR 0 32], (C, dm s a v t ld ob, E))) rfl trivial ?_
  rw [h16]
  refine z_Ev_call0 (m' := m_X5_passes) (as := [aR 0 32, aI ((nI x))]) (r := []) (hP) rfl rfl ?_
  refine z_Ev_blk 4 (c' := ((if (0 : Int32) = 0 then 167 else 171), [some (aR 0 32), some (aI (104 : Int32)), some (aI (0 : Int32)), some (aI y)], [], (C, dm Z a v t LD OB, E))) rfl trivial ?_
  refine z_Ev_if (by decide) ?_
  refine z_Ev_blk 2 (c' := (172, [some (aR 0 32), some (aI (104 : Int32)), some (aI (0 : Int32)), some (aI y)], [aI (1 : Int32)], (C, dm Z a v t LD OB, E))) rfl trivial ?_
  exact z_Ev_zretE rfl rfl (rfl) (by rfl) (by rfl)
theorem do_104_0 {xs : Nat → Int32} {L : Nat} (x : Nat) (y : Int32) (Z LD OB : Nat → Int32) (C : Nat → Nat → Nat → Int32) (s a v t ld ob : Nat → Int32) (E : Nat → Int64) (h15 : ob 15 = 104) (h16 : ob 16 = (nI x)) (hx : 1 ≤ nI x ∧ nI x ≤ 48) (hp : ¬ s 34 + nI x ≤ 48) : z_Mt xs L m_X5_does [aR 0 32] (C, dm s a v t ld ob, E) (.inl (some (aI 0))) (C, dm s a v t ld ob, E) 0 := by
  refine z_Ev_blk 2 (c' := (4, [some (aR 0 32), none, none, none], [aI (ob 15)], (C, dm s a v t ld ob, E))) rfl trivial ?_
  rw [h15]
  refine z_Ev_blk 4 (c' := ((if (104 : Int32) = (43 : Int32) then 11 else 22), [some (aR 0 32), some (aI (104 : Int32)), none, none], [], (C, dm s a v t ld ob, E))) rfl trivial ?_
  refine z_Ev_else (by decide) ?_
  refine z_Ev_blk 3 (c' := ((if (104 : Int32) = (45 : Int32) then 28 else 39), [some (aR 0 32), some (aI (104 : Int32)), none, none], [], (C, dm s a v t ld ob, E))) rfl trivial ?_
  refine z_Ev_else (by decide) ?_
  refine z_Ev_blk 3 (c' := ((if (104 : Int32) = (104 : Int32) then 45 else 56), [some (aR 0 32), some (aI (104 : Int32)), none, none], [], (C, dm s a v t ld ob, E))) rfl trivial ?_
  refine z_Ev_if (by decide) ?_
  refine z_Ev_blk 3 (c' := (50, [some (aR 0 32), some (aI (104 : Int32)), none, none], [aI (ob 16), aR 0 32], (C, dm s a v t ld ob, E))) rfl trivial ?_
  rw [h16]
  refine z_Ev_call0 (m' := m_X5_passFault) (as := [aR 0 32, aI ((nI x))]) (r := []) ((by have q := m_passFault (xs := xs) (L := L) (nI x) C s a v t ld ob E; rw [if_pos hx, if_neg hp] at q; exact q)) rfl rfl ?_
  refine z_Ev_blk 4 (c' := ((if (2 : Int32) = 0 then 83 else 163), [some (aR 0 32), some (aI (104 : Int32)), some (aI (2 : Int32)), none], [], (C, dm s a v t ld ob, E))) rfl trivial ?_
  refine z_Ev_else (by decide) ?_
  refine z_Ev_blk 2 (c' := ((if (2 : Int32) = 0 then 167 else 171), [some (aR 0 32), some (aI (104 : Int32)), some (aI (2 : Int32)), none], [], (C, dm s a v t ld ob, E))) rfl trivial ?_
  refine z_Ev_else (by decide) ?_
  refine z_Ev_blk 1 (c' := (172, [some (aR 0 32), some (aI (104 : Int32)), some (aI (2 : Int32)), none], [aI (0 : Int32)], (C, dm s a v t ld ob, E))) rfl trivial ?_
  exact z_Ev_zretE rfl rfl (rfl) (by rfl) (by rfl)
theorem do_102 {xs : Nat → Int32} {L : Nat} (h : Nat) (C : Nat → Nat → Nat → Int32) (s a v t ld ob : Nat → Int32) (E : Nat → Int64) (h15 : ob 15 = 102) (h16 : ob 16 = (nI h)) (hh : h < 48) (hh2 : 0 ≤ nI h ∧ nI h ≤ 47) (hw : 0 ≤ ob 17 ∧ ob 17 ≤ 1500) : z_Mt xs L m_X5_does [aR 0 32] (C, dm s a v t ld ob, E) (.inl (some (aI 1))) (C, dm (upd s (40 + h) (ob 17)) a v t ld ob, E) 0 := by
  refine z_Ev_blk 2 (c' := (4, [some (aR 0 32), none, none, none], [aI (ob 15)], (C, dm s a v t ld ob, E))) rfl trivial ?_
  rw [h15]
  refine z_Ev_blk 4 (c' := ((if (102 : Int32) = (43 : Int32) then 11 else 22), [some (aR 0 32), some (aI (102 : Int32)), none, none], [], (C, dm s a v t ld ob, E))) rfl trivial ?_
  refine z_Ev_else (by decide) ?_
  refine z_Ev_blk 3 (c' := ((if (102 : Int32) = (45 : Int32) then 28 else 39), [some (aR 0 32), some (aI (102 : Int32)), none, none], [], (C, dm s a v t ld ob, E))) rfl trivial ?_
  refine z_Ev_else (by decide) ?_
  refine z_Ev_blk 3 (c' := ((if (102 : Int32) = (104 : Int32) then 45 else 56), [some (aR 0 32), some (aI (102 : Int32)), none, none], [], (C, dm s a v t ld ob, E))) rfl trivial ?_
  refine z_Ev_else (by decide) ?_
  refine z_Ev_blk 3 (c' := ((if (102 : Int32) = (102 : Int32) then 62 else 77), [some (aR 0 32), some (aI (102 : Int32)), none, none], [], (C, dm s a v t ld ob, E))) rfl trivial ?_
  refine z_Ev_if (by decide) ?_
  refine z_Ev_blk 3 (c' := (67, [some (aR 0 32), some (aI (102 : Int32)), none, none], [aI (ob 16), aR 0 32], (C, dm s a v t ld ob, E))) rfl trivial ?_
  rw [h16]
  refine z_Ev_blk 2 (c' := (71, [some (aR 0 32), some (aI (102 : Int32)), none, none], [aI (ob 17), aI ((nI h)), aR 0 32], (C, dm s a v t ld ob, E))) rfl trivial ?_
  refine z_Ev_call0 (m' := m_X5_forecastFault) (as := [aR 0 32, aI ((nI h)), aI (ob 17)]) (r := []) ((by have q := m_forecastFault (xs := xs) (L := L) (nI h) (ob 17) C s a v t ld ob E; rw [if_pos ⟨hh2, hw⟩] at q; exact q)) rfl rfl ?_
  refine z_Ev_blk 4 (c' := ((if (0 : Int32) = 0 then 83 else 163), [some (aR 0 32), some (aI (102 : Int32)), some (aI (0 : Int32)), none], [], (C, dm s a v t ld ob, E))) rfl trivial ?_
  refine z_Ev_if (by decide) ?_
  refine z_Ev_blk 3 (c' := ((if (102 : Int32) = (43 : Int32) then 89 else 100), [some (aR 0 32), some (aI (102 : Int32)), some (aI (0 : Int32)), none], [], (C, dm s a v t ld ob, E))) rfl trivial ?_
  refine z_Ev_else (by decide) ?_
  refine z_Ev_blk 3 (c' := ((if (102 : Int32) = (45 : Int32) then 106 else 117), [some (aR 0 32), some (aI (102 : Int32)), some (aI (0 : Int32)), none], [], (C, dm s a v t ld ob, E))) rfl trivial ?_
  refine z_Ev_else (by decide) ?_
  refine z_Ev_blk 3 (c' := ((if (102 : Int32) = (104 : Int32) then 123 else 134), [some (aR 0 32), some (aI (102 : Int32)), some (aI (0 : Int32)), none], [], (C, dm s a v t ld ob, E))) rfl trivial ?_
  refine z_Ev_else (by decide) ?_
  refine z_Ev_blk 3 (c' := ((if (102 : Int32) = (102 : Int32) then 140 else 158), [some (aR 0 32), some (aI (102 : Int32)), some (aI (0 : Int32)), none], [], (C, dm s a v t ld ob, E))) rfl trivial ?_
  refine z_Ev_if (by decide) ?_
  refine z_Ev_blk 4 (c' := (147, [some (aR 0 32), some (aI (102 : Int32)), some (aI (0 : Int32)), none], [aI (ob 16), aI (40 : Int32), aR 0 32], (C, dm s a v t ld ob, E))) rfl trivial ?_
  rw [h16]
  refine z_Ev_blk 3 (c' := (152, [some (aR 0 32), some (aI (102 : Int32)), some (aI (0 : Int32)), none], [aI (ob 17), aI ((40 : Int32) + ((nI h))), aR 0 32], (C, dm s a v t ld ob, E))) rfl trivial ?_
  refine z_Ev_call0 (m' := m_X5_puts) (as := [aR 0 32, aI ((40 : Int32) + ((nI h))), aI (ob 17)]) (r := []) ((by have q := m_puts (xs := xs) (L := L) (40 + nI h) (ob 17) C s a v t ld ob E (in40 hh); rw [idx40 hh] at q; exact q)) rfl rfl ?_
  refine z_Ev_blk 4 (c' := ((if (0 : Int32) = 0 then 167 else 171), [some (aR 0 32), some (aI (102 : Int32)), some (aI (0 : Int32)), some (aI (s (40 + h)))], [], (C, dm (upd s (40 + h) (ob 17)) a v t ld ob, E))) rfl trivial ?_
  refine z_Ev_if (by decide) ?_
  refine z_Ev_blk 2 (c' := (172, [some (aR 0 32), some (aI (102 : Int32)), some (aI (0 : Int32)), some (aI (s (40 + h)))], [aI (1 : Int32)], (C, dm (upd s (40 + h) (ob 17)) a v t ld ob, E))) rfl trivial ?_
  exact z_Ev_zretE rfl rfl (rfl) (by rfl) (by rfl)
def DoesPost (xs : Nat → Int32) (L : Nat) (C : Nat → Nat → Nat → Int32) (s a v t ld ob : Nat → Int32) (E : Nat → Int64) (r : Option (Nat → Int32)) : Prop := match r with
  | some N => ∃ LD OB : Nat → Int32, keep ob OB ∧ z_Mt xs L m_X5_does [aR 0 32] (C, dm s a v t ld ob, E) (.inl (some (aI 1))) (C, dm N a v t LD OB, E) 0
  | none => z_Mt xs L m_X5_does [aR 0 32] (C, dm s a v t ld ob, E) (.inl (some (aI 0))) (C, dm s a v t ld ob, E) 0
theorem keep_r {ob : Nat → Int32} : keep ob ob := fun _ _ => rfl
theorem pass_le {s : Nat → Int32} {H x : Nat} (h34 : s 34 = nI H) (hH : H ≤ 48) (hx : x ≤ 48) : s 34 + nI x ≤ 48 ↔ H + x ≤ 48 := by
  rw [h34, nI_add, show (48 : Int32) = nI 48 from rfl, nI_leI (by omega) (by decide)]
theorem n_does {xs : Nat → Int32} {L : Nat} (H : Nat) (c one two : Int32) (C : Nat → Nat → Nat → Int32) (s a v t ld ob : Nat → Int32) (E : Nat → Int64) (hV : Vs s H) (hK : ordK c one two) (h15 : ob 15 = c) (h16 : ob 16 = one) (h17 : ob 17 = two) : DoesPost xs L C s a v t ld ob E (oS s c one two) := by
  rcases hK with ⟨hc, ho⟩ | hc | ⟨hc, x, h1, h2, ho⟩ | ⟨hc, h, hh, ho, w1, w2⟩
  · rcases hc with hc | hc <;> subst hc
    · rcases ho with ho | ho | ho | ho <;> subst ho
      · have e : oS s 43 0 two = if s 16 = 0 then some (bgF s 0) else none := rfl
        rw [e]
        by_cases q : s 16 = 0
        · rw [if_pos q]
          exact ⟨ld, ob, keep_r, do_43_0_1 C s a v t ld ob E h15 h16 q⟩
        · rw [if_neg q]
          exact do_43_0_0 C s a v t ld ob E h15 h16 q
      · have e : oS s 43 1 two = if s 17 = 0 then some (bgF s 1) else none := rfl
        rw [e]
        by_cases q : s 17 = 0
        · rw [if_pos q]
          exact ⟨ld, ob, keep_r, do_43_1_1 C s a v t ld ob E h15 h16 q⟩
        · rw [if_neg q]
          exact do_43_1_0 C s a v t ld ob E h15 h16 q
      · have e : oS s 43 2 two = if s 18 = 0 then some (bgF s 2) else none := rfl
        rw [e]
        by_cases q : s 18 = 0
        · rw [if_pos q]
          exact ⟨ld, ob, keep_r, do_43_2_1 C s a v t ld ob E h15 h16 q⟩
        · rw [if_neg q]
          exact do_43_2_0 C s a v t ld ob E h15 h16 q
      · have e : oS s 43 3 two = if s 19 = 0 then some (bgF s 3) else none := rfl
        rw [e]
        by_cases q : s 19 = 0
        · rw [if_pos q]
          exact ⟨ld, ob, keep_r, do_43_3_1 C s a v t ld ob E h15 h16 q⟩
        · rw [if_neg q]
          exact do_43_3_0 C s a v t ld ob E h15 h16 q
    · rcases ho with ho | ho | ho | ho <;> subst ho
      · have e : oS s 45 0 two = if s 16 = 1 ∨ s 16 = 2 then some (stF s 0) else none := rfl
        rw [e]
        by_cases q : s 16 = 1 ∨ s 16 = 2
        · rw [if_pos q]
          exact ⟨ld, ob, keep_r, do_45_0_1 C s a v t ld ob E h15 h16 q⟩
        · rw [if_neg q]
          exact do_45_0_0 C s a v t ld ob E h15 h16 q
      · have e : oS s 45 1 two = if s 17 = 1 ∨ s 17 = 2 then some (stF s 1) else none := rfl
        rw [e]
        by_cases q : s 17 = 1 ∨ s 17 = 2
        · rw [if_pos q]
          exact ⟨ld, ob, keep_r, do_45_1_1 C s a v t ld ob E h15 h16 q⟩
        · rw [if_neg q]
          exact do_45_1_0 C s a v t ld ob E h15 h16 q
      · have e : oS s 45 2 two = if s 18 = 1 ∨ s 18 = 2 then some (stF s 2) else none := rfl
        rw [e]
        by_cases q : s 18 = 1 ∨ s 18 = 2
        · rw [if_pos q]
          exact ⟨ld, ob, keep_r, do_45_2_1 C s a v t ld ob E h15 h16 q⟩
        · rw [if_neg q]
          exact do_45_2_0 C s a v t ld ob E h15 h16 q
      · have e : oS s 45 3 two = if s 19 = 1 ∨ s 19 = 2 then some (stF s 3) else none := rfl
        rw [e]
        by_cases q : s 19 = 1 ∨ s 19 = 2
        · rw [if_pos q]
          exact ⟨ld, ob, keep_r, do_45_3_1 C s a v t ld ob E h15 h16 q⟩
        · rw [if_neg q]
          exact do_45_3_0 C s a v t ld ob E h15 h16 q
  · subst hc
    rw [oS_s]
    exact ⟨ld, ob, keep_r, do_115 one C s a v t ld ob E h15 h16⟩
  · subst hc
    subst ho
    rw [oS_h hV.2.1.1 hV.2.1.2 h2]
    have hx : 1 ≤ nI x ∧ nI x ≤ 48 := ⟨nI_le (a := 1) h1 (by omega), nI_le (b := 48) h2 (by decide)⟩
    by_cases q : H + x ≤ 48
    · rw [if_pos q]
      obtain ⟨LD, OB, k1, hP⟩ := p_passes (xs := xs) (L := L) C s a v t ld ob E x hV q
      exact ⟨LD, OB, k1, do_104_1 x _ _ LD OB C s a v t ld ob E h15 h16 hx ((pass_le hV.2.1.1 hV.2.1.2 h2).mpr q) hP⟩
    · rw [if_neg q]
      exact do_104_0 x 0 ld ld ob C s a v t ld ob E h15 h16 hx (fun z => q ((pass_le hV.2.1.1 hV.2.1.2 h2).mp z))
  · subst hc
    subst ho
    rw [oS_f hh]
    refine ⟨ld, ob, keep_r, ?_⟩
    have K := do_102 (xs := xs) (L := L) h C s a v t ld ob E h15 h16 hh (nI47 hh) (by
      rw [h17, i_le, i_le, t0]
      exact ⟨w1, w2⟩)
    rw [h17] at K
    exact K
theorem gf_w {xs : Nat → Int32} {L : Nat} (OB : Nat → Int32) (C : Nat → Nat → Nat → Int32) (s a v t ld ob : Nat → Int32) (E : Nat → Int64) (hO : z_Mt xs L m_X5_order [aR 0 32] (C, dm s a v t ld ob, E) (.inl none) (C, dm s a v t ld OB, E) 0) (h14 : OB 14 = 1) : z_Ev xs L m_X5_go (14, [some (aR 0 32), some (aI (0 : Int32)), some (aI (0 : Int32)), some (aI (1 : Int32)), none, none], [], (C, dm s a v t ld ob, E)) (.inl (some (aI (0 : Int32)))) (C, dm s a v t ld OB, E) 0 := by
  refine z_Ev_blk 2 (c' := ((if (1 : Int32) = 0 then 116 else 18), [some (aR 0 32), some (aI (0 : Int32)), some (aI (0 : Int32)), some (aI (1 : Int32)), none, none], [], (C, dm s a v t ld ob, E))) rfl trivial ?_
  refine z_Ev_else (by decide) ?_
  refine z_Ev_blk 1 (c' := (19, [some (aR 0 32), some (aI (0 : Int32)), some (aI (0 : Int32)), some (aI (1 : Int32)), none, none], [aR 0 32], (C, dm s a v t ld ob, E))) rfl trivial ?_
  refine z_Ev_call0 (m' := m_X5_order) (as := [aR 0 32]) (r := []) (hO) rfl rfl ?_
  refine z_Ev_blk 2 (c' := ((if (0 : Int32) = 0 then 37 else 26), [some (aR 0 32), some (aI (0 : Int32)), some (aI (0 : Int32)), some (aI (1 : Int32)), none, none], [], (C, dm s a v t ld OB, E))) rfl trivial ?_
  refine z_Ev_if (by decide) ?_
  refine z_Ev_blk 5 (c' := ((if (0 : Int32) = 0 then 50 else 46), [some (aR 0 32), some (aI (0 : Int32)), some (aI (0 : Int32)), some (aI (1 : Int32)), some (aI (0 : Int32)), none], [aI (0 : Int32)], (C, dm s a v t ld OB, E))) rfl trivial ?_
  refine z_Ev_if (by decide) ?_
  refine z_Ev_blk 5 (c' := (57, [some (aR 0 32), some (aI (0 : Int32)), some (aI (0 : Int32)), some (aI (1 : Int32)), some (aI (0 : Int32)), none], [aI (OB 14)], (C, dm s a v t ld OB, E))) rfl trivial ?_
  rw [h14]
  refine z_Ev_blk 1 (c' := ((if (1 : Int32) = 0 then 60 else 84), [some (aR 0 32), some (aI (0 : Int32)), some (aI (0 : Int32)), some (aI (1 : Int32)), some (aI (0 : Int32)), none], [], (C, dm s a v t ld OB, E))) rfl trivial ?_
  refine z_Ev_else (by decide) ?_
  refine z_Ev_blk 4 (c' := ((if (0 : Int32) = 0 then 113 else 90), [some (aR 0 32), some (aI (0 : Int32)), some (aI (0 : Int32)), some (aI (0 : Int32)), some (aI (0 : Int32)), none], [], (C, dm s a v t ld OB, E))) rfl trivial ?_
  refine z_Ev_if (by decide) ?_
  refine z_Ev_blk 3 (c' := ((if (0 : Int32) = 0 then 116 else 18), [some (aR 0 32), some (aI (0 : Int32)), some (aI (0 : Int32)), some (aI (0 : Int32)), some (aI (0 : Int32)), none], [], (C, dm s a v t ld OB, E))) rfl trivial ?_
  refine z_Ev_if (by decide) ?_
  refine z_Ev_blk 1 (c' := (117, [some (aR 0 32), some (aI (0 : Int32)), some (aI (0 : Int32)), some (aI (0 : Int32)), some (aI (0 : Int32)), none], [aI (0 : Int32)], (C, dm s a v t ld OB, E))) rfl trivial ?_
  exact z_Ev_iretE rfl rfl (by rfl) (by rfl)
theorem gf_e {xs : Nat → Int32} {L : Nat} (c : Nat) (OB : Nat → Int32) (C : Nat → Nat → Nat → Int32) (s a v t ld ob : Nat → Int32) (E : Nat → Int64) (hO : z_Mt xs L m_X5_order [aR 0 32] (C, dm s a v t ld ob, E) (.inl none) (C, dm s a v t ld OB, E) 0) (h14 : OB 14 = 0) (h13 : OB 13 = nI c) (h6 : OB 6 = nI c) : z_Ev xs L m_X5_go (14, [some (aR 0 32), some (aI (0 : Int32)), some (aI (0 : Int32)), some (aI (1 : Int32)), none, none], [], (C, dm s a v t ld ob, E)) (.inl (some (aI (0 : Int32)))) (C, dm s a v t ld OB, E) 0 := by
  refine z_Ev_blk 2 (c' := ((if (1 : Int32) = 0 then 116 else 18), [some (aR 0 32), some (aI (0 : Int32)), some (aI (0 : Int32)), some (aI (1 : Int32)), none, none], [], (C, dm s a v t ld ob, E))) rfl trivial ?_
  refine z_Ev_else (by decide) ?_
  refine z_Ev_blk 1 (c' := (19, [some (aR 0 32), some (aI (0 : Int32)), some (aI (0 : Int32)), some (aI (1 : Int32)), none, none], [aR 0 32], (C, dm s a v t ld ob, E))) rfl trivial ?_
  refine z_Ev_call0 (m' := m_X5_order) (as := [aR 0 32]) (r := []) (hO) rfl rfl ?_
  refine z_Ev_blk 2 (c' := ((if (0 : Int32) = 0 then 37 else 26), [some (aR 0 32), some (aI (0 : Int32)), some (aI (0 : Int32)), some (aI (1 : Int32)), none, none], [], (C, dm s a v t ld OB, E))) rfl trivial ?_
  refine z_Ev_if (by decide) ?_
  refine z_Ev_blk 5 (c' := ((if (0 : Int32) = 0 then 50 else 46), [some (aR 0 32), some (aI (0 : Int32)), some (aI (0 : Int32)), some (aI (1 : Int32)), some (aI (0 : Int32)), none], [aI (0 : Int32)], (C, dm s a v t ld OB, E))) rfl trivial ?_
  refine z_Ev_if (by decide) ?_
  refine z_Ev_blk 5 (c' := (57, [some (aR 0 32), some (aI (0 : Int32)), some (aI (0 : Int32)), some (aI (1 : Int32)), some (aI (0 : Int32)), none], [aI (OB 14)], (C, dm s a v t ld OB, E))) rfl trivial ?_
  rw [h14]
  refine z_Ev_blk 1 (c' := ((if (0 : Int32) = 0 then 60 else 84), [some (aR 0 32), some (aI (0 : Int32)), some (aI (0 : Int32)), some (aI (1 : Int32)), some (aI (0 : Int32)), none], [], (C, dm s a v t ld OB, E))) rfl trivial ?_
  refine z_Ev_if (by decide) ?_
  refine z_Ev_blk 2 (c' := ((if (0 : Int32) = 0 then 65 else 69), [some (aR 0 32), some (aI (0 : Int32)), some (aI (0 : Int32)), some (aI (1 : Int32)), some (aI (0 : Int32)), none], [], (C, dm s a v t ld OB, E))) rfl trivial ?_
  refine z_Ev_if (by decide) ?_
  refine z_Ev_blk 2 (c' := ((if (0 : Int32) = 0 then 69 else 84), [some (aR 0 32), some (aI (0 : Int32)), some (aI (0 : Int32)), some (aI (1 : Int32)), some (aI (0 : Int32)), none], [], (C, dm s a v t ld OB, E))) rfl trivial ?_
  refine z_Ev_if (by decide) ?_
  refine z_Ev_blk 2 (c' := (73, [some (aR 0 32), some (aI (0 : Int32)), some (aI (0 : Int32)), some (aI (1 : Int32)), some (aI (0 : Int32)), none], [aI (OB 13)], (C, dm s a v t ld OB, E))) rfl trivial ?_
  rw [h13]
  refine z_Ev_blk 2 (c' := (77, [some (aR 0 32), some (aI (0 : Int32)), some (aI (0 : Int32)), some (aI (1 : Int32)), some (aI (0 : Int32)), none], [aI (OB 6), aI (nI c)], (C, dm s a v t ld OB, E))) rfl trivial ?_
  rw [h6]
  refine z_Ev_blk 1 (c' := ((if (nI c) ≤ (nI c) then 84 else 80), [some (aR 0 32), some (aI (0 : Int32)), some (aI (0 : Int32)), some (aI (1 : Int32)), some (aI (0 : Int32)), none], [], (C, dm s a v t ld OB, E))) rfl trivial ?_
  refine z_Ev_if (Int32.le_refl _) ?_
  refine z_Ev_blk 4 (c' := ((if (0 : Int32) = 0 then 113 else 90), [some (aR 0 32), some (aI (0 : Int32)), some (aI (0 : Int32)), some (aI (0 : Int32)), some (aI (0 : Int32)), none], [], (C, dm s a v t ld OB, E))) rfl trivial ?_
  refine z_Ev_if (by decide) ?_
  refine z_Ev_blk 3 (c' := ((if (0 : Int32) = 0 then 116 else 18), [some (aR 0 32), some (aI (0 : Int32)), some (aI (0 : Int32)), some (aI (0 : Int32)), some (aI (0 : Int32)), none], [], (C, dm s a v t ld OB, E))) rfl trivial ?_
  refine z_Ev_if (by decide) ?_
  refine z_Ev_blk 1 (c' := (117, [some (aR 0 32), some (aI (0 : Int32)), some (aI (0 : Int32)), some (aI (0 : Int32)), some (aI (0 : Int32)), none], [aI (0 : Int32)], (C, dm s a v t ld OB, E))) rfl trivial ?_
  exact z_Ev_iretE rfl rfl (by rfl) (by rfl)
theorem gf_b {xs : Nat → Int32} {L : Nat} (c q : Nat) (y : Int32) (OB OB2 : Nat → Int32) (C : Nat → Nat → Nat → Int32) (s a v t ld ob : Nat → Int32) (E : Nat → Int64) (hO : z_Mt xs L m_X5_order [aR 0 32] (C, dm s a v t ld ob, E) (.inl none) (C, dm s a v t ld OB, E) 0) (h14 : OB 14 = 0) (h13 : OB 13 = nI q) (h6 : OB 6 = nI c) (hq : q < c) (hc : c ≤ 60) (hS : z_Mt xs L m_X5_sign [aR 0 32, aI 59, aI 59] (C, dm s a v t ld OB, E) (.inl (some (aI y))) (C, dm s a v t ld OB2, E) 0) (g14 : OB2 14 = 1) : z_Ev xs L m_X5_go (14, [some (aR 0 32), some (aI (0 : Int32)), some (aI (0 : Int32)), some (aI (1 : Int32)), none, none], [], (C, dm s a v t ld ob, E)) (.inl (some (aI (0 : Int32)))) (C, dm s a v t ld OB2, E) 0 := by
  refine z_Ev_blk 2 (c' := ((if (1 : Int32) = 0 then 116 else 18), [some (aR 0 32), some (aI (0 : Int32)), some (aI (0 : Int32)), some (aI (1 : Int32)), none, none], [], (C, dm s a v t ld ob, E))) rfl trivial ?_
  refine z_Ev_else (by decide) ?_
  refine z_Ev_blk 1 (c' := (19, [some (aR 0 32), some (aI (0 : Int32)), some (aI (0 : Int32)), some (aI (1 : Int32)), none, none], [aR 0 32], (C, dm s a v t ld ob, E))) rfl trivial ?_
  refine z_Ev_call0 (m' := m_X5_order) (as := [aR 0 32]) (r := []) (hO) rfl rfl ?_
  refine z_Ev_blk 2 (c' := ((if (0 : Int32) = 0 then 37 else 26), [some (aR 0 32), some (aI (0 : Int32)), some (aI (0 : Int32)), some (aI (1 : Int32)), none, none], [], (C, dm s a v t ld OB, E))) rfl trivial ?_
  refine z_Ev_if (by decide) ?_
  refine z_Ev_blk 5 (c' := ((if (0 : Int32) = 0 then 50 else 46), [some (aR 0 32), some (aI (0 : Int32)), some (aI (0 : Int32)), some (aI (1 : Int32)), some (aI (0 : Int32)), none], [aI (0 : Int32)], (C, dm s a v t ld OB, E))) rfl trivial ?_
  refine z_Ev_if (by decide) ?_
  refine z_Ev_blk 5 (c' := (57, [some (aR 0 32), some (aI (0 : Int32)), some (aI (0 : Int32)), some (aI (1 : Int32)), some (aI (0 : Int32)), none], [aI (OB 14)], (C, dm s a v t ld OB, E))) rfl trivial ?_
  rw [h14]
  refine z_Ev_blk 1 (c' := ((if (0 : Int32) = 0 then 60 else 84), [some (aR 0 32), some (aI (0 : Int32)), some (aI (0 : Int32)), some (aI (1 : Int32)), some (aI (0 : Int32)), none], [], (C, dm s a v t ld OB, E))) rfl trivial ?_
  refine z_Ev_if (by decide) ?_
  refine z_Ev_blk 2 (c' := ((if (0 : Int32) = 0 then 65 else 69), [some (aR 0 32), some (aI (0 : Int32)), some (aI (0 : Int32)), some (aI (1 : Int32)), some (aI (0 : Int32)), none], [], (C, dm s a v t ld OB, E))) rfl trivial ?_
  refine z_Ev_if (by decide) ?_
  refine z_Ev_blk 2 (c' := ((if (0 : Int32) = 0 then 69 else 84), [some (aR 0 32), some (aI (0 : Int32)), some (aI (0 : Int32)), some (aI (1 : Int32)), some (aI (0 : Int32)), none], [], (C, dm s a v t ld OB, E))) rfl trivial ?_
  refine z_Ev_if (by decide) ?_
  refine z_Ev_blk 2 (c' := (73, [some (aR 0 32), some (aI (0 : Int32)), some (aI (0 : Int32)), some (aI (1 : Int32)), some (aI (0 : Int32)), none], [aI (OB 13)], (C, dm s a v t ld OB, E))) rfl trivial ?_
  rw [h13]
  refine z_Ev_blk 2 (c' := (77, [some (aR 0 32), some (aI (0 : Int32)), some (aI (0 : Int32)), some (aI (1 : Int32)), some (aI (0 : Int32)), none], [aI (OB 6), aI (nI q)], (C, dm s a v t ld OB, E))) rfl trivial ?_
  rw [h6]
  refine z_Ev_blk 1 (c' := ((if (nI c) ≤ (nI q) then 84 else 80), [some (aR 0 32), some (aI (0 : Int32)), some (aI (0 : Int32)), some (aI (1 : Int32)), some (aI (0 : Int32)), none], [], (C, dm s a v t ld OB, E))) rfl trivial ?_
  refine z_Ev_else (nI_ge hq (by omega)) ?_
  refine z_Ev_blk 5 (c' := ((if (1 : Int32) = 0 then 113 else 90), [some (aR 0 32), some (aI (0 : Int32)), some (aI (0 : Int32)), some (aI (1 : Int32)), some (aI (0 : Int32)), none], [], (C, dm s a v t ld OB, E))) rfl trivial ?_
  refine z_Ev_else (by decide) ?_
  refine z_Ev_blk 3 (c' := (95, [some (aR 0 32), some (aI (0 : Int32)), some (aI (0 : Int32)), some (aI (1 : Int32)), some (aI (0 : Int32)), none], [aI (59 : Int32), aI (59 : Int32), aR 0 32], (C, dm s a v t ld OB, E))) rfl trivial ?_
  refine z_Ev_call0 (m' := m_X5_sign) (as := [aR 0 32, aI (59 : Int32), aI (59 : Int32)]) (r := []) (hS) rfl rfl ?_
  refine z_Ev_blk 3 (c' := (104, [some (aR 0 32), some (aI (0 : Int32)), some (aI (0 : Int32)), some (aI (1 : Int32)), some (aI (0 : Int32)), some (aI y)], [aI (OB2 14)], (C, dm s a v t ld OB2, E))) rfl trivial ?_
  rw [g14]
  refine z_Ev_blk 1 (c' := ((if (1 : Int32) = 0 then 107 else 111), [some (aR 0 32), some (aI (0 : Int32)), some (aI (0 : Int32)), some (aI (1 : Int32)), some (aI (0 : Int32)), some (aI y)], [], (C, dm s a v t ld OB2, E))) rfl trivial ?_
  refine z_Ev_else (by decide) ?_
  refine z_Ev_blk 5 (c' := ((if (0 : Int32) = 0 then 116 else 18), [some (aR 0 32), some (aI (0 : Int32)), some (aI (0 : Int32)), some (aI (0 : Int32)), some (aI (0 : Int32)), some (aI y)], [], (C, dm s a v t ld OB2, E))) rfl trivial ?_
  refine z_Ev_if (by decide) ?_
  refine z_Ev_blk 1 (c' := (117, [some (aR 0 32), some (aI (0 : Int32)), some (aI (0 : Int32)), some (aI (0 : Int32)), some (aI (0 : Int32)), some (aI y)], [aI (0 : Int32)], (C, dm s a v t ld OB2, E))) rfl trivial ?_
  exact z_Ev_iretE rfl rfl (by rfl) (by rfl)
theorem gf_s {xs : Nat → Int32} {L : Nat} {o : z_Rs} {M' : Mem} {kk : Nat} (c q : Nat) (y : Int32) (OB OB2 : Nat → Int32) (C : Nat → Nat → Nat → Int32) (s a v t ld ob : Nat → Int32) (E : Nat → Int64) (hO : z_Mt xs L m_X5_order [aR 0 32] (C, dm s a v t ld ob, E) (.inl none) (C, dm s a v t ld OB, E) 0) (h14 : OB 14 = 0) (h13 : OB 13 = nI q) (h6 : OB 6 = nI c) (hq : q < c) (hc : c ≤ 60) (hS : z_Mt xs L m_X5_sign [aR 0 32, aI 59, aI 59] (C, dm s a v t ld OB, E) (.inl (some (aI y))) (C, dm s a v t ld OB2, E) 0) (g14 : OB2 14 = 0) (K : z_Ev xs L m_X5_go (14, [some (aR 0 32), some (aI (0 : Int32)), some (aI (0 : Int32)), some (aI (1 : Int32)), none, none], [], (C, dm s a v t ld OB2, E)) o M' kk) : z_Ev xs L m_X5_go (14, [some (aR 0 32), some (aI (0 : Int32)), some (aI (0 : Int32)), some (aI (1 : Int32)), none, none], [], (C, dm s a v t ld ob, E)) o M' kk := by
  refine z_Ev_blk 2 (c' := ((if (1 : Int32) = 0 then 116 else 18), [some (aR 0 32), some (aI (0 : Int32)), some (aI (0 : Int32)), some (aI (1 : Int32)), none, none], [], (C, dm s a v t ld ob, E))) rfl trivial ?_
  refine z_Ev_else (by decide) ?_
  refine z_Ev_blk 1 (c' := (19, [some (aR 0 32), some (aI (0 : Int32)), some (aI (0 : Int32)), some (aI (1 : Int32)), none, none], [aR 0 32], (C, dm s a v t ld ob, E))) rfl trivial ?_
  refine z_Ev_call0 (m' := m_X5_order) (as := [aR 0 32]) (r := []) (hO) rfl rfl ?_
  refine z_Ev_blk 2 (c' := ((if (0 : Int32) = 0 then 37 else 26), [some (aR 0 32), some (aI (0 : Int32)), some (aI (0 : Int32)), some (aI (1 : Int32)), none, none], [], (C, dm s a v t ld OB, E))) rfl trivial ?_
  refine z_Ev_if (by decide) ?_
  refine z_Ev_blk 5 (c' := ((if (0 : Int32) = 0 then 50 else 46), [some (aR 0 32), some (aI (0 : Int32)), some (aI (0 : Int32)), some (aI (1 : Int32)), some (aI (0 : Int32)), none], [aI (0 : Int32)], (C, dm s a v t ld OB, E))) rfl trivial ?_
  refine z_Ev_if (by decide) ?_
  refine z_Ev_blk 5 (c' := (57, [some (aR 0 32), some (aI (0 : Int32)), some (aI (0 : Int32)), some (aI (1 : Int32)), some (aI (0 : Int32)), none], [aI (OB 14)], (C, dm s a v t ld OB, E))) rfl trivial ?_
  rw [h14]
  refine z_Ev_blk 1 (c' := ((if (0 : Int32) = 0 then 60 else 84), [some (aR 0 32), some (aI (0 : Int32)), some (aI (0 : Int32)), some (aI (1 : Int32)), some (aI (0 : Int32)), none], [], (C, dm s a v t ld OB, E))) rfl trivial ?_
  refine z_Ev_if (by decide) ?_
  refine z_Ev_blk 2 (c' := ((if (0 : Int32) = 0 then 65 else 69), [some (aR 0 32), some (aI (0 : Int32)), some (aI (0 : Int32)), some (aI (1 : Int32)), some (aI (0 : Int32)), none], [], (C, dm s a v t ld OB, E))) rfl trivial ?_
  refine z_Ev_if (by decide) ?_
  refine z_Ev_blk 2 (c' := ((if (0 : Int32) = 0 then 69 else 84), [some (aR 0 32), some (aI (0 : Int32)), some (aI (0 : Int32)), some (aI (1 : Int32)), some (aI (0 : Int32)), none], [], (C, dm s a v t ld OB, E))) rfl trivial ?_
  refine z_Ev_if (by decide) ?_
  refine z_Ev_blk 2 (c' := (73, [some (aR 0 32), some (aI (0 : Int32)), some (aI (0 : Int32)), some (aI (1 : Int32)), some (aI (0 : Int32)), none], [aI (OB 13)], (C, dm s a v t ld OB, E))) rfl trivial ?_
  rw [h13]
  refine z_Ev_blk 2 (c' := (77, [some (aR 0 32), some (aI (0 : Int32)), some (aI (0 : Int32)), some (aI (1 : Int32)), some (aI (0 : Int32)), none], [aI (OB 6), aI (nI q)], (C, dm s a v t ld OB, E))) rfl trivial ?_
  rw [h6]
  refine z_Ev_blk 1 (c' := ((if (nI c) ≤ (nI q) then 84 else 80), [some (aR 0 32), some (aI (0 : Int32)), some (aI (0 : Int32)), some (aI (1 : Int32)), some (aI (0 : Int32)), none], [], (C, dm s a v t ld OB, E))) rfl trivial ?_
  refine z_Ev_else (nI_ge hq (by omega)) ?_
  refine z_Ev_blk 5 (c' := ((if (1 : Int32) = 0 then 113 else 90), [some (aR 0 32), some (aI (0 : Int32)), some (aI (0 : Int32)), some (aI (1 : Int32)), some (aI (0 : Int32)), none], [], (C, dm s a v t ld OB, E))) rfl trivial ?_
  refine z_Ev_else (by decide) ?_
  refine z_Ev_blk 3 (c' := (95, [some (aR 0 32), some (aI (0 : Int32)), some (aI (0 : Int32)), some (aI (1 : Int32)), some (aI (0 : Int32)), none], [aI (59 : Int32), aI (59 : Int32), aR 0 32], (C, dm s a v t ld OB, E))) rfl trivial ?_
  refine z_Ev_call0 (m' := m_X5_sign) (as := [aR 0 32, aI (59 : Int32), aI (59 : Int32)]) (r := []) (hS) rfl rfl ?_
  refine z_Ev_blk 3 (c' := (104, [some (aR 0 32), some (aI (0 : Int32)), some (aI (0 : Int32)), some (aI (1 : Int32)), some (aI (0 : Int32)), some (aI y)], [aI (OB2 14)], (C, dm s a v t ld OB2, E))) rfl trivial ?_
  rw [g14]
  refine z_Ev_blk 1 (c' := ((if (0 : Int32) = 0 then 107 else 111), [some (aR 0 32), some (aI (0 : Int32)), some (aI (0 : Int32)), some (aI (1 : Int32)), some (aI (0 : Int32)), some (aI y)], [], (C, dm s a v t ld OB2, E))) rfl trivial ?_
  refine z_Ev_if (by decide) ?_
  refine z_Ev_blk 4 (c' := (14, [some (aR 0 32), some (aI (0 : Int32)), some (aI (0 : Int32)), some (aI (1 : Int32)), some (aI (0 : Int32)), some (aI y)], [], (C, dm s a v t ld OB2, E))) rfl trivial ?_
  refine z_Ev_fgt [true, true, true, true, false, false] ?_
  exact K
theorem gt_n {xs : Nat → Int32} {L : Nat} (i : Nat) (OB : Nat → Int32) (C : Nat → Nat → Nat → Int32) (s a v t ld ob : Nat → Int32) (E : Nat → Int64) (hO : z_Mt xs L m_X5_order [aR 0 32] (C, dm s a v t ld ob, E) (.inl none) (C, dm s a v t ld OB, E) 0) (hD : z_Mt xs L m_X5_does [aR 0 32] (C, dm s a v t ld OB, E) (.inl (some (aI 0))) (C, dm s a v t ld OB, E) 0) (h14 : OB 14 = 0) : z_Ev xs L m_X5_go (14, [some (aR 0 32), some (aI (1 : Int32)), some (aI (nI i)), some (aI (1 : Int32)), none, none], [], (C, dm s a v t ld ob, E)) (.inl (some (aI (nI i)))) (C, dm s a v t ld OB, E) 0 := by
  refine z_Ev_blk 2 (c' := ((if (1 : Int32) = 0 then 116 else 18), [some (aR 0 32), some (aI (1 : Int32)), some (aI (nI i)), some (aI (1 : Int32)), none, none], [], (C, dm s a v t ld ob, E))) rfl trivial ?_
  refine z_Ev_else (by decide) ?_
  refine z_Ev_blk 1 (c' := (19, [some (aR 0 32), some (aI (1 : Int32)), some (aI (nI i)), some (aI (1 : Int32)), none, none], [aR 0 32], (C, dm s a v t ld ob, E))) rfl trivial ?_
  refine z_Ev_call0 (m' := m_X5_order) (as := [aR 0 32]) (r := []) (hO) rfl rfl ?_
  refine z_Ev_blk 2 (c' := ((if (1 : Int32) = 0 then 37 else 26), [some (aR 0 32), some (aI (1 : Int32)), some (aI (nI i)), some (aI (1 : Int32)), none, none], [], (C, dm s a v t ld OB, E))) rfl trivial ?_
  refine z_Ev_else (by decide) ?_
  refine z_Ev_blk 1 (c' := (27, [some (aR 0 32), some (aI (1 : Int32)), some (aI (nI i)), some (aI (1 : Int32)), none, none], [aR 0 32], (C, dm s a v t ld OB, E))) rfl trivial ?_
  refine z_Ev_call0 (m' := m_X5_does) (as := [aR 0 32]) (r := []) (hD) rfl rfl ?_
  refine z_Ev_blk 1 (c' := ((if (0 : Int32) = 0 then 37 else 33), [some (aR 0 32), some (aI (1 : Int32)), some (aI (nI i)), some (aI (1 : Int32)), none, none], [], (C, dm s a v t ld OB, E))) rfl trivial ?_
  refine z_Ev_if (by decide) ?_
  refine z_Ev_blk 5 (c' := ((if (0 : Int32) = 0 then 50 else 46), [some (aR 0 32), some (aI (1 : Int32)), some (aI (nI i)), some (aI (1 : Int32)), some (aI (0 : Int32)), none], [aI (nI i)], (C, dm s a v t ld OB, E))) rfl trivial ?_
  refine z_Ev_if (by decide) ?_
  refine z_Ev_blk 5 (c' := (57, [some (aR 0 32), some (aI (1 : Int32)), some (aI ((nI i) + (0 : Int32))), some (aI (1 : Int32)), some (aI (0 : Int32)), none], [aI (OB 14)], (C, dm s a v t ld OB, E))) rfl trivial ?_
  rw [h14]
  refine z_Ev_blk 1 (c' := ((if (0 : Int32) = 0 then 60 else 84), [some (aR 0 32), some (aI (1 : Int32)), some (aI ((nI i) + (0 : Int32))), some (aI (1 : Int32)), some (aI (0 : Int32)), none], [], (C, dm s a v t ld OB, E))) rfl trivial ?_
  refine z_Ev_if (by decide) ?_
  refine z_Ev_blk 2 (c' := ((if (0 : Int32) = 0 then 65 else 69), [some (aR 0 32), some (aI (1 : Int32)), some (aI ((nI i) + (0 : Int32))), some (aI (1 : Int32)), some (aI (0 : Int32)), none], [], (C, dm s a v t ld OB, E))) rfl trivial ?_
  refine z_Ev_if (by decide) ?_
  refine z_Ev_blk 2 (c' := ((if (1 : Int32) = 0 then 69 else 84), [some (aR 0 32), some (aI (1 : Int32)), some (aI ((nI i) + (0 : Int32))), some (aI (1 : Int32)), some (aI (0 : Int32)), none], [], (C, dm s a v t ld OB, E))) rfl trivial ?_
  refine z_Ev_else (by decide) ?_
  refine z_Ev_blk 4 (c' := ((if (0 : Int32) = 0 then 113 else 90), [some (aR 0 32), some (aI (1 : Int32)), some (aI ((nI i) + (0 : Int32))), some (aI (0 : Int32)), some (aI (0 : Int32)), none], [], (C, dm s a v t ld OB, E))) rfl trivial ?_
  refine z_Ev_if (by decide) ?_
  refine z_Ev_blk 3 (c' := ((if (0 : Int32) = 0 then 116 else 18), [some (aR 0 32), some (aI (1 : Int32)), some (aI ((nI i) + (0 : Int32))), some (aI (0 : Int32)), some (aI (0 : Int32)), none], [], (C, dm s a v t ld OB, E))) rfl trivial ?_
  refine z_Ev_if (by decide) ?_
  refine z_Ev_blk 1 (c' := (117, [some (aR 0 32), some (aI (1 : Int32)), some (aI ((nI i) + (0 : Int32))), some (aI (0 : Int32)), some (aI (0 : Int32)), none], [aI ((nI i) + (0 : Int32))], (C, dm s a v t ld OB, E))) rfl trivial ?_
  exact z_Ev_iretE rfl rfl (by exact Int32.add_zero _) (by rfl)
theorem gt_e {xs : Nat → Int32} {L : Nat} (i c : Nat) (N LD OB OD : Nat → Int32) (C : Nat → Nat → Nat → Int32) (s a v t ld ob : Nat → Int32) (E : Nat → Int64) (hO : z_Mt xs L m_X5_order [aR 0 32] (C, dm s a v t ld ob, E) (.inl none) (C, dm s a v t ld OB, E) 0) (hD : z_Mt xs L m_X5_does [aR 0 32] (C, dm s a v t ld OB, E) (.inl (some (aI 1))) (C, dm N a v t LD OD, E) 0) (h14 : OD 14 = 0) (h13 : OD 13 = nI c) (h6 : OD 6 = nI c) : z_Ev xs L m_X5_go (14, [some (aR 0 32), some (aI (1 : Int32)), some (aI (nI i)), some (aI (1 : Int32)), none, none], [], (C, dm s a v t ld ob, E)) (.inl (some (aI (nI (i + 1))))) (C, dm N a v t LD OD, E) 0 := by
  refine z_Ev_blk 2 (c' := ((if (1 : Int32) = 0 then 116 else 18), [some (aR 0 32), some (aI (1 : Int32)), some (aI (nI i)), some (aI (1 : Int32)), none, none], [], (C, dm s a v t ld ob, E))) rfl trivial ?_
  refine z_Ev_else (by decide) ?_
  refine z_Ev_blk 1 (c' := (19, [some (aR 0 32), some (aI (1 : Int32)), some (aI (nI i)), some (aI (1 : Int32)), none, none], [aR 0 32], (C, dm s a v t ld ob, E))) rfl trivial ?_
  refine z_Ev_call0 (m' := m_X5_order) (as := [aR 0 32]) (r := []) (hO) rfl rfl ?_
  refine z_Ev_blk 2 (c' := ((if (1 : Int32) = 0 then 37 else 26), [some (aR 0 32), some (aI (1 : Int32)), some (aI (nI i)), some (aI (1 : Int32)), none, none], [], (C, dm s a v t ld OB, E))) rfl trivial ?_
  refine z_Ev_else (by decide) ?_
  refine z_Ev_blk 1 (c' := (27, [some (aR 0 32), some (aI (1 : Int32)), some (aI (nI i)), some (aI (1 : Int32)), none, none], [aR 0 32], (C, dm s a v t ld OB, E))) rfl trivial ?_
  refine z_Ev_call0 (m' := m_X5_does) (as := [aR 0 32]) (r := []) (hD) rfl rfl ?_
  refine z_Ev_blk 1 (c' := ((if (1 : Int32) = 0 then 37 else 33), [some (aR 0 32), some (aI (1 : Int32)), some (aI (nI i)), some (aI (1 : Int32)), none, none], [], (C, dm N a v t LD OD, E))) rfl trivial ?_
  refine z_Ev_else (by decide) ?_
  refine z_Ev_blk 6 (c' := ((if (1 : Int32) = 0 then 50 else 46), [some (aR 0 32), some (aI (1 : Int32)), some (aI (nI i)), some (aI (1 : Int32)), some (aI (1 : Int32)), none], [aI (nI i)], (C, dm N a v t LD OD, E))) rfl trivial ?_
  refine z_Ev_else (by decide) ?_
  refine z_Ev_blk 6 (c' := (57, [some (aR 0 32), some (aI (1 : Int32)), some (aI ((nI i) + (1 : Int32))), some (aI (1 : Int32)), some (aI (1 : Int32)), none], [aI (OD 14)], (C, dm N a v t LD OD, E))) rfl trivial ?_
  rw [h14]
  refine z_Ev_blk 1 (c' := ((if (0 : Int32) = 0 then 60 else 84), [some (aR 0 32), some (aI (1 : Int32)), some (aI ((nI i) + (1 : Int32))), some (aI (1 : Int32)), some (aI (1 : Int32)), none], [], (C, dm N a v t LD OD, E))) rfl trivial ?_
  refine z_Ev_if (by decide) ?_
  refine z_Ev_blk 2 (c' := ((if (1 : Int32) = 0 then 65 else 69), [some (aR 0 32), some (aI (1 : Int32)), some (aI ((nI i) + (1 : Int32))), some (aI (1 : Int32)), some (aI (1 : Int32)), none], [], (C, dm N a v t LD OD, E))) rfl trivial ?_
  refine z_Ev_else (by decide) ?_
  refine z_Ev_blk 2 (c' := (73, [some (aR 0 32), some (aI (1 : Int32)), some (aI ((nI i) + (1 : Int32))), some (aI (1 : Int32)), some (aI (1 : Int32)), none], [aI (OD 13)], (C, dm N a v t LD OD, E))) rfl trivial ?_
  rw [h13]
  refine z_Ev_blk 2 (c' := (77, [some (aR 0 32), some (aI (1 : Int32)), some (aI ((nI i) + (1 : Int32))), some (aI (1 : Int32)), some (aI (1 : Int32)), none], [aI (OD 6), aI (nI c)], (C, dm N a v t LD OD, E))) rfl trivial ?_
  rw [h6]
  refine z_Ev_blk 1 (c' := ((if (nI c) ≤ (nI c) then 84 else 80), [some (aR 0 32), some (aI (1 : Int32)), some (aI ((nI i) + (1 : Int32))), some (aI (1 : Int32)), some (aI (1 : Int32)), none], [], (C, dm N a v t LD OD, E))) rfl trivial ?_
  refine z_Ev_if (Int32.le_refl _) ?_
  refine z_Ev_blk 4 (c' := ((if (0 : Int32) = 0 then 113 else 90), [some (aR 0 32), some (aI (1 : Int32)), some (aI ((nI i) + (1 : Int32))), some (aI (0 : Int32)), some (aI (1 : Int32)), none], [], (C, dm N a v t LD OD, E))) rfl trivial ?_
  refine z_Ev_if (by decide) ?_
  refine z_Ev_blk 3 (c' := ((if (0 : Int32) = 0 then 116 else 18), [some (aR 0 32), some (aI (1 : Int32)), some (aI ((nI i) + (1 : Int32))), some (aI (0 : Int32)), some (aI (1 : Int32)), none], [], (C, dm N a v t LD OD, E))) rfl trivial ?_
  refine z_Ev_if (by decide) ?_
  refine z_Ev_blk 1 (c' := (117, [some (aR 0 32), some (aI (1 : Int32)), some (aI ((nI i) + (1 : Int32))), some (aI (0 : Int32)), some (aI (1 : Int32)), none], [aI ((nI i) + (1 : Int32))], (C, dm N a v t LD OD, E))) rfl trivial ?_
  exact z_Ev_iretE rfl rfl (by exact nI_1 _) (by rfl)
theorem gt_s {xs : Nat → Int32} {L : Nat} {o : z_Rs} {M' : Mem} {kk : Nat} (i c q : Nat) (y : Int32) (N LD OB OD OB2 : Nat → Int32) (C : Nat → Nat → Nat → Int32) (s a v t ld ob : Nat → Int32) (E : Nat → Int64) (hO : z_Mt xs L m_X5_order [aR 0 32] (C, dm s a v t ld ob, E) (.inl none) (C, dm s a v t ld OB, E) 0) (hD : z_Mt xs L m_X5_does [aR 0 32] (C, dm s a v t ld OB, E) (.inl (some (aI 1))) (C, dm N a v t LD OD, E) 0) (h14 : OD 14 = 0) (h13 : OD 13 = nI q) (h6 : OD 6 = nI c) (hq : q < c) (hc : c ≤ 60) (hS : z_Mt xs L m_X5_sign [aR 0 32, aI 59, aI 59] (C, dm N a v t LD OD, E) (.inl (some (aI y))) (C, dm N a v t LD OB2, E) 0) (g14 : OB2 14 = 0) (K : z_Ev xs L m_X5_go (14, [some (aR 0 32), some (aI (1 : Int32)), some (aI (nI (i + 1))), some (aI (1 : Int32)), none, none], [], (C, dm N a v t LD OB2, E)) o M' kk) : z_Ev xs L m_X5_go (14, [some (aR 0 32), some (aI (1 : Int32)), some (aI (nI i)), some (aI (1 : Int32)), none, none], [], (C, dm s a v t ld ob, E)) o M' kk := by
  refine z_Ev_blk 2 (c' := ((if (1 : Int32) = 0 then 116 else 18), [some (aR 0 32), some (aI (1 : Int32)), some (aI (nI i)), some (aI (1 : Int32)), none, none], [], (C, dm s a v t ld ob, E))) rfl trivial ?_
  refine z_Ev_else (by decide) ?_
  refine z_Ev_blk 1 (c' := (19, [some (aR 0 32), some (aI (1 : Int32)), some (aI (nI i)), some (aI (1 : Int32)), none, none], [aR 0 32], (C, dm s a v t ld ob, E))) rfl trivial ?_
  refine z_Ev_call0 (m' := m_X5_order) (as := [aR 0 32]) (r := []) (hO) rfl rfl ?_
  refine z_Ev_blk 2 (c' := ((if (1 : Int32) = 0 then 37 else 26), [some (aR 0 32), some (aI (1 : Int32)), some (aI (nI i)), some (aI (1 : Int32)), none, none], [], (C, dm s a v t ld OB, E))) rfl trivial ?_
  refine z_Ev_else (by decide) ?_
  refine z_Ev_blk 1 (c' := (27, [some (aR 0 32), some (aI (1 : Int32)), some (aI (nI i)), some (aI (1 : Int32)), none, none], [aR 0 32], (C, dm s a v t ld OB, E))) rfl trivial ?_
  refine z_Ev_call0 (m' := m_X5_does) (as := [aR 0 32]) (r := []) (hD) rfl rfl ?_
  refine z_Ev_blk 1 (c' := ((if (1 : Int32) = 0 then 37 else 33), [some (aR 0 32), some (aI (1 : Int32)), some (aI (nI i)), some (aI (1 : Int32)), none, none], [], (C, dm N a v t LD OD, E))) rfl trivial ?_
  refine z_Ev_else (by decide) ?_
  refine z_Ev_blk 6 (c' := ((if (1 : Int32) = 0 then 50 else 46), [some (aR 0 32), some (aI (1 : Int32)), some (aI (nI i)), some (aI (1 : Int32)), some (aI (1 : Int32)), none], [aI (nI i)], (C, dm N a v t LD OD, E))) rfl trivial ?_
  refine z_Ev_else (by decide) ?_
  refine z_Ev_blk 6 (c' := (57, [some (aR 0 32), some (aI (1 : Int32)), some (aI ((nI i) + (1 : Int32))), some (aI (1 : Int32)), some (aI (1 : Int32)), none], [aI (OD 14)], (C, dm N a v t LD OD, E))) rfl trivial ?_
  rw [h14]
  refine z_Ev_blk 1 (c' := ((if (0 : Int32) = 0 then 60 else 84), [some (aR 0 32), some (aI (1 : Int32)), some (aI ((nI i) + (1 : Int32))), some (aI (1 : Int32)), some (aI (1 : Int32)), none], [], (C, dm N a v t LD OD, E))) rfl trivial ?_
  refine z_Ev_if (by decide) ?_
  refine z_Ev_blk 2 (c' := ((if (1 : Int32) = 0 then 65 else 69), [some (aR 0 32), some (aI (1 : Int32)), some (aI ((nI i) + (1 : Int32))), some (aI (1 : Int32)), some (aI (1 : Int32)), none], [], (C, dm N a v t LD OD, E))) rfl trivial ?_
  refine z_Ev_else (by decide) ?_
  refine z_Ev_blk 2 (c' := (73, [some (aR 0 32), some (aI (1 : Int32)), some (aI ((nI i) + (1 : Int32))), some (aI (1 : Int32)), some (aI (1 : Int32)), none], [aI (OD 13)], (C, dm N a v t LD OD, E))) rfl trivial ?_
  rw [h13]
  refine z_Ev_blk 2 (c' := (77, [some (aR 0 32), some (aI (1 : Int32)), some (aI ((nI i) + (1 : Int32))), some (aI (1 : Int32)), some (aI (1 : Int32)), none], [aI (OD 6), aI (nI q)], (C, dm N a v t LD OD, E))) rfl trivial ?_
  rw [h6]
  refine z_Ev_blk 1 (c' := ((if (nI c) ≤ (nI q) then 84 else 80), [some (aR 0 32), some (aI (1 : Int32)), some (aI ((nI i) + (1 : Int32))), some (aI (1 : Int32)), some (aI (1 : Int32)), none], [], (C, dm N a v t LD OD, E))) rfl trivial ?_
  refine z_Ev_else (nI_ge hq (by omega)) ?_
  refine z_Ev_blk 5 (c' := ((if (1 : Int32) = 0 then 113 else 90), [some (aR 0 32), some (aI (1 : Int32)), some (aI ((nI i) + (1 : Int32))), some (aI (1 : Int32)), some (aI (1 : Int32)), none], [], (C, dm N a v t LD OD, E))) rfl trivial ?_
  refine z_Ev_else (by decide) ?_
  refine z_Ev_blk 3 (c' := (95, [some (aR 0 32), some (aI (1 : Int32)), some (aI ((nI i) + (1 : Int32))), some (aI (1 : Int32)), some (aI (1 : Int32)), none], [aI (59 : Int32), aI (59 : Int32), aR 0 32], (C, dm N a v t LD OD, E))) rfl trivial ?_
  refine z_Ev_call0 (m' := m_X5_sign) (as := [aR 0 32, aI (59 : Int32), aI (59 : Int32)]) (r := []) (hS) rfl rfl ?_
  refine z_Ev_blk 3 (c' := (104, [some (aR 0 32), some (aI (1 : Int32)), some (aI ((nI i) + (1 : Int32))), some (aI (1 : Int32)), some (aI (1 : Int32)), some (aI y)], [aI (OB2 14)], (C, dm N a v t LD OB2, E))) rfl trivial ?_
  rw [g14]
  refine z_Ev_blk 1 (c' := ((if (0 : Int32) = 0 then 107 else 111), [some (aR 0 32), some (aI (1 : Int32)), some (aI ((nI i) + (1 : Int32))), some (aI (1 : Int32)), some (aI (1 : Int32)), some (aI y)], [], (C, dm N a v t LD OB2, E))) rfl trivial ?_
  refine z_Ev_if (by decide) ?_
  refine z_Ev_blk 4 (c' := (14, [some (aR 0 32), some (aI (1 : Int32)), some (aI ((nI i) + (1 : Int32))), some (aI (1 : Int32)), some (aI (1 : Int32)), some (aI y)], [], (C, dm N a v t LD OB2, E))) rfl trivial ?_
  refine z_Ev_fgt [true, true, true, true, false, false] ?_
  rw [nI_1]
  exact K
theorem go_beg_0 {xs : Nat → Int32} {L : Nat} {o : z_Rs} {M' : Mem} {kk : Nat} (C : Nat → Nat → Nat → Int32) (s a v t ld ob : Nat → Int32) (E : Nat → Int64) (K : z_Ev xs L m_X5_go (14, [some (aR 0 32), some (aI (0 : Int32)), some (aI (0 : Int32)), some (aI (1 : Int32)), none, none], [], (C, dm s a v t ld (upd (upd ob 13 0) 14 0), E)) o M' kk) : z_Ev xs L m_X5_go (0, [some (aR 0 32), some (aI (0 : Int32)), none, none, none, none], [], (C, dm s a v t ld ob, E)) o M' kk := by
  refine z_Ev_blk 3 (c' := (5, [some (aR 0 32), some (aI (0 : Int32)), none, none, none, none], [], (C, up2 (dm s a v t ld ob) 32 13 (0 : Int32), E))) rfl trivial ?_
  rw [dm_32]
  refine z_Ev_blk 3 (c' := (10, [some (aR 0 32), some (aI (0 : Int32)), none, none, none, none], [], (C, up2 (dm s a v t ld (upd ob 13 (0 : Int32))) 32 14 (0 : Int32), E))) rfl ⟨rfl, trivial⟩ ?_
  rw [dm_32]
  refine z_Ev_blk 4 (c' := (14, [some (aR 0 32), some (aI (0 : Int32)), some (aI (0 : Int32)), some (aI (1 : Int32)), none, none], [], (C, dm s a v t ld (upd (upd ob 13 (0 : Int32)) 14 (0 : Int32)), E))) rfl trivial ?_
  exact K
theorem go_beg_1 {xs : Nat → Int32} {L : Nat} {o : z_Rs} {M' : Mem} {kk : Nat} (C : Nat → Nat → Nat → Int32) (s a v t ld ob : Nat → Int32) (E : Nat → Int64) (K : z_Ev xs L m_X5_go (14, [some (aR 0 32), some (aI (1 : Int32)), some (aI (0 : Int32)), some (aI (1 : Int32)), none, none], [], (C, dm s a v t ld (upd (upd ob 13 0) 14 0), E)) o M' kk) : z_Ev xs L m_X5_go (0, [some (aR 0 32), some (aI (1 : Int32)), none, none, none, none], [], (C, dm s a v t ld ob, E)) o M' kk := by
  refine z_Ev_blk 3 (c' := (5, [some (aR 0 32), some (aI (1 : Int32)), none, none, none, none], [], (C, up2 (dm s a v t ld ob) 32 13 (0 : Int32), E))) rfl trivial ?_
  rw [dm_32]
  refine z_Ev_blk 3 (c' := (10, [some (aR 0 32), some (aI (1 : Int32)), none, none, none, none], [], (C, up2 (dm s a v t ld (upd ob 13 (0 : Int32))) 32 14 (0 : Int32), E))) rfl ⟨rfl, trivial⟩ ?_
  rw [dm_32]
  refine z_Ev_blk 4 (c' := (14, [some (aR 0 32), some (aI (1 : Int32)), some (aI (0 : Int32)), some (aI (1 : Int32)), none, none], [], (C, dm s a v t ld (upd (upd ob 13 (0 : Int32)) 14 (0 : Int32)), E))) rfl trivial ?_
  exact K
/-- the model goes through the text: wrong, and where -/
def gfF (t : Nat → Int32) (c : Nat) : Nat → Nat → Bool × Nat
  | 0, p => (true, p)
  | f + 1, p => match moF t c p with
    | .inl e => (true, e)
    | .inr q => if q.2.2.2 < c then (if t q.2.2.2 = 59 then gfF t c f (q.2.2.2 + 1) else (true, q.2.2.2)) else (false, q.2.2.2)
def opsF (t : Nat → Int32) (c : Nat) : Nat → Nat → List (Int32 × (Int32 × Int32))
  | 0, _ => []
  | f + 1, p => match moF t c p with
    | .inl _ => []
    | .inr q => (q.1, q.2.1, q.2.2.1) :: (if q.2.2.2 < c then opsF t c f (q.2.2.2 + 1) else [])
def exL : List (Int32 × (Int32 × Int32)) → (Nat → Int32) → Nat × (Nat → Int32)
  | [], s => (0, s)
  | q :: r, s => match oS s q.1 q.2.1 q.2.2 with
    | none => (0, s)
    | some N => ((exL r N).1 + 1, (exL r N).2)
theorem moF_le {t : Nat → Int32} {c p : Nat} (hp : p ≤ c) : (∀ e, moF t c p = .inl e → e ≤ c) ∧ (∀ q, moF t c p = .inr q → p < q.2.2.2 ∧ q.2.2.2 ≤ c) := by
  unfold moF
  by_cases h : p < c
  · rw [if_neg (fun z => z h)]
    by_cases q1 : t p = 43 ∨ t p = 45
    · rw [if_pos q1]
      by_cases z : p + 1 < c ∧ 48 ≤ t (p + 1) ∧ t (p + 1) ≤ 51
      · rw [if_pos z]
        exact ⟨fun e y => (by cases y), fun q y => by cases y; dsimp only; omega⟩
      · rw [if_neg z]
        exact ⟨fun e y => by cases y; omega, fun q y => by cases y⟩
    rw [if_neg q1]
    by_cases q2 : t p = 115
    · rw [if_pos q2]
      exact ⟨fun e y => (by cases y), fun q y => by cases y; dsimp only; omega⟩
    rw [if_neg q2]
    by_cases q3 : t p = 104
    · rw [if_pos q3]
      cases hn : nmF t c 1 48 (p + 1) with
      | none => exact ⟨fun e y => by cases y; omega, fun q y => by cases y⟩
      | some r =>
        have := nmF_le hn
        exact ⟨fun e y => (by cases y), fun q y => by cases y; dsimp only; omega⟩
    rw [if_neg q3]
    by_cases q4 : t p = 102
    · rw [if_pos q4]
      cases hn : nmF t c 0 47 (p + 1) with
      | none => exact ⟨fun e y => by cases y; omega, fun q y => by cases y⟩
      | some r =>
        have hr := nmF_le hn
        dsimp only
        by_cases z : r.2 < c ∧ t r.2 = 61
        · rw [if_pos z]
          cases hn2 : nmF t c 0 1500 (r.2 + 1) with
          | none => exact ⟨fun e y => by cases y; omega, fun q y => by cases y⟩
          | some w =>
            have := nmF_le hn2
            exact ⟨fun e y => (by cases y), fun q y => by cases y; dsimp only; omega⟩
        · rw [if_neg z]
          exact ⟨fun e y => by cases y; exact hr.2, fun q y => by cases y⟩
    rw [if_neg q4]
    exact ⟨fun e y => by cases y; exact hp, fun q y => by cases y⟩
  · rw [if_pos h]
    exact ⟨fun e y => by cases y; exact hp, fun q y => by cases y⟩
theorem n_goF {xs : Nat → Int32} {L : Nat} (c : Nat) (C : Nat → Nat → Nat → Int32) (s a v t ld : Nat → Int32) (E : Nat → Int64) (hc : c ≤ 60) : ∀ (f p : Nat) (ob : Nat → Int32), c < p + f → p ≤ c → ob 6 = nI c → ob 13 = nI p → ob 14 = 0 → ∃ OB : Nat → Int32, OB 13 = nI (gfF t c f p).2 ∧ OB 14 = (bif (gfF t c f p).1 then 1 else 0) ∧ (∀ k, k < 13 → OB k = ob k) ∧ z_Ev xs L m_X5_go (14, [some (aR 0 32), some (aI 0), some (aI 0), some (aI 1), none, none], [], (C, dm s a v t ld ob, E)) (.inl (some (aI 0))) (C, dm s a v t ld OB, E) 0 := by
  intro f
  induction f with
  | zero => intro p ob h1 h2; omega
  | succ f ih =>
    intro p ob h1 hp h6 h13 h14
    have hO := n_order (xs := xs) (L := L) p c C s a v t ld ob E h6 h13 hc hp h14
    have hle := moF_le (t := t) hp
    unfold gfF
    cases hm : moF t c p with
    | inl e =>
      rw [hm] at hO
      obtain ⟨OB, g1, g2, g3, hO⟩ := hO
      exact ⟨OB, g1, g2, g3, gf_w OB C s a v t ld ob E hO g2⟩
    | inr q =>
      rw [hm] at hO
      obtain ⟨OB, g1, g2, -, -, -, g3, hO⟩ := hO
      have hq := hle.2 q hm
      have g6 : OB 6 = nI c := (g3 6 (by decide)).trans h6
      dsimp only
      by_cases z : q.2.2.2 < c
      · rw [if_pos z]
        obtain ⟨r1, r2⟩ := n_sign (xs := xs) (L := L) q.2.2.2 c 59 59 C s a v t ld OB E g6 g1 hc hq.2 g2 (by decide)
        by_cases y : t q.2.2.2 = 59
        · rw [if_pos y]
          have hS := r1 ⟨z, by rw [y]; exact Int32.le_refl _, by rw [y]; exact Int32.le_refl _⟩
          obtain ⟨OB3, f1, f2, f3, K⟩ := ih (q.2.2.2 + 1) (upd (upd OB 14 0) 13 (nI (q.2.2.2 + 1))) (by omega) (by omega) g6 rfl rfl
          exact ⟨OB3, f1, f2, fun k hk => (f3 k hk).trans ((o13 (z := 0) hk (by decide) (by decide)).trans (g3 k hk)), gf_s c q.2.2.2 _ OB _ C s a v t ld ob E hO g2 g1 g6 z hc hS rfl K⟩
        · rw [if_neg y]
          obtain ⟨w, hS⟩ := r2 (fun x => y (Int32.toInt_inj.mp (by
            have a1 := i_le.mp x.2.1
            have a2 := i_le.mp x.2.2
            omega)))
          exact ⟨_, rfl, rfl, fun k hk => (o13 (z := 0) hk (by decide) (by decide)).trans (g3 k hk), gf_b c q.2.2.2 w OB _ C s a v t ld ob E hO g2 g1 g6 z hc hS rfl⟩
      · rw [if_neg z]
        have e : q.2.2.2 = c := by omega
        rw [e] at g1 ⊢
        exact ⟨OB, g1, g2, g3, gf_e c OB C s a v t ld ob E hO g2 g1 g6⟩
theorem oS_V {s N : Nat → Int32} {H : Nat} {c one two : Int32} (hV : Vs s H) (hK : ordK c one two) (h : oS s c one two = some N) : ∃ H', Vs N H' := by
  rcases hK with ⟨hc, ho⟩ | hc | ⟨hc, x, h1, h2, ho⟩ | ⟨hc, g, hg, ho, w1, w2⟩
  · have hk : one.toNatClampNeg < 4 := by rcases ho with e | e | e | e <;> subst e <;> decide
    rcases hc with hc | hc <;> subst hc
    · have e : oS s 43 one two = if s (16 + one.toNatClampNeg) = 0 then some (bgF s one.toNatClampNeg) else none := rfl
      rw [e] at h
      by_cases q : s (16 + one.toNatClampNeg) = 0
      · rw [if_pos q] at h; cases h; exact ⟨H, Vs_bg hV hk⟩
      · rw [if_neg q] at h; cases h
    · have e : oS s 45 one two = if s (16 + one.toNatClampNeg) = 1 ∨ s (16 + one.toNatClampNeg) = 2 then some (stF s one.toNatClampNeg) else none := rfl
      rw [e] at h
      by_cases q : s (16 + one.toNatClampNeg) = 1 ∨ s (16 + one.toNatClampNeg) = 2
      · rw [if_pos q] at h; cases h; exact ⟨H, Vs_st hV hk⟩
      · rw [if_neg q] at h; cases h
  · subst hc
    rw [oS_s] at h
    cases h
    exact ⟨H, Vs_shed hV⟩
  · subst hc
    subst ho
    rw [oS_h hV.2.1.1 hV.2.1.2 h2] at h
    by_cases q : H + x ≤ 48
    · rw [if_pos q] at h; cases h; exact ⟨H + x, Vs_goM x hV q⟩
    · rw [if_neg q] at h; cases h
  · subst hc
    subst ho
    rw [oS_f hg] at h
    cases h
    exact ⟨H, Vs_up hV (Or.inr (Or.inr (Or.inr (by omega)))) ⟨fun z => by omega, fun z => by omega, fun z => by omega, fun _ => ⟨w1, w2⟩⟩⟩
theorem n_goT {xs : Nat → Int32} {L : Nat} (c : Nat) (C : Nat → Nat → Nat → Int32) (a v t : Nat → Int32) (E : Nat → Int64) (hc : c ≤ 60) : ∀ (f p i H : Nat) (s ld ob : Nat → Int32), c < p + f → p ≤ c → (gfF t c f p).1 = false → Vs s H → (∀ q, q ∈ opsF t c f p → ordK q.1 q.2.1 q.2.2) → ob 6 = nI c → ob 13 = nI p → ob 14 = 0 → ∃ LD OB : Nat → Int32, (∀ k, k < 8 → OB k = ob k) ∧ z_Ev xs L m_X5_go (14, [some (aR 0 32), some (aI 1), some (aI (nI i)), some (aI 1), none, none], [], (C, dm s a v t ld ob, E)) (.inl (some (aI (nI (i + (exL (opsF t c f p) s).1))))) (C, dm (exL (opsF t c f p) s).2 a v t LD OB, E) 0 := by
  intro f
  induction f with
  | zero => intro p i H s ld ob h1 h2; omega
  | succ f ih =>
    intro p i H s ld ob h1 hp hg hV hK h6 h13 h14
    have hO := n_order (xs := xs) (L := L) p c C s a v t ld ob E h6 h13 hc hp h14
    have hle := moF_le (t := t) hp
    unfold gfF at hg
    unfold opsF at hK ⊢
    cases hm : moF t c p with
    | inl e => rw [hm] at hg; cases hg
    | inr q =>
      rw [hm] at hO hg hK
      dsimp only at hg hK ⊢
      obtain ⟨OB, g1, g2, e15, e16, e17, g3, hO⟩ := hO
      have hq := hle.2 q hm
      have g6 : OB 6 = nI c := (g3 6 (by decide)).trans h6
      have hKq := hK _ (List.mem_cons_self ..)
      have hD := n_does (xs := xs) (L := L) H q.1 q.2.1 q.2.2.1 C s a v t ld OB E hV hKq e15 e16 e17
      unfold exL
      dsimp only
      cases ho : oS s q.1 q.2.1 q.2.2.1 with
      | none =>
        rw [ho] at hD
        exact ⟨ld, OB, fun k hk => g3 k (by omega), gt_n i OB C s a v t ld ob E hO hD g2⟩
      | some N =>
        rw [ho] at hD
        obtain ⟨LD, OD, kd, hD⟩ := hD
        obtain ⟨H', hV'⟩ := oS_V hV hKq ho
        have d14 : OD 14 = 0 := (kd 14 (by decide)).trans g2
        have d13 : OD 13 = nI q.2.2.2 := (kd 13 (by decide)).trans g1
        have d6 : OD 6 = nI c := (kd 6 (by decide)).trans g6
        dsimp only
        by_cases z : q.2.2.2 < c
        · rw [if_pos z] at hg hK ⊢
          by_cases y : t q.2.2.2 = 59
          · rw [if_pos y] at hg
            obtain ⟨r1, -⟩ := n_sign (xs := xs) (L := L) q.2.2.2 c 59 59 C N a v t LD OD E d6 d13 hc hq.2 d14 (by decide)
            have hS := r1 ⟨z, by rw [y]; exact Int32.le_refl _, by rw [y]; exact Int32.le_refl _⟩
            obtain ⟨LD2, OB2, f3, K⟩ := ih (q.2.2.2 + 1) (i + 1) H' N LD (upd (upd OD 14 0) 13 (nI (q.2.2.2 + 1))) (by omega) (by omega) hg hV' (fun r hr => hK r (List.mem_cons_of_mem _ hr)) d6 rfl rfl
            refine ⟨LD2, OB2, fun k hk => (f3 k hk).trans ((o13 (z := 0) (by omega) (by decide) (by decide)).trans ((kd k (Or.inl hk)).trans (g3 k (by omega)))), ?_⟩
            rw [show i + ((exL (opsF t c f (q.2.2.2 + 1)) N).1 + 1) = i + 1 + (exL (opsF t c f (q.2.2.2 + 1)) N).1 by omega]
            exact gt_s i c q.2.2.2 _ N LD OB OD _ C s a v t ld ob E hO hD d14 d13 d6 z hc hS rfl K
          · rw [if_neg y] at hg; cases hg
        · rw [if_neg z]
          have e : q.2.2.2 = c := by omega
          rw [e] at d13
          exact ⟨LD, OD, fun k hk => (kd k (Or.inl hk)).trans (g3 k (by omega)), gt_e i c N LD OB OD C s a v t ld ob E hO hD d14 d13 d6⟩
