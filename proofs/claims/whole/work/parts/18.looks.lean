/-! THE MODEL: looks at the hour of now -/
theorem E_share {xs : Nat → Int32} {L : Nat} (all mask : Int32) (hm : mask ∈ m16) (C : Nat → Nat → Nat → Int32) (s a v t ld ob : Nat → Int32) (E : Nat → Int64) : z_Mt xs L m_X5_share [aR 0 32, aI all, aI mask] (C, dm s a v t ld ob, E) (.inl none) (C, dm s a v t (sGv (md g0 s) all mask ld).1 (sOb (md g0 s) all mask ld ob), E) 0 := by
  have q := e_share (xs := xs) (L := L) all mask hm C (md (dm s a v t ld ob) s) ld ob E
  rw [dm_mk, sGv_md, sOb_md, dm_mk] at q
  exact q
theorem E_load {xs : Nat → Int32} {L : Nat} (h : Int32) (hi : z_inb (40 + h) 376 = true) (C : Nat → Nat → Nat → Int32) (s a v t ld ob : Nat → Int32) (E : Nat → Int64) : z_Mt xs L m_X5_loadOf [aR 0 32, aI h] (C, dm s a v t ld ob, E) (.inl (some (aI (lodF s h)))) (C, dm s a v t ld ob, E) 0 := by
  have q := e_mLoad (xs := xs) (L := L) h hi C (dm s a v t ld ob) s ld ob E
  rw [dm_mk] at q
  exact q
def nowF (s : Nat → Int32) : Int32 := if s 34 = 48 then 47 else s 34
def runF (s : Nat → Int32) : Int32 := mkF (fun j => s (16 + j)) 2
theorem nowF_in {s : Nat → Int32} {H : Nat} (hs : s 34 = nI H) (hH : H ≤ 48) : z_inb (40 + nowF s) 376 = true := by
  unfold nowF
  split
  · rfl
  · rw [hs]; exact hrA (c := 40) 40 rfl (by omega) (by decide)
def nLd (s ld : Nat → Int32) : Nat → Int32 := (sGv (md g0 s) (lodF s (nowF s)) (runF s) ld).1
def nOb (s ld ob : Nat → Int32) : Nat → Int32 := sOb (md g0 s) (lodF s (nowF s)) (runF s) ld ob

theorem m_shareNow {xs : Nat → Int32} {L : Nat}  (C : Nat → Nat → Nat → Int32) (s a v t ld ob : Nat → Int32) (E : Nat → Int64) {H : Nat} (hs : s 34 = nI H) (hH : H ≤ 48) : z_Mt xs L m_X5_shareNow [aR 0 32] (C, dm s a v t ld ob, E) (.inl (none)) (C, dm s a v t (nLd s ld) (nOb s ld ob), E) 0 := by
  refine z_Ev_blk 3 (c' := (3, [some (aR 0 32)], [aR 0 32, aR 0 32, aR 0 32], (C, dm s a v t ld ob, E))) rfl trivial ?_
  refine z_Ev_call0 (m' := m_X5_now) (as := [aR 0 32]) (r := [aR 0 32, aR 0 32]) (m_now C s a v t ld ob E) rfl rfl ?_
  refine z_Ev_call0 (m' := m_X5_loadOf) (as := [aR 0 32, aI (nowF s)]) (r := [aR 0 32]) (E_load (nowF s) (nowF_in hs hH) C s a v t ld ob E) rfl rfl ?_
  refine z_Ev_blk 1 (c' := (10, [some (aR 0 32)], [aR 0 32, aI (lodF s (nowF s)), aR 0 32], (C, dm s a v t ld ob, E))) rfl trivial ?_
  refine z_Ev_call0 (m' := m_X5_running) (as := [aR 0 32]) (r := [aI (lodF s (nowF s)), aR 0 32]) ((e_running C (dm s a v t ld ob) E)) rfl rfl ?_
  refine z_Ev_call0 (m' := m_X5_share) (as := [aR 0 32, aI (lodF s (nowF s)), aI (runF s)]) (r := []) (E_share (lodF s (nowF s)) (runF s) (mkF_m _ _) C s a v t ld ob E) rfl rfl ?_
  exact z_Ev_vretE rfl rfl (by rfl)
theorem m_toldOf_0_0 {xs : Nat → Int32} {L : Nat}  (C : Nat → Nat → Nat → Int32) (s a v t ld ob : Nat → Int32) (E : Nat → Int64)  : z_Mt xs L m_X5_toldOf [aR 0 32, aI (0 : Int32), aI (0 : Int32)] (C, dm s a v t ld ob, E) (.inl (some (aI (s 0)))) (C, dm s a v t ld ob, E) 0 := by
  refine z_Ev_blk 3 (c' := ((if (0 : Int32) = (6 : Int32) then 6 else 17), [some (aR 0 32), some (aI (0 : Int32)), some (aI (0 : Int32))], [], (C, dm s a v t ld ob, E))) rfl trivial ?_
  refine z_Ev_else (by decide) ?_
  refine z_Ev_blk 5 (c' := ((if (6 : Int32) ≤ (0 : Int32) then 35 else 27), [some (aR 0 32), some (aI (0 : Int32)), some (aI (0 : Int32))], [aR 0 33], (C, dm s a v t ld ob, E))) rfl trivial ?_
  refine z_Ev_else (by decide) ?_
  refine z_Ev_blk 9 (c' := (47, [some (aR 0 32), some (aI (0 : Int32)), some (aI (0 : Int32))], [aI (s 0)], (C, dm s a v t ld ob, E))) rfl ⟨rfl, trivial⟩ ?_
  exact z_Ev_iretE rfl rfl (by rfl) (by rfl)
theorem m_toldOf_0_1 {xs : Nat → Int32} {L : Nat}  (C : Nat → Nat → Nat → Int32) (s a v t ld ob : Nat → Int32) (E : Nat → Int64)  : z_Mt xs L m_X5_toldOf [aR 0 32, aI (0 : Int32), aI (1 : Int32)] (C, dm s a v t ld ob, E) (.inl (some (aI (s 4)))) (C, dm s a v t ld ob, E) 0 := by
  refine z_Ev_blk 3 (c' := ((if (1 : Int32) = (6 : Int32) then 6 else 17), [some (aR 0 32), some (aI (0 : Int32)), some (aI (1 : Int32))], [], (C, dm s a v t ld ob, E))) rfl trivial ?_
  refine z_Ev_else (by decide) ?_
  refine z_Ev_blk 5 (c' := ((if (6 : Int32) ≤ (1 : Int32) then 35 else 27), [some (aR 0 32), some (aI (0 : Int32)), some (aI (1 : Int32))], [aR 0 33], (C, dm s a v t ld ob, E))) rfl trivial ?_
  refine z_Ev_else (by decide) ?_
  refine z_Ev_blk 9 (c' := (47, [some (aR 0 32), some (aI (0 : Int32)), some (aI (1 : Int32))], [aI (s 4)], (C, dm s a v t ld ob, E))) rfl ⟨rfl, trivial⟩ ?_
  exact z_Ev_iretE rfl rfl (by rfl) (by rfl)
theorem m_toldOf_0_2 {xs : Nat → Int32} {L : Nat}  (C : Nat → Nat → Nat → Int32) (s a v t ld ob : Nat → Int32) (E : Nat → Int64)  : z_Mt xs L m_X5_toldOf [aR 0 32, aI (0 : Int32), aI (2 : Int32)] (C, dm s a v t ld ob, E) (.inl (some (aI (s 8)))) (C, dm s a v t ld ob, E) 0 := by
  refine z_Ev_blk 3 (c' := ((if (2 : Int32) = (6 : Int32) then 6 else 17), [some (aR 0 32), some (aI (0 : Int32)), some (aI (2 : Int32))], [], (C, dm s a v t ld ob, E))) rfl trivial ?_
  refine z_Ev_else (by decide) ?_
  refine z_Ev_blk 5 (c' := ((if (6 : Int32) ≤ (2 : Int32) then 35 else 27), [some (aR 0 32), some (aI (0 : Int32)), some (aI (2 : Int32))], [aR 0 33], (C, dm s a v t ld ob, E))) rfl trivial ?_
  refine z_Ev_else (by decide) ?_
  refine z_Ev_blk 9 (c' := (47, [some (aR 0 32), some (aI (0 : Int32)), some (aI (2 : Int32))], [aI (s 8)], (C, dm s a v t ld ob, E))) rfl ⟨rfl, trivial⟩ ?_
  exact z_Ev_iretE rfl rfl (by rfl) (by rfl)
theorem m_toldOf_0_3 {xs : Nat → Int32} {L : Nat}  (C : Nat → Nat → Nat → Int32) (s a v t ld ob : Nat → Int32) (E : Nat → Int64)  : z_Mt xs L m_X5_toldOf [aR 0 32, aI (0 : Int32), aI (3 : Int32)] (C, dm s a v t ld ob, E) (.inl (some (aI (s 12)))) (C, dm s a v t ld ob, E) 0 := by
  refine z_Ev_blk 3 (c' := ((if (3 : Int32) = (6 : Int32) then 6 else 17), [some (aR 0 32), some (aI (0 : Int32)), some (aI (3 : Int32))], [], (C, dm s a v t ld ob, E))) rfl trivial ?_
  refine z_Ev_else (by decide) ?_
  refine z_Ev_blk 5 (c' := ((if (6 : Int32) ≤ (3 : Int32) then 35 else 27), [some (aR 0 32), some (aI (0 : Int32)), some (aI (3 : Int32))], [aR 0 33], (C, dm s a v t ld ob, E))) rfl trivial ?_
  refine z_Ev_else (by decide) ?_
  refine z_Ev_blk 9 (c' := (47, [some (aR 0 32), some (aI (0 : Int32)), some (aI (3 : Int32))], [aI (s 12)], (C, dm s a v t ld ob, E))) rfl ⟨rfl, trivial⟩ ?_
  exact z_Ev_iretE rfl rfl (by rfl) (by rfl)
theorem m_toldOf_0_4 {xs : Nat → Int32} {L : Nat}  (C : Nat → Nat → Nat → Int32) (s a v t ld ob : Nat → Int32) (E : Nat → Int64)  : z_Mt xs L m_X5_toldOf [aR 0 32, aI (0 : Int32), aI (4 : Int32)] (C, dm s a v t ld ob, E) (.inl (some (aI (s 16)))) (C, dm s a v t ld ob, E) 0 := by
  refine z_Ev_blk 3 (c' := ((if (4 : Int32) = (6 : Int32) then 6 else 17), [some (aR 0 32), some (aI (0 : Int32)), some (aI (4 : Int32))], [], (C, dm s a v t ld ob, E))) rfl trivial ?_
  refine z_Ev_else (by decide) ?_
  refine z_Ev_blk 5 (c' := ((if (6 : Int32) ≤ (4 : Int32) then 35 else 27), [some (aR 0 32), some (aI (0 : Int32)), some (aI (4 : Int32))], [aR 0 33], (C, dm s a v t ld ob, E))) rfl trivial ?_
  refine z_Ev_else (by decide) ?_
  refine z_Ev_blk 9 (c' := (47, [some (aR 0 32), some (aI (0 : Int32)), some (aI (4 : Int32))], [aI (s 16)], (C, dm s a v t ld ob, E))) rfl ⟨rfl, trivial⟩ ?_
  exact z_Ev_iretE rfl rfl (by rfl) (by rfl)
theorem m_toldOf_0_5 {xs : Nat → Int32} {L : Nat}  (C : Nat → Nat → Nat → Int32) (s a v t ld ob : Nat → Int32) (E : Nat → Int64)  : z_Mt xs L m_X5_toldOf [aR 0 32, aI (0 : Int32), aI (5 : Int32)] (C, dm s a v t ld ob, E) (.inl (some (aI (s 20)))) (C, dm s a v t ld ob, E) 0 := by
  refine z_Ev_blk 3 (c' := ((if (5 : Int32) = (6 : Int32) then 6 else 17), [some (aR 0 32), some (aI (0 : Int32)), some (aI (5 : Int32))], [], (C, dm s a v t ld ob, E))) rfl trivial ?_
  refine z_Ev_else (by decide) ?_
  refine z_Ev_blk 5 (c' := ((if (6 : Int32) ≤ (5 : Int32) then 35 else 27), [some (aR 0 32), some (aI (0 : Int32)), some (aI (5 : Int32))], [aR 0 33], (C, dm s a v t ld ob, E))) rfl trivial ?_
  refine z_Ev_else (by decide) ?_
  refine z_Ev_blk 9 (c' := (47, [some (aR 0 32), some (aI (0 : Int32)), some (aI (5 : Int32))], [aI (s 20)], (C, dm s a v t ld ob, E))) rfl ⟨rfl, trivial⟩ ?_
  exact z_Ev_iretE rfl rfl (by rfl) (by rfl)
theorem m_toldOf_0_6 {xs : Nat → Int32} {L : Nat}  (C : Nat → Nat → Nat → Int32) (s a v t ld ob : Nat → Int32) (E : Nat → Int64) {H : Nat} (hs : s 34 = nI H) (hH : H ≤ 48) : z_Mt xs L m_X5_toldOf [aR 0 32, aI (0 : Int32), aI (6 : Int32)] (C, dm s a v t ld ob, E) (.inl (some (aI (nLd s ld 0)))) (C, dm s a v t (nLd s ld) (nOb s ld ob), E) 0 := by
  refine z_Ev_blk 3 (c' := ((if (6 : Int32) = (6 : Int32) then 6 else 17), [some (aR 0 32), some (aI (0 : Int32)), some (aI (6 : Int32))], [], (C, dm s a v t ld ob, E))) rfl trivial ?_
  refine z_Ev_if (by decide) ?_
  refine z_Ev_blk 1 (c' := (7, [some (aR 0 32), some (aI (0 : Int32)), some (aI (6 : Int32))], [aR 0 32], (C, dm s a v t ld ob, E))) rfl trivial ?_
  refine z_Ev_call0 (m' := m_X5_shareNow) (as := [aR 0 32]) (r := []) (m_shareNow C s a v t ld ob E hs hH) rfl rfl ?_
  generalize nLd s ld = LD
  generalize nOb s ld ob = OB
  refine z_Ev_blk 4 (c' := (16, [some (aR 0 32), some (aI (0 : Int32)), some (aI (6 : Int32))], [aI (LD 0)], (C, dm s a v t LD OB, E))) rfl ⟨rfl, trivial⟩ ?_
  exact z_Ev_iretE rfl rfl (by rfl) (by rfl)
theorem m_toldOf_0_7 {xs : Nat → Int32} {L : Nat}  (C : Nat → Nat → Nat → Int32) (s a v t ld ob : Nat → Int32) (E : Nat → Int64)  : z_Mt xs L m_X5_toldOf [aR 0 32, aI (0 : Int32), aI (7 : Int32)] (C, dm s a v t ld ob, E) (.inl (some (aI (s 24)))) (C, dm s a v t ld ob, E) 0 := by
  refine z_Ev_blk 3 (c' := ((if (7 : Int32) = (6 : Int32) then 6 else 17), [some (aR 0 32), some (aI (0 : Int32)), some (aI (7 : Int32))], [], (C, dm s a v t ld ob, E))) rfl trivial ?_
  refine z_Ev_else (by decide) ?_
  refine z_Ev_blk 5 (c' := ((if (6 : Int32) ≤ (7 : Int32) then 35 else 27), [some (aR 0 32), some (aI (0 : Int32)), some (aI (7 : Int32))], [aR 0 33], (C, dm s a v t ld ob, E))) rfl trivial ?_
  refine z_Ev_if (by decide) ?_
  refine z_Ev_blk 10 (c' := (47, [some (aR 0 32), some (aI (0 : Int32)), some (aI (7 : Int32))], [aI (s 24)], (C, dm s a v t ld ob, E))) rfl ⟨rfl, trivial⟩ ?_
  exact z_Ev_iretE rfl rfl (by rfl) (by rfl)
theorem m_toldOf_0_8 {xs : Nat → Int32} {L : Nat}  (C : Nat → Nat → Nat → Int32) (s a v t ld ob : Nat → Int32) (E : Nat → Int64)  : z_Mt xs L m_X5_toldOf [aR 0 32, aI (0 : Int32), aI (8 : Int32)] (C, dm s a v t ld ob, E) (.inl (some (aI (s 28)))) (C, dm s a v t ld ob, E) 0 := by
  refine z_Ev_blk 3 (c' := ((if (8 : Int32) = (6 : Int32) then 6 else 17), [some (aR 0 32), some (aI (0 : Int32)), some (aI (8 : Int32))], [], (C, dm s a v t ld ob, E))) rfl trivial ?_
  refine z_Ev_else (by decide) ?_
  refine z_Ev_blk 5 (c' := ((if (6 : Int32) ≤ (8 : Int32) then 35 else 27), [some (aR 0 32), some (aI (0 : Int32)), some (aI (8 : Int32))], [aR 0 33], (C, dm s a v t ld ob, E))) rfl trivial ?_
  refine z_Ev_if (by decide) ?_
  refine z_Ev_blk 10 (c' := (47, [some (aR 0 32), some (aI (0 : Int32)), some (aI (8 : Int32))], [aI (s 28)], (C, dm s a v t ld ob, E))) rfl ⟨rfl, trivial⟩ ?_
  exact z_Ev_iretE rfl rfl (by rfl) (by rfl)
theorem m_toldOf_1_0 {xs : Nat → Int32} {L : Nat}  (C : Nat → Nat → Nat → Int32) (s a v t ld ob : Nat → Int32) (E : Nat → Int64)  : z_Mt xs L m_X5_toldOf [aR 0 32, aI (1 : Int32), aI (0 : Int32)] (C, dm s a v t ld ob, E) (.inl (some (aI (s 1)))) (C, dm s a v t ld ob, E) 0 := by
  refine z_Ev_blk 3 (c' := ((if (0 : Int32) = (6 : Int32) then 6 else 17), [some (aR 0 32), some (aI (1 : Int32)), some (aI (0 : Int32))], [], (C, dm s a v t ld ob, E))) rfl trivial ?_
  refine z_Ev_else (by decide) ?_
  refine z_Ev_blk 5 (c' := ((if (6 : Int32) ≤ (0 : Int32) then 35 else 27), [some (aR 0 32), some (aI (1 : Int32)), some (aI (0 : Int32))], [aR 0 33], (C, dm s a v t ld ob, E))) rfl trivial ?_
  refine z_Ev_else (by decide) ?_
  refine z_Ev_blk 9 (c' := (47, [some (aR 0 32), some (aI (1 : Int32)), some (aI (0 : Int32))], [aI (s 1)], (C, dm s a v t ld ob, E))) rfl ⟨rfl, trivial⟩ ?_
  exact z_Ev_iretE rfl rfl (by rfl) (by rfl)
theorem m_toldOf_1_1 {xs : Nat → Int32} {L : Nat}  (C : Nat → Nat → Nat → Int32) (s a v t ld ob : Nat → Int32) (E : Nat → Int64)  : z_Mt xs L m_X5_toldOf [aR 0 32, aI (1 : Int32), aI (1 : Int32)] (C, dm s a v t ld ob, E) (.inl (some (aI (s 5)))) (C, dm s a v t ld ob, E) 0 := by
  refine z_Ev_blk 3 (c' := ((if (1 : Int32) = (6 : Int32) then 6 else 17), [some (aR 0 32), some (aI (1 : Int32)), some (aI (1 : Int32))], [], (C, dm s a v t ld ob, E))) rfl trivial ?_
  refine z_Ev_else (by decide) ?_
  refine z_Ev_blk 5 (c' := ((if (6 : Int32) ≤ (1 : Int32) then 35 else 27), [some (aR 0 32), some (aI (1 : Int32)), some (aI (1 : Int32))], [aR 0 33], (C, dm s a v t ld ob, E))) rfl trivial ?_
  refine z_Ev_else (by decide) ?_
  refine z_Ev_blk 9 (c' := (47, [some (aR 0 32), some (aI (1 : Int32)), some (aI (1 : Int32))], [aI (s 5)], (C, dm s a v t ld ob, E))) rfl ⟨rfl, trivial⟩ ?_
  exact z_Ev_iretE rfl rfl (by rfl) (by rfl)
theorem m_toldOf_1_2 {xs : Nat → Int32} {L : Nat}  (C : Nat → Nat → Nat → Int32) (s a v t ld ob : Nat → Int32) (E : Nat → Int64)  : z_Mt xs L m_X5_toldOf [aR 0 32, aI (1 : Int32), aI (2 : Int32)] (C, dm s a v t ld ob, E) (.inl (some (aI (s 9)))) (C, dm s a v t ld ob, E) 0 := by
  refine z_Ev_blk 3 (c' := ((if (2 : Int32) = (6 : Int32) then 6 else 17), [some (aR 0 32), some (aI (1 : Int32)), some (aI (2 : Int32))], [], (C, dm s a v t ld ob, E))) rfl trivial ?_
  refine z_Ev_else (by decide) ?_
  refine z_Ev_blk 5 (c' := ((if (6 : Int32) ≤ (2 : Int32) then 35 else 27), [some (aR 0 32), some (aI (1 : Int32)), some (aI (2 : Int32))], [aR 0 33], (C, dm s a v t ld ob, E))) rfl trivial ?_
  refine z_Ev_else (by decide) ?_
  refine z_Ev_blk 9 (c' := (47, [some (aR 0 32), some (aI (1 : Int32)), some (aI (2 : Int32))], [aI (s 9)], (C, dm s a v t ld ob, E))) rfl ⟨rfl, trivial⟩ ?_
  exact z_Ev_iretE rfl rfl (by rfl) (by rfl)
theorem m_toldOf_1_3 {xs : Nat → Int32} {L : Nat}  (C : Nat → Nat → Nat → Int32) (s a v t ld ob : Nat → Int32) (E : Nat → Int64)  : z_Mt xs L m_X5_toldOf [aR 0 32, aI (1 : Int32), aI (3 : Int32)] (C, dm s a v t ld ob, E) (.inl (some (aI (s 13)))) (C, dm s a v t ld ob, E) 0 := by
  refine z_Ev_blk 3 (c' := ((if (3 : Int32) = (6 : Int32) then 6 else 17), [some (aR 0 32), some (aI (1 : Int32)), some (aI (3 : Int32))], [], (C, dm s a v t ld ob, E))) rfl trivial ?_
  refine z_Ev_else (by decide) ?_
  refine z_Ev_blk 5 (c' := ((if (6 : Int32) ≤ (3 : Int32) then 35 else 27), [some (aR 0 32), some (aI (1 : Int32)), some (aI (3 : Int32))], [aR 0 33], (C, dm s a v t ld ob, E))) rfl trivial ?_
  refine z_Ev_else (by decide) ?_
  refine z_Ev_blk 9 (c' := (47, [some (aR 0 32), some (aI (1 : Int32)), some (aI (3 : Int32))], [aI (s 13)], (C, dm s a v t ld ob, E))) rfl ⟨rfl, trivial⟩ ?_
  exact z_Ev_iretE rfl rfl (by rfl) (by rfl)
theorem m_toldOf_1_4 {xs : Nat → Int32} {L : Nat}  (C : Nat → Nat → Nat → Int32) (s a v t ld ob : Nat → Int32) (E : Nat → Int64)  : z_Mt xs L m_X5_toldOf [aR 0 32, aI (1 : Int32), aI (4 : Int32)] (C, dm s a v t ld ob, E) (.inl (some (aI (s 17)))) (C, dm s a v t ld ob, E) 0 := by
  refine z_Ev_blk 3 (c' := ((if (4 : Int32) = (6 : Int32) then 6 else 17), [some (aR 0 32), some (aI (1 : Int32)), some (aI (4 : Int32))], [], (C, dm s a v t ld ob, E))) rfl trivial ?_
  refine z_Ev_else (by decide) ?_
  refine z_Ev_blk 5 (c' := ((if (6 : Int32) ≤ (4 : Int32) then 35 else 27), [some (aR 0 32), some (aI (1 : Int32)), some (aI (4 : Int32))], [aR 0 33], (C, dm s a v t ld ob, E))) rfl trivial ?_
  refine z_Ev_else (by decide) ?_
  refine z_Ev_blk 9 (c' := (47, [some (aR 0 32), some (aI (1 : Int32)), some (aI (4 : Int32))], [aI (s 17)], (C, dm s a v t ld ob, E))) rfl ⟨rfl, trivial⟩ ?_
  exact z_Ev_iretE rfl rfl (by rfl) (by rfl)
theorem m_toldOf_1_5 {xs : Nat → Int32} {L : Nat}  (C : Nat → Nat → Nat → Int32) (s a v t ld ob : Nat → Int32) (E : Nat → Int64)  : z_Mt xs L m_X5_toldOf [aR 0 32, aI (1 : Int32), aI (5 : Int32)] (C, dm s a v t ld ob, E) (.inl (some (aI (s 21)))) (C, dm s a v t ld ob, E) 0 := by
  refine z_Ev_blk 3 (c' := ((if (5 : Int32) = (6 : Int32) then 6 else 17), [some (aR 0 32), some (aI (1 : Int32)), some (aI (5 : Int32))], [], (C, dm s a v t ld ob, E))) rfl trivial ?_
  refine z_Ev_else (by decide) ?_
  refine z_Ev_blk 5 (c' := ((if (6 : Int32) ≤ (5 : Int32) then 35 else 27), [some (aR 0 32), some (aI (1 : Int32)), some (aI (5 : Int32))], [aR 0 33], (C, dm s a v t ld ob, E))) rfl trivial ?_
  refine z_Ev_else (by decide) ?_
  refine z_Ev_blk 9 (c' := (47, [some (aR 0 32), some (aI (1 : Int32)), some (aI (5 : Int32))], [aI (s 21)], (C, dm s a v t ld ob, E))) rfl ⟨rfl, trivial⟩ ?_
  exact z_Ev_iretE rfl rfl (by rfl) (by rfl)
theorem m_toldOf_1_6 {xs : Nat → Int32} {L : Nat}  (C : Nat → Nat → Nat → Int32) (s a v t ld ob : Nat → Int32) (E : Nat → Int64) {H : Nat} (hs : s 34 = nI H) (hH : H ≤ 48) : z_Mt xs L m_X5_toldOf [aR 0 32, aI (1 : Int32), aI (6 : Int32)] (C, dm s a v t ld ob, E) (.inl (some (aI (nLd s ld 1)))) (C, dm s a v t (nLd s ld) (nOb s ld ob), E) 0 := by
  refine z_Ev_blk 3 (c' := ((if (6 : Int32) = (6 : Int32) then 6 else 17), [some (aR 0 32), some (aI (1 : Int32)), some (aI (6 : Int32))], [], (C, dm s a v t ld ob, E))) rfl trivial ?_
  refine z_Ev_if (by decide) ?_
  refine z_Ev_blk 1 (c' := (7, [some (aR 0 32), some (aI (1 : Int32)), some (aI (6 : Int32))], [aR 0 32], (C, dm s a v t ld ob, E))) rfl trivial ?_
  refine z_Ev_call0 (m' := m_X5_shareNow) (as := [aR 0 32]) (r := []) (m_shareNow C s a v t ld ob E hs hH) rfl rfl ?_
  generalize nLd s ld = LD
  generalize nOb s ld ob = OB
  refine z_Ev_blk 4 (c' := (16, [some (aR 0 32), some (aI (1 : Int32)), some (aI (6 : Int32))], [aI (LD 1)], (C, dm s a v t LD OB, E))) rfl ⟨rfl, trivial⟩ ?_
  exact z_Ev_iretE rfl rfl (by rfl) (by rfl)
theorem m_toldOf_1_7 {xs : Nat → Int32} {L : Nat}  (C : Nat → Nat → Nat → Int32) (s a v t ld ob : Nat → Int32) (E : Nat → Int64)  : z_Mt xs L m_X5_toldOf [aR 0 32, aI (1 : Int32), aI (7 : Int32)] (C, dm s a v t ld ob, E) (.inl (some (aI (s 25)))) (C, dm s a v t ld ob, E) 0 := by
  refine z_Ev_blk 3 (c' := ((if (7 : Int32) = (6 : Int32) then 6 else 17), [some (aR 0 32), some (aI (1 : Int32)), some (aI (7 : Int32))], [], (C, dm s a v t ld ob, E))) rfl trivial ?_
  refine z_Ev_else (by decide) ?_
  refine z_Ev_blk 5 (c' := ((if (6 : Int32) ≤ (7 : Int32) then 35 else 27), [some (aR 0 32), some (aI (1 : Int32)), some (aI (7 : Int32))], [aR 0 33], (C, dm s a v t ld ob, E))) rfl trivial ?_
  refine z_Ev_if (by decide) ?_
  refine z_Ev_blk 10 (c' := (47, [some (aR 0 32), some (aI (1 : Int32)), some (aI (7 : Int32))], [aI (s 25)], (C, dm s a v t ld ob, E))) rfl ⟨rfl, trivial⟩ ?_
  exact z_Ev_iretE rfl rfl (by rfl) (by rfl)
theorem m_toldOf_1_8 {xs : Nat → Int32} {L : Nat}  (C : Nat → Nat → Nat → Int32) (s a v t ld ob : Nat → Int32) (E : Nat → Int64)  : z_Mt xs L m_X5_toldOf [aR 0 32, aI (1 : Int32), aI (8 : Int32)] (C, dm s a v t ld ob, E) (.inl (some (aI (s 29)))) (C, dm s a v t ld ob, E) 0 := by
  refine z_Ev_blk 3 (c' := ((if (8 : Int32) = (6 : Int32) then 6 else 17), [some (aR 0 32), some (aI (1 : Int32)), some (aI (8 : Int32))], [], (C, dm s a v t ld ob, E))) rfl trivial ?_
  refine z_Ev_else (by decide) ?_
  refine z_Ev_blk 5 (c' := ((if (6 : Int32) ≤ (8 : Int32) then 35 else 27), [some (aR 0 32), some (aI (1 : Int32)), some (aI (8 : Int32))], [aR 0 33], (C, dm s a v t ld ob, E))) rfl trivial ?_
  refine z_Ev_if (by decide) ?_
  refine z_Ev_blk 10 (c' := (47, [some (aR 0 32), some (aI (1 : Int32)), some (aI (8 : Int32))], [aI (s 29)], (C, dm s a v t ld ob, E))) rfl ⟨rfl, trivial⟩ ?_
  exact z_Ev_iretE rfl rfl (by rfl) (by rfl)
theorem m_toldOf_2_0 {xs : Nat → Int32} {L : Nat}  (C : Nat → Nat → Nat → Int32) (s a v t ld ob : Nat → Int32) (E : Nat → Int64)  : z_Mt xs L m_X5_toldOf [aR 0 32, aI (2 : Int32), aI (0 : Int32)] (C, dm s a v t ld ob, E) (.inl (some (aI (s 2)))) (C, dm s a v t ld ob, E) 0 := by
  refine z_Ev_blk 3 (c' := ((if (0 : Int32) = (6 : Int32) then 6 else 17), [some (aR 0 32), some (aI (2 : Int32)), some (aI (0 : Int32))], [], (C, dm s a v t ld ob, E))) rfl trivial ?_
  refine z_Ev_else (by decide) ?_
  refine z_Ev_blk 5 (c' := ((if (6 : Int32) ≤ (0 : Int32) then 35 else 27), [some (aR 0 32), some (aI (2 : Int32)), some (aI (0 : Int32))], [aR 0 33], (C, dm s a v t ld ob, E))) rfl trivial ?_
  refine z_Ev_else (by decide) ?_
  refine z_Ev_blk 9 (c' := (47, [some (aR 0 32), some (aI (2 : Int32)), some (aI (0 : Int32))], [aI (s 2)], (C, dm s a v t ld ob, E))) rfl ⟨rfl, trivial⟩ ?_
  exact z_Ev_iretE rfl rfl (by rfl) (by rfl)
theorem m_toldOf_2_1 {xs : Nat → Int32} {L : Nat}  (C : Nat → Nat → Nat → Int32) (s a v t ld ob : Nat → Int32) (E : Nat → Int64)  : z_Mt xs L m_X5_toldOf [aR 0 32, aI (2 : Int32), aI (1 : Int32)] (C, dm s a v t ld ob, E) (.inl (some (aI (s 6)))) (C, dm s a v t ld ob, E) 0 := by
  refine z_Ev_blk 3 (c' := ((if (1 : Int32) = (6 : Int32) then 6 else 17), [some (aR 0 32), some (aI (2 : Int32)), some (aI (1 : Int32))], [], (C, dm s a v t ld ob, E))) rfl trivial ?_
  refine z_Ev_else (by decide) ?_
  refine z_Ev_blk 5 (c' := ((if (6 : Int32) ≤ (1 : Int32) then 35 else 27), [some (aR 0 32), some (aI (2 : Int32)), some (aI (1 : Int32))], [aR 0 33], (C, dm s a v t ld ob, E))) rfl trivial ?_
  refine z_Ev_else (by decide) ?_
  refine z_Ev_blk 9 (c' := (47, [some (aR 0 32), some (aI (2 : Int32)), some (aI (1 : Int32))], [aI (s 6)], (C, dm s a v t ld ob, E))) rfl ⟨rfl, trivial⟩ ?_
  exact z_Ev_iretE rfl rfl (by rfl) (by rfl)
theorem m_toldOf_2_2 {xs : Nat → Int32} {L : Nat}  (C : Nat → Nat → Nat → Int32) (s a v t ld ob : Nat → Int32) (E : Nat → Int64)  : z_Mt xs L m_X5_toldOf [aR 0 32, aI (2 : Int32), aI (2 : Int32)] (C, dm s a v t ld ob, E) (.inl (some (aI (s 10)))) (C, dm s a v t ld ob, E) 0 := by
  refine z_Ev_blk 3 (c' := ((if (2 : Int32) = (6 : Int32) then 6 else 17), [some (aR 0 32), some (aI (2 : Int32)), some (aI (2 : Int32))], [], (C, dm s a v t ld ob, E))) rfl trivial ?_
  refine z_Ev_else (by decide) ?_
  refine z_Ev_blk 5 (c' := ((if (6 : Int32) ≤ (2 : Int32) then 35 else 27), [some (aR 0 32), some (aI (2 : Int32)), some (aI (2 : Int32))], [aR 0 33], (C, dm s a v t ld ob, E))) rfl trivial ?_
  refine z_Ev_else (by decide) ?_
  refine z_Ev_blk 9 (c' := (47, [some (aR 0 32), some (aI (2 : Int32)), some (aI (2 : Int32))], [aI (s 10)], (C, dm s a v t ld ob, E))) rfl ⟨rfl, trivial⟩ ?_
  exact z_Ev_iretE rfl rfl (by rfl) (by rfl)
theorem m_toldOf_2_3 {xs : Nat → Int32} {L : Nat}  (C : Nat → Nat → Nat → Int32) (s a v t ld ob : Nat → Int32) (E : Nat → Int64)  : z_Mt xs L m_X5_toldOf [aR 0 32, aI (2 : Int32), aI (3 : Int32)] (C, dm s a v t ld ob, E) (.inl (some (aI (s 14)))) (C, dm s a v t ld ob, E) 0 := by
  refine z_Ev_blk 3 (c' := ((if (3 : Int32) = (6 : Int32) then 6 else 17), [some (aR 0 32), some (aI (2 : Int32)), some (aI (3 : Int32))], [], (C, dm s a v t ld ob, E))) rfl trivial ?_
  refine z_Ev_else (by decide) ?_
  refine z_Ev_blk 5 (c' := ((if (6 : Int32) ≤ (3 : Int32) then 35 else 27), [some (aR 0 32), some (aI (2 : Int32)), some (aI (3 : Int32))], [aR 0 33], (C, dm s a v t ld ob, E))) rfl trivial ?_
  refine z_Ev_else (by decide) ?_
  refine z_Ev_blk 9 (c' := (47, [some (aR 0 32), some (aI (2 : Int32)), some (aI (3 : Int32))], [aI (s 14)], (C, dm s a v t ld ob, E))) rfl ⟨rfl, trivial⟩ ?_
  exact z_Ev_iretE rfl rfl (by rfl) (by rfl)
theorem m_toldOf_2_4 {xs : Nat → Int32} {L : Nat}  (C : Nat → Nat → Nat → Int32) (s a v t ld ob : Nat → Int32) (E : Nat → Int64)  : z_Mt xs L m_X5_toldOf [aR 0 32, aI (2 : Int32), aI (4 : Int32)] (C, dm s a v t ld ob, E) (.inl (some (aI (s 18)))) (C, dm s a v t ld ob, E) 0 := by
  refine z_Ev_blk 3 (c' := ((if (4 : Int32) = (6 : Int32) then 6 else 17), [some (aR 0 32), some (aI (2 : Int32)), some (aI (4 : Int32))], [], (C, dm s a v t ld ob, E))) rfl trivial ?_
  refine z_Ev_else (by decide) ?_
  refine z_Ev_blk 5 (c' := ((if (6 : Int32) ≤ (4 : Int32) then 35 else 27), [some (aR 0 32), some (aI (2 : Int32)), some (aI (4 : Int32))], [aR 0 33], (C, dm s a v t ld ob, E))) rfl trivial ?_
  refine z_Ev_else (by decide) ?_
  refine z_Ev_blk 9 (c' := (47, [some (aR 0 32), some (aI (2 : Int32)), some (aI (4 : Int32))], [aI (s 18)], (C, dm s a v t ld ob, E))) rfl ⟨rfl, trivial⟩ ?_
  exact z_Ev_iretE rfl rfl (by rfl) (by rfl)
theorem m_toldOf_2_5 {xs : Nat → Int32} {L : Nat}  (C : Nat → Nat → Nat → Int32) (s a v t ld ob : Nat → Int32) (E : Nat → Int64)  : z_Mt xs L m_X5_toldOf [aR 0 32, aI (2 : Int32), aI (5 : Int32)] (C, dm s a v t ld ob, E) (.inl (some (aI (s 22)))) (C, dm s a v t ld ob, E) 0 := by
  refine z_Ev_blk 3 (c' := ((if (5 : Int32) = (6 : Int32) then 6 else 17), [some (aR 0 32), some (aI (2 : Int32)), some (aI (5 : Int32))], [], (C, dm s a v t ld ob, E))) rfl trivial ?_
  refine z_Ev_else (by decide) ?_
  refine z_Ev_blk 5 (c' := ((if (6 : Int32) ≤ (5 : Int32) then 35 else 27), [some (aR 0 32), some (aI (2 : Int32)), some (aI (5 : Int32))], [aR 0 33], (C, dm s a v t ld ob, E))) rfl trivial ?_
  refine z_Ev_else (by decide) ?_
  refine z_Ev_blk 9 (c' := (47, [some (aR 0 32), some (aI (2 : Int32)), some (aI (5 : Int32))], [aI (s 22)], (C, dm s a v t ld ob, E))) rfl ⟨rfl, trivial⟩ ?_
  exact z_Ev_iretE rfl rfl (by rfl) (by rfl)
theorem m_toldOf_2_6 {xs : Nat → Int32} {L : Nat}  (C : Nat → Nat → Nat → Int32) (s a v t ld ob : Nat → Int32) (E : Nat → Int64) {H : Nat} (hs : s 34 = nI H) (hH : H ≤ 48) : z_Mt xs L m_X5_toldOf [aR 0 32, aI (2 : Int32), aI (6 : Int32)] (C, dm s a v t ld ob, E) (.inl (some (aI (nLd s ld 2)))) (C, dm s a v t (nLd s ld) (nOb s ld ob), E) 0 := by
  refine z_Ev_blk 3 (c' := ((if (6 : Int32) = (6 : Int32) then 6 else 17), [some (aR 0 32), some (aI (2 : Int32)), some (aI (6 : Int32))], [], (C, dm s a v t ld ob, E))) rfl trivial ?_
  refine z_Ev_if (by decide) ?_
  refine z_Ev_blk 1 (c' := (7, [some (aR 0 32), some (aI (2 : Int32)), some (aI (6 : Int32))], [aR 0 32], (C, dm s a v t ld ob, E))) rfl trivial ?_
  refine z_Ev_call0 (m' := m_X5_shareNow) (as := [aR 0 32]) (r := []) (m_shareNow C s a v t ld ob E hs hH) rfl rfl ?_
  generalize nLd s ld = LD
  generalize nOb s ld ob = OB
  refine z_Ev_blk 4 (c' := (16, [some (aR 0 32), some (aI (2 : Int32)), some (aI (6 : Int32))], [aI (LD 2)], (C, dm s a v t LD OB, E))) rfl ⟨rfl, trivial⟩ ?_
  exact z_Ev_iretE rfl rfl (by rfl) (by rfl)
theorem m_toldOf_2_7 {xs : Nat → Int32} {L : Nat}  (C : Nat → Nat → Nat → Int32) (s a v t ld ob : Nat → Int32) (E : Nat → Int64)  : z_Mt xs L m_X5_toldOf [aR 0 32, aI (2 : Int32), aI (7 : Int32)] (C, dm s a v t ld ob, E) (.inl (some (aI (s 26)))) (C, dm s a v t ld ob, E) 0 := by
  refine z_Ev_blk 3 (c' := ((if (7 : Int32) = (6 : Int32) then 6 else 17), [some (aR 0 32), some (aI (2 : Int32)), some (aI (7 : Int32))], [], (C, dm s a v t ld ob, E))) rfl trivial ?_
  refine z_Ev_else (by decide) ?_
  refine z_Ev_blk 5 (c' := ((if (6 : Int32) ≤ (7 : Int32) then 35 else 27), [some (aR 0 32), some (aI (2 : Int32)), some (aI (7 : Int32))], [aR 0 33], (C, dm s a v t ld ob, E))) rfl trivial ?_
  refine z_Ev_if (by decide) ?_
  refine z_Ev_blk 10 (c' := (47, [some (aR 0 32), some (aI (2 : Int32)), some (aI (7 : Int32))], [aI (s 26)], (C, dm s a v t ld ob, E))) rfl ⟨rfl, trivial⟩ ?_
  exact z_Ev_iretE rfl rfl (by rfl) (by rfl)
theorem m_toldOf_2_8 {xs : Nat → Int32} {L : Nat}  (C : Nat → Nat → Nat → Int32) (s a v t ld ob : Nat → Int32) (E : Nat → Int64)  : z_Mt xs L m_X5_toldOf [aR 0 32, aI (2 : Int32), aI (8 : Int32)] (C, dm s a v t ld ob, E) (.inl (some (aI (s 30)))) (C, dm s a v t ld ob, E) 0 := by
  refine z_Ev_blk 3 (c' := ((if (8 : Int32) = (6 : Int32) then 6 else 17), [some (aR 0 32), some (aI (2 : Int32)), some (aI (8 : Int32))], [], (C, dm s a v t ld ob, E))) rfl trivial ?_
  refine z_Ev_else (by decide) ?_
  refine z_Ev_blk 5 (c' := ((if (6 : Int32) ≤ (8 : Int32) then 35 else 27), [some (aR 0 32), some (aI (2 : Int32)), some (aI (8 : Int32))], [aR 0 33], (C, dm s a v t ld ob, E))) rfl trivial ?_
  refine z_Ev_if (by decide) ?_
  refine z_Ev_blk 10 (c' := (47, [some (aR 0 32), some (aI (2 : Int32)), some (aI (8 : Int32))], [aI (s 30)], (C, dm s a v t ld ob, E))) rfl ⟨rfl, trivial⟩ ?_
  exact z_Ev_iretE rfl rfl (by rfl) (by rfl)
theorem m_toldOf_3_0 {xs : Nat → Int32} {L : Nat}  (C : Nat → Nat → Nat → Int32) (s a v t ld ob : Nat → Int32) (E : Nat → Int64)  : z_Mt xs L m_X5_toldOf [aR 0 32, aI (3 : Int32), aI (0 : Int32)] (C, dm s a v t ld ob, E) (.inl (some (aI (s 3)))) (C, dm s a v t ld ob, E) 0 := by
  refine z_Ev_blk 3 (c' := ((if (0 : Int32) = (6 : Int32) then 6 else 17), [some (aR 0 32), some (aI (3 : Int32)), some (aI (0 : Int32))], [], (C, dm s a v t ld ob, E))) rfl trivial ?_
  refine z_Ev_else (by decide) ?_
  refine z_Ev_blk 5 (c' := ((if (6 : Int32) ≤ (0 : Int32) then 35 else 27), [some (aR 0 32), some (aI (3 : Int32)), some (aI (0 : Int32))], [aR 0 33], (C, dm s a v t ld ob, E))) rfl trivial ?_
  refine z_Ev_else (by decide) ?_
  refine z_Ev_blk 9 (c' := (47, [some (aR 0 32), some (aI (3 : Int32)), some (aI (0 : Int32))], [aI (s 3)], (C, dm s a v t ld ob, E))) rfl ⟨rfl, trivial⟩ ?_
  exact z_Ev_iretE rfl rfl (by rfl) (by rfl)
theorem m_toldOf_3_1 {xs : Nat → Int32} {L : Nat}  (C : Nat → Nat → Nat → Int32) (s a v t ld ob : Nat → Int32) (E : Nat → Int64)  : z_Mt xs L m_X5_toldOf [aR 0 32, aI (3 : Int32), aI (1 : Int32)] (C, dm s a v t ld ob, E) (.inl (some (aI (s 7)))) (C, dm s a v t ld ob, E) 0 := by
  refine z_Ev_blk 3 (c' := ((if (1 : Int32) = (6 : Int32) then 6 else 17), [some (aR 0 32), some (aI (3 : Int32)), some (aI (1 : Int32))], [], (C, dm s a v t ld ob, E))) rfl trivial ?_
  refine z_Ev_else (by decide) ?_
  refine z_Ev_blk 5 (c' := ((if (6 : Int32) ≤ (1 : Int32) then 35 else 27), [some (aR 0 32), some (aI (3 : Int32)), some (aI (1 : Int32))], [aR 0 33], (C, dm s a v t ld ob, E))) rfl trivial ?_
  refine z_Ev_else (by decide) ?_
  refine z_Ev_blk 9 (c' := (47, [some (aR 0 32), some (aI (3 : Int32)), some (aI (1 : Int32))], [aI (s 7)], (C, dm s a v t ld ob, E))) rfl ⟨rfl, trivial⟩ ?_
  exact z_Ev_iretE rfl rfl (by rfl) (by rfl)
theorem m_toldOf_3_2 {xs : Nat → Int32} {L : Nat}  (C : Nat → Nat → Nat → Int32) (s a v t ld ob : Nat → Int32) (E : Nat → Int64)  : z_Mt xs L m_X5_toldOf [aR 0 32, aI (3 : Int32), aI (2 : Int32)] (C, dm s a v t ld ob, E) (.inl (some (aI (s 11)))) (C, dm s a v t ld ob, E) 0 := by
  refine z_Ev_blk 3 (c' := ((if (2 : Int32) = (6 : Int32) then 6 else 17), [some (aR 0 32), some (aI (3 : Int32)), some (aI (2 : Int32))], [], (C, dm s a v t ld ob, E))) rfl trivial ?_
  refine z_Ev_else (by decide) ?_
  refine z_Ev_blk 5 (c' := ((if (6 : Int32) ≤ (2 : Int32) then 35 else 27), [some (aR 0 32), some (aI (3 : Int32)), some (aI (2 : Int32))], [aR 0 33], (C, dm s a v t ld ob, E))) rfl trivial ?_
  refine z_Ev_else (by decide) ?_
  refine z_Ev_blk 9 (c' := (47, [some (aR 0 32), some (aI (3 : Int32)), some (aI (2 : Int32))], [aI (s 11)], (C, dm s a v t ld ob, E))) rfl ⟨rfl, trivial⟩ ?_
  exact z_Ev_iretE rfl rfl (by rfl) (by rfl)
theorem m_toldOf_3_3 {xs : Nat → Int32} {L : Nat}  (C : Nat → Nat → Nat → Int32) (s a v t ld ob : Nat → Int32) (E : Nat → Int64)  : z_Mt xs L m_X5_toldOf [aR 0 32, aI (3 : Int32), aI (3 : Int32)] (C, dm s a v t ld ob, E) (.inl (some (aI (s 15)))) (C, dm s a v t ld ob, E) 0 := by
  refine z_Ev_blk 3 (c' := ((if (3 : Int32) = (6 : Int32) then 6 else 17), [some (aR 0 32), some (aI (3 : Int32)), some (aI (3 : Int32))], [], (C, dm s a v t ld ob, E))) rfl trivial ?_
  refine z_Ev_else (by decide) ?_
  refine z_Ev_blk 5 (c' := ((if (6 : Int32) ≤ (3 : Int32) then 35 else 27), [some (aR 0 32), some (aI (3 : Int32)), some (aI (3 : Int32))], [aR 0 33], (C, dm s a v t ld ob, E))) rfl trivial ?_
  refine z_Ev_else (by decide) ?_
  refine z_Ev_blk 9 (c' := (47, [some (aR 0 32), some (aI (3 : Int32)), some (aI (3 : Int32))], [aI (s 15)], (C, dm s a v t ld ob, E))) rfl ⟨rfl, trivial⟩ ?_
  exact z_Ev_iretE rfl rfl (by rfl) (by rfl)
theorem m_toldOf_3_4 {xs : Nat → Int32} {L : Nat}  (C : Nat → Nat → Nat → Int32) (s a v t ld ob : Nat → Int32) (E : Nat → Int64)  : z_Mt xs L m_X5_toldOf [aR 0 32, aI (3 : Int32), aI (4 : Int32)] (C, dm s a v t ld ob, E) (.inl (some (aI (s 19)))) (C, dm s a v t ld ob, E) 0 := by
  refine z_Ev_blk 3 (c' := ((if (4 : Int32) = (6 : Int32) then 6 else 17), [some (aR 0 32), some (aI (3 : Int32)), some (aI (4 : Int32))], [], (C, dm s a v t ld ob, E))) rfl trivial ?_
  refine z_Ev_else (by decide) ?_
  refine z_Ev_blk 5 (c' := ((if (6 : Int32) ≤ (4 : Int32) then 35 else 27), [some (aR 0 32), some (aI (3 : Int32)), some (aI (4 : Int32))], [aR 0 33], (C, dm s a v t ld ob, E))) rfl trivial ?_
  refine z_Ev_else (by decide) ?_
  refine z_Ev_blk 9 (c' := (47, [some (aR 0 32), some (aI (3 : Int32)), some (aI (4 : Int32))], [aI (s 19)], (C, dm s a v t ld ob, E))) rfl ⟨rfl, trivial⟩ ?_
  exact z_Ev_iretE rfl rfl (by rfl) (by rfl)
theorem m_toldOf_3_5 {xs : Nat → Int32} {L : Nat}  (C : Nat → Nat → Nat → Int32) (s a v t ld ob : Nat → Int32) (E : Nat → Int64)  : z_Mt xs L m_X5_toldOf [aR 0 32, aI (3 : Int32), aI (5 : Int32)] (C, dm s a v t ld ob, E) (.inl (some (aI (s 23)))) (C, dm s a v t ld ob, E) 0 := by
  refine z_Ev_blk 3 (c' := ((if (5 : Int32) = (6 : Int32) then 6 else 17), [some (aR 0 32), some (aI (3 : Int32)), some (aI (5 : Int32))], [], (C, dm s a v t ld ob, E))) rfl trivial ?_
  refine z_Ev_else (by decide) ?_
  refine z_Ev_blk 5 (c' := ((if (6 : Int32) ≤ (5 : Int32) then 35 else 27), [some (aR 0 32), some (aI (3 : Int32)), some (aI (5 : Int32))], [aR 0 33], (C, dm s a v t ld ob, E))) rfl trivial ?_
  refine z_Ev_else (by decide) ?_
  refine z_Ev_blk 9 (c' := (47, [some (aR 0 32), some (aI (3 : Int32)), some (aI (5 : Int32))], [aI (s 23)], (C, dm s a v t ld ob, E))) rfl ⟨rfl, trivial⟩ ?_
  exact z_Ev_iretE rfl rfl (by rfl) (by rfl)
theorem m_toldOf_3_6 {xs : Nat → Int32} {L : Nat}  (C : Nat → Nat → Nat → Int32) (s a v t ld ob : Nat → Int32) (E : Nat → Int64) {H : Nat} (hs : s 34 = nI H) (hH : H ≤ 48) : z_Mt xs L m_X5_toldOf [aR 0 32, aI (3 : Int32), aI (6 : Int32)] (C, dm s a v t ld ob, E) (.inl (some (aI (nLd s ld 3)))) (C, dm s a v t (nLd s ld) (nOb s ld ob), E) 0 := by
  refine z_Ev_blk 3 (c' := ((if (6 : Int32) = (6 : Int32) then 6 else 17), [some (aR 0 32), some (aI (3 : Int32)), some (aI (6 : Int32))], [], (C, dm s a v t ld ob, E))) rfl trivial ?_
  refine z_Ev_if (by decide) ?_
  refine z_Ev_blk 1 (c' := (7, [some (aR 0 32), some (aI (3 : Int32)), some (aI (6 : Int32))], [aR 0 32], (C, dm s a v t ld ob, E))) rfl trivial ?_
  refine z_Ev_call0 (m' := m_X5_shareNow) (as := [aR 0 32]) (r := []) (m_shareNow C s a v t ld ob E hs hH) rfl rfl ?_
  generalize nLd s ld = LD
  generalize nOb s ld ob = OB
  refine z_Ev_blk 4 (c' := (16, [some (aR 0 32), some (aI (3 : Int32)), some (aI (6 : Int32))], [aI (LD 3)], (C, dm s a v t LD OB, E))) rfl ⟨rfl, trivial⟩ ?_
  exact z_Ev_iretE rfl rfl (by rfl) (by rfl)
theorem m_toldOf_3_7 {xs : Nat → Int32} {L : Nat}  (C : Nat → Nat → Nat → Int32) (s a v t ld ob : Nat → Int32) (E : Nat → Int64)  : z_Mt xs L m_X5_toldOf [aR 0 32, aI (3 : Int32), aI (7 : Int32)] (C, dm s a v t ld ob, E) (.inl (some (aI (s 27)))) (C, dm s a v t ld ob, E) 0 := by
  refine z_Ev_blk 3 (c' := ((if (7 : Int32) = (6 : Int32) then 6 else 17), [some (aR 0 32), some (aI (3 : Int32)), some (aI (7 : Int32))], [], (C, dm s a v t ld ob, E))) rfl trivial ?_
  refine z_Ev_else (by decide) ?_
  refine z_Ev_blk 5 (c' := ((if (6 : Int32) ≤ (7 : Int32) then 35 else 27), [some (aR 0 32), some (aI (3 : Int32)), some (aI (7 : Int32))], [aR 0 33], (C, dm s a v t ld ob, E))) rfl trivial ?_
  refine z_Ev_if (by decide) ?_
  refine z_Ev_blk 10 (c' := (47, [some (aR 0 32), some (aI (3 : Int32)), some (aI (7 : Int32))], [aI (s 27)], (C, dm s a v t ld ob, E))) rfl ⟨rfl, trivial⟩ ?_
  exact z_Ev_iretE rfl rfl (by rfl) (by rfl)
theorem m_toldOf_3_8 {xs : Nat → Int32} {L : Nat}  (C : Nat → Nat → Nat → Int32) (s a v t ld ob : Nat → Int32) (E : Nat → Int64)  : z_Mt xs L m_X5_toldOf [aR 0 32, aI (3 : Int32), aI (8 : Int32)] (C, dm s a v t ld ob, E) (.inl (some (aI (s 31)))) (C, dm s a v t ld ob, E) 0 := by
  refine z_Ev_blk 3 (c' := ((if (8 : Int32) = (6 : Int32) then 6 else 17), [some (aR 0 32), some (aI (3 : Int32)), some (aI (8 : Int32))], [], (C, dm s a v t ld ob, E))) rfl trivial ?_
  refine z_Ev_else (by decide) ?_
  refine z_Ev_blk 5 (c' := ((if (6 : Int32) ≤ (8 : Int32) then 35 else 27), [some (aR 0 32), some (aI (3 : Int32)), some (aI (8 : Int32))], [aR 0 33], (C, dm s a v t ld ob, E))) rfl trivial ?_
  refine z_Ev_if (by decide) ?_
  refine z_Ev_blk 10 (c' := (47, [some (aR 0 32), some (aI (3 : Int32)), some (aI (8 : Int32))], [aI (s 31)], (C, dm s a v t ld ob, E))) rfl ⟨rfl, trivial⟩ ?_
  exact z_Ev_iretE rfl rfl (by rfl) (by rfl)
theorem m_allFuel {xs : Nat → Int32} {L : Nat}  (C : Nat → Nat → Nat → Int32) (s a v t ld ob : Nat → Int32) (E : Nat → Int64)  : z_Mt xs L m_X5_allFuel [aR 0 32] (C, dm s a v t ld ob, E) (.inl (some (aI (s 24 + s 25 + s 26 + s 27)))) (C, dm s a v t ld ob, E) 0 := by
  refine z_Ev_blk 19 (c' := (31, [some (aR 0 32)], [aI ((((s 24) + (s 25)) + (s 26)) + (s 27))], (C, dm s a v t ld ob, E))) rfl ⟨rfl, rfl, rfl, rfl, trivial⟩ ?_
  exact z_Ev_iretE rfl rfl (by rfl) (by first | rfl | simp [*, dm_33, dm_34, dm_35, dm_36, dm_37, dm_32])
def wrS (s : Nat → Int32) (j : Nat) (n : Int32) : Int32 := n + (if s j = 1 then 1 else 0)
theorem wr_0 {xs : Nat → Int32} {L : Nat} {o : z_Rs} {M' : Mem} {kk : Nat} (n : Int32) (C : Nat → Nat → Nat → Int32) (s a v t ld ob : Nat → Int32) (E : Nat → Int64)  (K : z_Ev xs L m_X5_warming (4, [some (aR 0 32), some (aI (wrS s 16 n)), some (aI (1 : Int32))], [], (C, dm s a v t ld ob, E)) o M' kk) : z_Ev xs L m_X5_warming (4, [some (aR 0 32), some (aI n), some (aI (0 : Int32))], [], (C, dm s a v t ld ob, E)) o M' kk := by
  refine z_Ev_blk 3 (c' := ((if (4 : Int32) ≤ (0 : Int32) then 36 else 9), [some (aR 0 32), some (aI n), some (aI (0 : Int32))], [], (C, dm s a v t ld ob, E))) rfl trivial ?_
  refine z_Ev_else (by decide) ?_
  refine z_Ev_blk 9 (c' := ((if (s 16) = (1 : Int32) then 23 else 27), [some (aR 0 32), some (aI n), some (aI (0 : Int32))], [aI n], (C, dm s a v t ld ob, E))) rfl ⟨rfl, trivial⟩ ?_
  refine z_Ev_ite (fun h1 => ?_) (fun h1 => ?_)
  · skip
    refine z_Ev_blk 6 (c' := (4, [some (aR 0 32), some (aI (n + (1 : Int32))), some (aI (1 : Int32))], [], (C, dm s a v t ld ob, E))) rfl trivial ?_
    refine z_Ev_fgt [true, true, true] ?_
    exact z_Ev_eq (c := (4, [some (aR 0 32), some (aI (n + (1 : Int32))), some (aI (1 : Int32))], [], (C, dm s a v t ld ob, E))) (c' := (4, [some (aR 0 32), some (aI (wrS s 16 n)), some (aI (1 : Int32))], [], (C, dm s a v t ld ob, E))) (by simp [h1, wrS]) K
  · skip
    refine z_Ev_blk 5 (c' := (4, [some (aR 0 32), some (aI (n + (0 : Int32))), some (aI (1 : Int32))], [], (C, dm s a v t ld ob, E))) rfl trivial ?_
    refine z_Ev_fgt [true, true, true] ?_
    exact z_Ev_eq (c := (4, [some (aR 0 32), some (aI (n + (0 : Int32))), some (aI (1 : Int32))], [], (C, dm s a v t ld ob, E))) (c' := (4, [some (aR 0 32), some (aI (wrS s 16 n)), some (aI (1 : Int32))], [], (C, dm s a v t ld ob, E))) (by simp [h1, wrS]) K
theorem wr_1 {xs : Nat → Int32} {L : Nat} {o : z_Rs} {M' : Mem} {kk : Nat} (n : Int32) (C : Nat → Nat → Nat → Int32) (s a v t ld ob : Nat → Int32) (E : Nat → Int64)  (K : z_Ev xs L m_X5_warming (4, [some (aR 0 32), some (aI (wrS s 17 n)), some (aI (2 : Int32))], [], (C, dm s a v t ld ob, E)) o M' kk) : z_Ev xs L m_X5_warming (4, [some (aR 0 32), some (aI n), some (aI (1 : Int32))], [], (C, dm s a v t ld ob, E)) o M' kk := by
  refine z_Ev_blk 3 (c' := ((if (4 : Int32) ≤ (1 : Int32) then 36 else 9), [some (aR 0 32), some (aI n), some (aI (1 : Int32))], [], (C, dm s a v t ld ob, E))) rfl trivial ?_
  refine z_Ev_else (by decide) ?_
  refine z_Ev_blk 9 (c' := ((if (s 17) = (1 : Int32) then 23 else 27), [some (aR 0 32), some (aI n), some (aI (1 : Int32))], [aI n], (C, dm s a v t ld ob, E))) rfl ⟨rfl, trivial⟩ ?_
  refine z_Ev_ite (fun h1 => ?_) (fun h1 => ?_)
  · skip
    refine z_Ev_blk 6 (c' := (4, [some (aR 0 32), some (aI (n + (1 : Int32))), some (aI (2 : Int32))], [], (C, dm s a v t ld ob, E))) rfl trivial ?_
    refine z_Ev_fgt [true, true, true] ?_
    exact z_Ev_eq (c := (4, [some (aR 0 32), some (aI (n + (1 : Int32))), some (aI (2 : Int32))], [], (C, dm s a v t ld ob, E))) (c' := (4, [some (aR 0 32), some (aI (wrS s 17 n)), some (aI (2 : Int32))], [], (C, dm s a v t ld ob, E))) (by simp [h1, wrS]) K
  · skip
    refine z_Ev_blk 5 (c' := (4, [some (aR 0 32), some (aI (n + (0 : Int32))), some (aI (2 : Int32))], [], (C, dm s a v t ld ob, E))) rfl trivial ?_
    refine z_Ev_fgt [true, true, true] ?_
    exact z_Ev_eq (c := (4, [some (aR 0 32), some (aI (n + (0 : Int32))), some (aI (2 : Int32))], [], (C, dm s a v t ld ob, E))) (c' := (4, [some (aR 0 32), some (aI (wrS s 17 n)), some (aI (2 : Int32))], [], (C, dm s a v t ld ob, E))) (by simp [h1, wrS]) K
theorem wr_2 {xs : Nat → Int32} {L : Nat} {o : z_Rs} {M' : Mem} {kk : Nat} (n : Int32) (C : Nat → Nat → Nat → Int32) (s a v t ld ob : Nat → Int32) (E : Nat → Int64)  (K : z_Ev xs L m_X5_warming (4, [some (aR 0 32), some (aI (wrS s 18 n)), some (aI (3 : Int32))], [], (C, dm s a v t ld ob, E)) o M' kk) : z_Ev xs L m_X5_warming (4, [some (aR 0 32), some (aI n), some (aI (2 : Int32))], [], (C, dm s a v t ld ob, E)) o M' kk := by
  refine z_Ev_blk 3 (c' := ((if (4 : Int32) ≤ (2 : Int32) then 36 else 9), [some (aR 0 32), some (aI n), some (aI (2 : Int32))], [], (C, dm s a v t ld ob, E))) rfl trivial ?_
  refine z_Ev_else (by decide) ?_
  refine z_Ev_blk 9 (c' := ((if (s 18) = (1 : Int32) then 23 else 27), [some (aR 0 32), some (aI n), some (aI (2 : Int32))], [aI n], (C, dm s a v t ld ob, E))) rfl ⟨rfl, trivial⟩ ?_
  refine z_Ev_ite (fun h1 => ?_) (fun h1 => ?_)
  · skip
    refine z_Ev_blk 6 (c' := (4, [some (aR 0 32), some (aI (n + (1 : Int32))), some (aI (3 : Int32))], [], (C, dm s a v t ld ob, E))) rfl trivial ?_
    refine z_Ev_fgt [true, true, true] ?_
    exact z_Ev_eq (c := (4, [some (aR 0 32), some (aI (n + (1 : Int32))), some (aI (3 : Int32))], [], (C, dm s a v t ld ob, E))) (c' := (4, [some (aR 0 32), some (aI (wrS s 18 n)), some (aI (3 : Int32))], [], (C, dm s a v t ld ob, E))) (by simp [h1, wrS]) K
  · skip
    refine z_Ev_blk 5 (c' := (4, [some (aR 0 32), some (aI (n + (0 : Int32))), some (aI (3 : Int32))], [], (C, dm s a v t ld ob, E))) rfl trivial ?_
    refine z_Ev_fgt [true, true, true] ?_
    exact z_Ev_eq (c := (4, [some (aR 0 32), some (aI (n + (0 : Int32))), some (aI (3 : Int32))], [], (C, dm s a v t ld ob, E))) (c' := (4, [some (aR 0 32), some (aI (wrS s 18 n)), some (aI (3 : Int32))], [], (C, dm s a v t ld ob, E))) (by simp [h1, wrS]) K
theorem wr_3 {xs : Nat → Int32} {L : Nat} {o : z_Rs} {M' : Mem} {kk : Nat} (n : Int32) (C : Nat → Nat → Nat → Int32) (s a v t ld ob : Nat → Int32) (E : Nat → Int64)  (K : z_Ev xs L m_X5_warming (4, [some (aR 0 32), some (aI (wrS s 19 n)), some (aI (4 : Int32))], [], (C, dm s a v t ld ob, E)) o M' kk) : z_Ev xs L m_X5_warming (4, [some (aR 0 32), some (aI n), some (aI (3 : Int32))], [], (C, dm s a v t ld ob, E)) o M' kk := by
  refine z_Ev_blk 3 (c' := ((if (4 : Int32) ≤ (3 : Int32) then 36 else 9), [some (aR 0 32), some (aI n), some (aI (3 : Int32))], [], (C, dm s a v t ld ob, E))) rfl trivial ?_
  refine z_Ev_else (by decide) ?_
  refine z_Ev_blk 9 (c' := ((if (s 19) = (1 : Int32) then 23 else 27), [some (aR 0 32), some (aI n), some (aI (3 : Int32))], [aI n], (C, dm s a v t ld ob, E))) rfl ⟨rfl, trivial⟩ ?_
  refine z_Ev_ite (fun h1 => ?_) (fun h1 => ?_)
  · skip
    refine z_Ev_blk 6 (c' := (4, [some (aR 0 32), some (aI (n + (1 : Int32))), some (aI (4 : Int32))], [], (C, dm s a v t ld ob, E))) rfl trivial ?_
    refine z_Ev_fgt [true, true, true] ?_
    exact z_Ev_eq (c := (4, [some (aR 0 32), some (aI (n + (1 : Int32))), some (aI (4 : Int32))], [], (C, dm s a v t ld ob, E))) (c' := (4, [some (aR 0 32), some (aI (wrS s 19 n)), some (aI (4 : Int32))], [], (C, dm s a v t ld ob, E))) (by simp [h1, wrS]) K
  · skip
    refine z_Ev_blk 5 (c' := (4, [some (aR 0 32), some (aI (n + (0 : Int32))), some (aI (4 : Int32))], [], (C, dm s a v t ld ob, E))) rfl trivial ?_
    refine z_Ev_fgt [true, true, true] ?_
    exact z_Ev_eq (c := (4, [some (aR 0 32), some (aI (n + (0 : Int32))), some (aI (4 : Int32))], [], (C, dm s a v t ld ob, E))) (c' := (4, [some (aR 0 32), some (aI (wrS s 19 n)), some (aI (4 : Int32))], [], (C, dm s a v t ld ob, E))) (by simp [h1, wrS]) K
def wrmN (s : Nat → Int32) : Int32 := wrS s 19 (wrS s 18 (wrS s 17 (wrS s 16 0)))
theorem m_warming {xs : Nat → Int32} {L : Nat} (C : Nat → Nat → Nat → Int32) (s a v t ld ob : Nat → Int32) (E : Nat → Int64) : z_Mt xs L m_X5_warming [aR 0 32] (C, dm s a v t ld ob, E) (.inl (some (aI (wrmN s)))) (C, dm s a v t ld ob, E) 0 := by
  refine z_Ev_blk 4 (c' := (4, [some (aR 0 32), some (aI (0 : Int32)), some (aI (0 : Int32))], [], (C, dm s a v t ld ob, E))) rfl trivial ?_
  refine wr_0 _ C s a v t ld ob E ?_
  refine wr_1 _ C s a v t ld ob E ?_
  refine wr_2 _ C s a v t ld ob E ?_
  refine wr_3 _ C s a v t ld ob E ?_
  refine z_Ev_blk 3 (c' := ((if (4 : Int32) ≤ (4 : Int32) then 36 else 9), [some (aR 0 32), some (aI (wrmN s)), some (aI (4 : Int32))], [], (C, dm s a v t ld ob, E))) rfl trivial ?_
  refine z_Ev_if (by decide) ?_
  refine z_Ev_blk 1 (c' := (37, [some (aR 0 32), some (aI (wrmN s)), some (aI (4 : Int32))], [aI (wrmN s)], (C, dm s a v t ld ob, E))) rfl trivial ?_
  exact z_Ev_iretE rfl rfl (by rfl) (by rfl)
def fulF (s : Nat → Int32) : Int32 := s 24 + s 25 + s 26 + s 27
theorem m_counted_0 {xs : Nat → Int32} {L : Nat}  (C : Nat → Nat → Nat → Int32) (s a v t ld ob : Nat → Int32) (E : Nat → Int64) {H : Nat} (hs : s 34 = nI H) (hH : H ≤ 48) : z_Mt xs L m_X5_counted [aR 0 32, aI (0 : Int32)] (C, dm s a v t ld ob, E) (.inl (some (aI (s 34)))) (C, dm s a v t (nLd s ld) (nOb s ld ob), E) 0 := by
  refine z_Ev_blk 1 (c' := (1, [some (aR 0 32), some (aI (0 : Int32))], [aR 0 32], (C, dm s a v t ld ob, E))) rfl trivial ?_
  refine z_Ev_call0 (m' := m_X5_shareNow) (as := [aR 0 32]) (r := []) (m_shareNow C s a v t ld ob E hs hH) rfl rfl ?_
  generalize nLd s ld = LD
  generalize nOb s ld ob = OB
  refine z_Ev_blk 2 (c' := (76, [some (aR 0 32), some (aI (0 : Int32))], [], (C, dm s a v t LD OB, E))) rfl trivial ?_
  refine z_Ev_blk 4 (c' := (83, [some (aR 0 32), some (aI (0 : Int32))], [aI (s 34)], (C, dm s a v t LD OB, E))) rfl ⟨rfl, trivial⟩ ?_
  exact z_Ev_iretE rfl rfl (by first | rfl | simp [*]) (by rfl)
theorem m_counted_1 {xs : Nat → Int32} {L : Nat}  (C : Nat → Nat → Nat → Int32) (s a v t ld ob : Nat → Int32) (E : Nat → Int64) {H : Nat} (hs : s 34 = nI H) (hH : H ≤ 48) : z_Mt xs L m_X5_counted [aR 0 32, aI (1 : Int32)] (C, dm s a v t ld ob, E) (.inl (some (aI (manF (runF s))))) (C, dm s a v t (nLd s ld) (nOb s ld ob), E) 0 := by
  refine z_Ev_blk 1 (c' := (1, [some (aR 0 32), some (aI (1 : Int32))], [aR 0 32], (C, dm s a v t ld ob, E))) rfl trivial ?_
  refine z_Ev_call0 (m' := m_X5_shareNow) (as := [aR 0 32]) (r := []) (m_shareNow C s a v t ld ob E hs hH) rfl rfl ?_
  generalize nLd s ld = LD
  generalize nOb s ld ob = OB
  refine z_Ev_blk 2 (c' := (84, [some (aR 0 32), some (aI (1 : Int32))], [], (C, dm s a v t LD OB, E))) rfl trivial ?_
  refine z_Ev_blk 1 (c' := (85, [some (aR 0 32), some (aI (1 : Int32))], [aR 0 32], (C, dm s a v t LD OB, E))) rfl trivial ?_
  refine z_Ev_call0 (m' := m_X5_running) (as := [aR 0 32]) (r := []) ((e_running C (dm s a v t LD OB) E)) rfl rfl ?_
  refine z_Ev_call0 (m' := m_X5_many) (as := [aI (runF s)]) (r := []) (m_many (runF s) C s a v t LD OB E) rfl rfl ?_
  exact z_Ev_iretE rfl rfl (by first | rfl | simp [*]) (by rfl)
theorem m_counted_2 {xs : Nat → Int32} {L : Nat}  (C : Nat → Nat → Nat → Int32) (s a v t ld ob : Nat → Int32) (E : Nat → Int64) {H : Nat} (hs : s 34 = nI H) (hH : H ≤ 48) : z_Mt xs L m_X5_counted [aR 0 32, aI (2 : Int32)] (C, dm s a v t ld ob, E) (.inl (some (aI (wrmN s)))) (C, dm s a v t (nLd s ld) (nOb s ld ob), E) 0 := by
  refine z_Ev_blk 1 (c' := (1, [some (aR 0 32), some (aI (2 : Int32))], [aR 0 32], (C, dm s a v t ld ob, E))) rfl trivial ?_
  refine z_Ev_call0 (m' := m_X5_shareNow) (as := [aR 0 32]) (r := []) (m_shareNow C s a v t ld ob E hs hH) rfl rfl ?_
  generalize nLd s ld = LD
  generalize nOb s ld ob = OB
  refine z_Ev_blk 2 (c' := (92, [some (aR 0 32), some (aI (2 : Int32))], [], (C, dm s a v t LD OB, E))) rfl trivial ?_
  refine z_Ev_blk 1 (c' := (93, [some (aR 0 32), some (aI (2 : Int32))], [aR 0 32], (C, dm s a v t LD OB, E))) rfl trivial ?_
  refine z_Ev_call0 (m' := m_X5_warming) (as := [aR 0 32]) (r := []) (m_warming C s a v t LD OB E) rfl rfl ?_
  exact z_Ev_iretE rfl rfl (by first | rfl | simp [*]) (by rfl)
theorem m_counted_3 {xs : Nat → Int32} {L : Nat}  (C : Nat → Nat → Nat → Int32) (s a v t ld ob : Nat → Int32) (E : Nat → Int64) {H : Nat} (hs : s 34 = nI H) (hH : H ≤ 48) : z_Mt xs L m_X5_counted [aR 0 32, aI (3 : Int32)] (C, dm s a v t ld ob, E) (.inl (some (aI (lodF s (nowF s))))) (C, dm s a v t (nLd s ld) (nOb s ld ob), E) 0 := by
  refine z_Ev_blk 1 (c' := (1, [some (aR 0 32), some (aI (3 : Int32))], [aR 0 32], (C, dm s a v t ld ob, E))) rfl trivial ?_
  refine z_Ev_call0 (m' := m_X5_shareNow) (as := [aR 0 32]) (r := []) (m_shareNow C s a v t ld ob E hs hH) rfl rfl ?_
  generalize nLd s ld = LD
  generalize nOb s ld ob = OB
  refine z_Ev_blk 2 (c' := (97, [some (aR 0 32), some (aI (3 : Int32))], [], (C, dm s a v t LD OB, E))) rfl trivial ?_
  refine z_Ev_blk 2 (c' := (99, [some (aR 0 32), some (aI (3 : Int32))], [aR 0 32, aR 0 32], (C, dm s a v t LD OB, E))) rfl trivial ?_
  refine z_Ev_call0 (m' := m_X5_now) (as := [aR 0 32]) (r := [aR 0 32]) (m_now C s a v t LD OB E) rfl rfl ?_
  refine z_Ev_call0 (m' := m_X5_loadOf) (as := [aR 0 32, aI (nowF s)]) (r := []) (E_load (nowF s) (nowF_in hs hH) C s a v t LD OB E) rfl rfl ?_
  exact z_Ev_iretE rfl rfl (by first | rfl | simp [*]) (by rfl)
theorem m_counted_4 {xs : Nat → Int32} {L : Nat}  (C : Nat → Nat → Nat → Int32) (s a v t ld ob : Nat → Int32) (E : Nat → Int64) {H : Nat} (hs : s 34 = nI H) (hH : H ≤ 48) : z_Mt xs L m_X5_counted [aR 0 32, aI (4 : Int32)] (C, dm s a v t ld ob, E) (.inl (some (aI (nOb s ld ob 8)))) (C, dm s a v t (nLd s ld) (nOb s ld ob), E) 0 := by
  refine z_Ev_blk 1 (c' := (1, [some (aR 0 32), some (aI (4 : Int32))], [aR 0 32], (C, dm s a v t ld ob, E))) rfl trivial ?_
  refine z_Ev_call0 (m' := m_X5_shareNow) (as := [aR 0 32]) (r := []) (m_shareNow C s a v t ld ob E hs hH) rfl rfl ?_
  generalize nLd s ld = LD
  generalize nOb s ld ob = OB
  refine z_Ev_blk 2 (c' := (106, [some (aR 0 32), some (aI (4 : Int32))], [], (C, dm s a v t LD OB, E))) rfl trivial ?_
  refine z_Ev_blk 2 (c' := (110, [some (aR 0 32), some (aI (4 : Int32))], [aI (OB 8)], (C, dm s a v t LD OB, E))) rfl trivial ?_
  exact z_Ev_iretE rfl rfl (by first | rfl | simp [*]) (by rfl)
theorem m_counted_5 {xs : Nat → Int32} {L : Nat}  (C : Nat → Nat → Nat → Int32) (s a v t ld ob : Nat → Int32) (E : Nat → Int64) {H : Nat} (hs : s 34 = nI H) (hH : H ≤ 48) : z_Mt xs L m_X5_counted [aR 0 32, aI (5 : Int32)] (C, dm s a v t ld ob, E) (.inl (some (aI (nOb s ld ob 9)))) (C, dm s a v t (nLd s ld) (nOb s ld ob), E) 0 := by
  refine z_Ev_blk 1 (c' := (1, [some (aR 0 32), some (aI (5 : Int32))], [aR 0 32], (C, dm s a v t ld ob, E))) rfl trivial ?_
  refine z_Ev_call0 (m' := m_X5_shareNow) (as := [aR 0 32]) (r := []) (m_shareNow C s a v t ld ob E hs hH) rfl rfl ?_
  generalize nLd s ld = LD
  generalize nOb s ld ob = OB
  refine z_Ev_blk 2 (c' := (111, [some (aR 0 32), some (aI (5 : Int32))], [], (C, dm s a v t LD OB, E))) rfl trivial ?_
  refine z_Ev_blk 2 (c' := (115, [some (aR 0 32), some (aI (5 : Int32))], [aI (OB 9)], (C, dm s a v t LD OB, E))) rfl trivial ?_
  exact z_Ev_iretE rfl rfl (by first | rfl | simp [*]) (by rfl)
theorem m_counted_6 {xs : Nat → Int32} {L : Nat}  (C : Nat → Nat → Nat → Int32) (s a v t ld ob : Nat → Int32) (E : Nat → Int64) {H : Nat} (hs : s 34 = nI H) (hH : H ≤ 48) : z_Mt xs L m_X5_counted [aR 0 32, aI (6 : Int32)] (C, dm s a v t ld ob, E) (.inl (some (aI (nOb s ld ob 10)))) (C, dm s a v t (nLd s ld) (nOb s ld ob), E) 0 := by
  refine z_Ev_blk 1 (c' := (1, [some (aR 0 32), some (aI (6 : Int32))], [aR 0 32], (C, dm s a v t ld ob, E))) rfl trivial ?_
  refine z_Ev_call0 (m' := m_X5_shareNow) (as := [aR 0 32]) (r := []) (m_shareNow C s a v t ld ob E hs hH) rfl rfl ?_
  generalize nLd s ld = LD
  generalize nOb s ld ob = OB
  refine z_Ev_blk 2 (c' := (116, [some (aR 0 32), some (aI (6 : Int32))], [], (C, dm s a v t LD OB, E))) rfl trivial ?_
  refine z_Ev_blk 2 (c' := (120, [some (aR 0 32), some (aI (6 : Int32))], [aI (OB 10)], (C, dm s a v t LD OB, E))) rfl trivial ?_
  exact z_Ev_iretE rfl rfl (by first | rfl | simp [*]) (by rfl)
theorem m_counted_7 {xs : Nat → Int32} {L : Nat}  (C : Nat → Nat → Nat → Int32) (s a v t ld ob : Nat → Int32) (E : Nat → Int64) {H : Nat} (hs : s 34 = nI H) (hH : H ≤ 48) : z_Mt xs L m_X5_counted [aR 0 32, aI (7 : Int32)] (C, dm s a v t ld ob, E) (.inl (some (aI (if nOb s ld ob 11 = 0 then 0 else 1)))) (C, dm s a v t (nLd s ld) (nOb s ld ob), E) 0 := by
  refine z_Ev_blk 1 (c' := (1, [some (aR 0 32), some (aI (7 : Int32))], [aR 0 32], (C, dm s a v t ld ob, E))) rfl trivial ?_
  refine z_Ev_call0 (m' := m_X5_shareNow) (as := [aR 0 32]) (r := []) (m_shareNow C s a v t ld ob E hs hH) rfl rfl ?_
  generalize nLd s ld = LD
  generalize nOb s ld ob = OB
  refine z_Ev_blk 2 (c' := (121, [some (aR 0 32), some (aI (7 : Int32))], [], (C, dm s a v t LD OB, E))) rfl trivial ?_
  refine z_Ev_blk 3 (c' := ((if (OB 11) = 0 then 132 else 128), [some (aR 0 32), some (aI (7 : Int32))], [], (C, dm s a v t LD OB, E))) rfl trivial ?_
  refine z_Ev_ite (fun h1 => ?_) (fun h1 => ?_)
  · skip
    refine z_Ev_blk 1 (c' := (133, [some (aR 0 32), some (aI (7 : Int32))], [aI (0 : Int32)], (C, dm s a v t LD OB, E))) rfl trivial ?_
    exact z_Ev_iretE rfl rfl (by first | rfl | simp [*]) (by rfl)
  · skip
    refine z_Ev_blk 2 (c' := (133, [some (aR 0 32), some (aI (7 : Int32))], [aI (1 : Int32)], (C, dm s a v t LD OB, E))) rfl trivial ?_
    exact z_Ev_iretE rfl rfl (by first | rfl | simp [*]) (by rfl)
theorem m_counted_8 {xs : Nat → Int32} {L : Nat}  (C : Nat → Nat → Nat → Int32) (s a v t ld ob : Nat → Int32) (E : Nat → Int64) {H : Nat} (hs : s 34 = nI H) (hH : H ≤ 48) : z_Mt xs L m_X5_counted [aR 0 32, aI (8 : Int32)] (C, dm s a v t ld ob, E) (.inl (some (aI (s 35)))) (C, dm s a v t (nLd s ld) (nOb s ld ob), E) 0 := by
  refine z_Ev_blk 1 (c' := (1, [some (aR 0 32), some (aI (8 : Int32))], [aR 0 32], (C, dm s a v t ld ob, E))) rfl trivial ?_
  refine z_Ev_call0 (m' := m_X5_shareNow) (as := [aR 0 32]) (r := []) (m_shareNow C s a v t ld ob E hs hH) rfl rfl ?_
  generalize nLd s ld = LD
  generalize nOb s ld ob = OB
  refine z_Ev_blk 2 (c' := (134, [some (aR 0 32), some (aI (8 : Int32))], [], (C, dm s a v t LD OB, E))) rfl trivial ?_
  refine z_Ev_blk 8 (c' := (146, [some (aR 0 32), some (aI (8 : Int32))], [aI (s 35)], (C, dm s a v t LD OB, E))) rfl ⟨rfl, trivial⟩ ?_
  exact z_Ev_iretE rfl rfl (by first | rfl | simp [*]) (by rfl)
theorem m_counted_9 {xs : Nat → Int32} {L : Nat}  (C : Nat → Nat → Nat → Int32) (s a v t ld ob : Nat → Int32) (E : Nat → Int64) {H : Nat} (hs : s 34 = nI H) (hH : H ≤ 48) : z_Mt xs L m_X5_counted [aR 0 32, aI (9 : Int32)] (C, dm s a v t ld ob, E) (.inl (some (aI (s 36)))) (C, dm s a v t (nLd s ld) (nOb s ld ob), E) 0 := by
  refine z_Ev_blk 1 (c' := (1, [some (aR 0 32), some (aI (9 : Int32))], [aR 0 32], (C, dm s a v t ld ob, E))) rfl trivial ?_
  refine z_Ev_call0 (m' := m_X5_shareNow) (as := [aR 0 32]) (r := []) (m_shareNow C s a v t ld ob E hs hH) rfl rfl ?_
  generalize nLd s ld = LD
  generalize nOb s ld ob = OB
  refine z_Ev_blk 2 (c' := (134, [some (aR 0 32), some (aI (9 : Int32))], [], (C, dm s a v t LD OB, E))) rfl trivial ?_
  refine z_Ev_blk 8 (c' := (146, [some (aR 0 32), some (aI (9 : Int32))], [aI (s 36)], (C, dm s a v t LD OB, E))) rfl ⟨rfl, trivial⟩ ?_
  exact z_Ev_iretE rfl rfl (by first | rfl | simp [*]) (by rfl)
theorem m_counted_10 {xs : Nat → Int32} {L : Nat}  (C : Nat → Nat → Nat → Int32) (s a v t ld ob : Nat → Int32) (E : Nat → Int64) {H : Nat} (hs : s 34 = nI H) (hH : H ≤ 48) : z_Mt xs L m_X5_counted [aR 0 32, aI (10 : Int32)] (C, dm s a v t ld ob, E) (.inl (some (aI (s 37)))) (C, dm s a v t (nLd s ld) (nOb s ld ob), E) 0 := by
  refine z_Ev_blk 1 (c' := (1, [some (aR 0 32), some (aI (10 : Int32))], [aR 0 32], (C, dm s a v t ld ob, E))) rfl trivial ?_
  refine z_Ev_call0 (m' := m_X5_shareNow) (as := [aR 0 32]) (r := []) (m_shareNow C s a v t ld ob E hs hH) rfl rfl ?_
  generalize nLd s ld = LD
  generalize nOb s ld ob = OB
  refine z_Ev_blk 2 (c' := (134, [some (aR 0 32), some (aI (10 : Int32))], [], (C, dm s a v t LD OB, E))) rfl trivial ?_
  refine z_Ev_blk 8 (c' := (146, [some (aR 0 32), some (aI (10 : Int32))], [aI (s 37)], (C, dm s a v t LD OB, E))) rfl ⟨rfl, trivial⟩ ?_
  exact z_Ev_iretE rfl rfl (by first | rfl | simp [*]) (by rfl)
theorem m_counted_11 {xs : Nat → Int32} {L : Nat}  (C : Nat → Nat → Nat → Int32) (s a v t ld ob : Nat → Int32) (E : Nat → Int64) {H : Nat} (hs : s 34 = nI H) (hH : H ≤ 48) : z_Mt xs L m_X5_counted [aR 0 32, aI (11 : Int32)] (C, dm s a v t ld ob, E) (.inl (some (aI (s 38)))) (C, dm s a v t (nLd s ld) (nOb s ld ob), E) 0 := by
  refine z_Ev_blk 1 (c' := (1, [some (aR 0 32), some (aI (11 : Int32))], [aR 0 32], (C, dm s a v t ld ob, E))) rfl trivial ?_
  refine z_Ev_call0 (m' := m_X5_shareNow) (as := [aR 0 32]) (r := []) (m_shareNow C s a v t ld ob E hs hH) rfl rfl ?_
  generalize nLd s ld = LD
  generalize nOb s ld ob = OB
  refine z_Ev_blk 2 (c' := (134, [some (aR 0 32), some (aI (11 : Int32))], [], (C, dm s a v t LD OB, E))) rfl trivial ?_
  refine z_Ev_blk 8 (c' := (146, [some (aR 0 32), some (aI (11 : Int32))], [aI (s 38)], (C, dm s a v t LD OB, E))) rfl ⟨rfl, trivial⟩ ?_
  exact z_Ev_iretE rfl rfl (by first | rfl | simp [*]) (by rfl)
theorem m_counted_12 {xs : Nat → Int32} {L : Nat}  (C : Nat → Nat → Nat → Int32) (s a v t ld ob : Nat → Int32) (E : Nat → Int64) {H : Nat} (hs : s 34 = nI H) (hH : H ≤ 48) : z_Mt xs L m_X5_counted [aR 0 32, aI (12 : Int32)] (C, dm s a v t ld ob, E) (.inl (some (aI (s 39)))) (C, dm s a v t (nLd s ld) (nOb s ld ob), E) 0 := by
  refine z_Ev_blk 1 (c' := (1, [some (aR 0 32), some (aI (12 : Int32))], [aR 0 32], (C, dm s a v t ld ob, E))) rfl trivial ?_
  refine z_Ev_call0 (m' := m_X5_shareNow) (as := [aR 0 32]) (r := []) (m_shareNow C s a v t ld ob E hs hH) rfl rfl ?_
  generalize nLd s ld = LD
  generalize nOb s ld ob = OB
  refine z_Ev_blk 2 (c' := (134, [some (aR 0 32), some (aI (12 : Int32))], [], (C, dm s a v t LD OB, E))) rfl trivial ?_
  refine z_Ev_blk 8 (c' := (146, [some (aR 0 32), some (aI (12 : Int32))], [aI (s 39)], (C, dm s a v t LD OB, E))) rfl ⟨rfl, trivial⟩ ?_
  exact z_Ev_iretE rfl rfl (by first | rfl | simp [*]) (by rfl)
theorem m_counted_13 {xs : Nat → Int32} {L : Nat}  (C : Nat → Nat → Nat → Int32) (s a v t ld ob : Nat → Int32) (E : Nat → Int64) {H : Nat} (hs : s 34 = nI H) (hH : H ≤ 48) : z_Mt xs L m_X5_counted [aR 0 32, aI (13 : Int32)] (C, dm s a v t ld ob, E) (.inl (some (aI (fulF s)))) (C, dm s a v t (nLd s ld) (nOb s ld ob), E) 0 := by
  refine z_Ev_blk 1 (c' := (1, [some (aR 0 32), some (aI (13 : Int32))], [aR 0 32], (C, dm s a v t ld ob, E))) rfl trivial ?_
  refine z_Ev_call0 (m' := m_X5_shareNow) (as := [aR 0 32]) (r := []) (m_shareNow C s a v t ld ob E hs hH) rfl rfl ?_
  generalize nLd s ld = LD
  generalize nOb s ld ob = OB
  refine z_Ev_blk 2 (c' := (147, [some (aR 0 32), some (aI (13 : Int32))], [], (C, dm s a v t LD OB, E))) rfl trivial ?_
  refine z_Ev_blk 1 (c' := (148, [some (aR 0 32), some (aI (13 : Int32))], [aR 0 32], (C, dm s a v t LD OB, E))) rfl trivial ?_
  refine z_Ev_call0 (m' := m_X5_allFuel) (as := [aR 0 32]) (r := []) (m_allFuel C s a v t LD OB E) rfl rfl ?_
  exact z_Ev_iretE rfl rfl (by first | rfl | simp [*]) (by rfl)
theorem m_counted_14 {xs : Nat → Int32} {L : Nat}  (C : Nat → Nat → Nat → Int32) (s a v t ld ob : Nat → Int32) (E : Nat → Int64) {H : Nat} (hs : s 34 = nI H) (hH : H ≤ 48) : z_Mt xs L m_X5_counted [aR 0 32, aI (14 : Int32)] (C, dm s a v t ld ob, E) (.inl (some (aI (nOb s ld ob 4)))) (C, dm s a v t (nLd s ld) (nOb s ld ob), E) 0 := by
  refine z_Ev_blk 1 (c' := (1, [some (aR 0 32), some (aI (14 : Int32))], [aR 0 32], (C, dm s a v t ld ob, E))) rfl trivial ?_
  refine z_Ev_call0 (m' := m_X5_shareNow) (as := [aR 0 32]) (r := []) (m_shareNow C s a v t ld ob E hs hH) rfl rfl ?_
  generalize nLd s ld = LD
  generalize nOb s ld ob = OB
  refine z_Ev_blk 2 (c' := (152, [some (aR 0 32), some (aI (14 : Int32))], [], (C, dm s a v t LD OB, E))) rfl trivial ?_
  refine z_Ev_blk 2 (c' := (156, [some (aR 0 32), some (aI (14 : Int32))], [aI (OB 4)], (C, dm s a v t LD OB, E))) rfl trivial ?_
  exact z_Ev_iretE rfl rfl (by first | rfl | simp [*]) (by rfl)
theorem m16_and {m b : Int32} (h : m ∈ m16) (hb : b ∈ m16) : (m &&& b) ∈ m16 := by
  have h2 : m16.all (fun m => m16.all (fun b => decide ((m &&& b) ∈ m16))) = true := by decide +kernel
  exact of_decide_eq_true (List.all_eq_true.mp (List.all_eq_true.mp h2 m h) b hb)
theorem m_darkWithout_0 {xs : Nat → Int32} {L : Nat}  (C : Nat → Nat → Nat → Int32) (s a v t ld ob : Nat → Int32) (E : Nat → Int64) {H : Nat} (hs : s 34 = nI H) (hH : H ≤ 48) : z_Mt xs L m_X5_darkWithout [aR 0 32, aI (0 : Int32)] (C, dm s a v t ld ob, E) (.inl (some (aI (sOb (md g0 s) (lodF s (nowF s)) (runF s &&& 14) ld ob 8)))) (C, dm s a v t ((sGv (md g0 s) (lodF s (nowF s)) (runF s &&& 14) ld).1) (sOb (md g0 s) (lodF s (nowF s)) (runF s &&& 14) ld ob), E) 0 := by
  refine z_Ev_blk 3 (c' := (3, [some (aR 0 32), some (aI (0 : Int32))], [aR 0 32, aR 0 32, aR 0 32], (C, dm s a v t ld ob, E))) rfl trivial ?_
  refine z_Ev_call0 (m' := m_X5_now) (as := [aR 0 32]) (r := [aR 0 32, aR 0 32]) (m_now C s a v t ld ob E) rfl rfl ?_
  refine z_Ev_call0 (m' := m_X5_loadOf) (as := [aR 0 32, aI (nowF s)]) (r := [aR 0 32]) (E_load (nowF s) (nowF_in hs hH) C s a v t ld ob E) rfl rfl ?_
  refine z_Ev_blk 1 (c' := (10, [some (aR 0 32), some (aI (0 : Int32))], [aR 0 32, aI (lodF s (nowF s)), aR 0 32], (C, dm s a v t ld ob, E))) rfl trivial ?_
  refine z_Ev_call0 (m' := m_X5_running) (as := [aR 0 32]) (r := [aI (lodF s (nowF s)), aR 0 32]) ((e_running C (dm s a v t ld ob) E)) rfl rfl ?_
  refine z_Ev_blk 6 (c' := (20, [some (aR 0 32), some (aI (0 : Int32))], [aI ((runF s) &&& (14 : Int32)), aI (lodF s (nowF s)), aR 0 32], (C, dm s a v t ld ob, E))) rfl trivial ?_
  refine z_Ev_call0 (m' := m_X5_share) (as := [aR 0 32, aI (lodF s (nowF s)), aI ((runF s) &&& (14 : Int32))]) (r := []) (E_share (lodF s (nowF s)) ((runF s) &&& (14 : Int32)) (m16_and (mkF_m _ _) (by decide)) C s a v t ld ob E) rfl rfl ?_
  refine z_Ev_blk 2 (c' := (27, [some (aR 0 32), some (aI (0 : Int32))], [aI ((sOb (md g0 s) (lodF s (nowF s)) ((runF s) &&& (14 : Int32)) ld ob) 8)], (C, dm s a v t ((sGv (md g0 s) (lodF s (nowF s)) ((runF s) &&& (14 : Int32)) ld).1) (sOb (md g0 s) (lodF s (nowF s)) ((runF s) &&& (14 : Int32)) ld ob), E))) rfl trivial ?_
  exact z_Ev_iretE rfl rfl (by rfl) (by rfl)
theorem m_darkWithout_1 {xs : Nat → Int32} {L : Nat}  (C : Nat → Nat → Nat → Int32) (s a v t ld ob : Nat → Int32) (E : Nat → Int64) {H : Nat} (hs : s 34 = nI H) (hH : H ≤ 48) : z_Mt xs L m_X5_darkWithout [aR 0 32, aI (1 : Int32)] (C, dm s a v t ld ob, E) (.inl (some (aI (sOb (md g0 s) (lodF s (nowF s)) (runF s &&& 13) ld ob 8)))) (C, dm s a v t ((sGv (md g0 s) (lodF s (nowF s)) (runF s &&& 13) ld).1) (sOb (md g0 s) (lodF s (nowF s)) (runF s &&& 13) ld ob), E) 0 := by
  refine z_Ev_blk 3 (c' := (3, [some (aR 0 32), some (aI (1 : Int32))], [aR 0 32, aR 0 32, aR 0 32], (C, dm s a v t ld ob, E))) rfl trivial ?_
  refine z_Ev_call0 (m' := m_X5_now) (as := [aR 0 32]) (r := [aR 0 32, aR 0 32]) (m_now C s a v t ld ob E) rfl rfl ?_
  refine z_Ev_call0 (m' := m_X5_loadOf) (as := [aR 0 32, aI (nowF s)]) (r := [aR 0 32]) (E_load (nowF s) (nowF_in hs hH) C s a v t ld ob E) rfl rfl ?_
  refine z_Ev_blk 1 (c' := (10, [some (aR 0 32), some (aI (1 : Int32))], [aR 0 32, aI (lodF s (nowF s)), aR 0 32], (C, dm s a v t ld ob, E))) rfl trivial ?_
  refine z_Ev_call0 (m' := m_X5_running) (as := [aR 0 32]) (r := [aI (lodF s (nowF s)), aR 0 32]) ((e_running C (dm s a v t ld ob) E)) rfl rfl ?_
  refine z_Ev_blk 6 (c' := (20, [some (aR 0 32), some (aI (1 : Int32))], [aI ((runF s) &&& (13 : Int32)), aI (lodF s (nowF s)), aR 0 32], (C, dm s a v t ld ob, E))) rfl trivial ?_
  refine z_Ev_call0 (m' := m_X5_share) (as := [aR 0 32, aI (lodF s (nowF s)), aI ((runF s) &&& (13 : Int32))]) (r := []) (E_share (lodF s (nowF s)) ((runF s) &&& (13 : Int32)) (m16_and (mkF_m _ _) (by decide)) C s a v t ld ob E) rfl rfl ?_
  refine z_Ev_blk 2 (c' := (27, [some (aR 0 32), some (aI (1 : Int32))], [aI ((sOb (md g0 s) (lodF s (nowF s)) ((runF s) &&& (13 : Int32)) ld ob) 8)], (C, dm s a v t ((sGv (md g0 s) (lodF s (nowF s)) ((runF s) &&& (13 : Int32)) ld).1) (sOb (md g0 s) (lodF s (nowF s)) ((runF s) &&& (13 : Int32)) ld ob), E))) rfl trivial ?_
  exact z_Ev_iretE rfl rfl (by rfl) (by rfl)
theorem m_darkWithout_2 {xs : Nat → Int32} {L : Nat}  (C : Nat → Nat → Nat → Int32) (s a v t ld ob : Nat → Int32) (E : Nat → Int64) {H : Nat} (hs : s 34 = nI H) (hH : H ≤ 48) : z_Mt xs L m_X5_darkWithout [aR 0 32, aI (2 : Int32)] (C, dm s a v t ld ob, E) (.inl (some (aI (sOb (md g0 s) (lodF s (nowF s)) (runF s &&& 11) ld ob 8)))) (C, dm s a v t ((sGv (md g0 s) (lodF s (nowF s)) (runF s &&& 11) ld).1) (sOb (md g0 s) (lodF s (nowF s)) (runF s &&& 11) ld ob), E) 0 := by
  refine z_Ev_blk 3 (c' := (3, [some (aR 0 32), some (aI (2 : Int32))], [aR 0 32, aR 0 32, aR 0 32], (C, dm s a v t ld ob, E))) rfl trivial ?_
  refine z_Ev_call0 (m' := m_X5_now) (as := [aR 0 32]) (r := [aR 0 32, aR 0 32]) (m_now C s a v t ld ob E) rfl rfl ?_
  refine z_Ev_call0 (m' := m_X5_loadOf) (as := [aR 0 32, aI (nowF s)]) (r := [aR 0 32]) (E_load (nowF s) (nowF_in hs hH) C s a v t ld ob E) rfl rfl ?_
  refine z_Ev_blk 1 (c' := (10, [some (aR 0 32), some (aI (2 : Int32))], [aR 0 32, aI (lodF s (nowF s)), aR 0 32], (C, dm s a v t ld ob, E))) rfl trivial ?_
  refine z_Ev_call0 (m' := m_X5_running) (as := [aR 0 32]) (r := [aI (lodF s (nowF s)), aR 0 32]) ((e_running C (dm s a v t ld ob) E)) rfl rfl ?_
  refine z_Ev_blk 6 (c' := (20, [some (aR 0 32), some (aI (2 : Int32))], [aI ((runF s) &&& (11 : Int32)), aI (lodF s (nowF s)), aR 0 32], (C, dm s a v t ld ob, E))) rfl trivial ?_
  refine z_Ev_call0 (m' := m_X5_share) (as := [aR 0 32, aI (lodF s (nowF s)), aI ((runF s) &&& (11 : Int32))]) (r := []) (E_share (lodF s (nowF s)) ((runF s) &&& (11 : Int32)) (m16_and (mkF_m _ _) (by decide)) C s a v t ld ob E) rfl rfl ?_
  refine z_Ev_blk 2 (c' := (27, [some (aR 0 32), some (aI (2 : Int32))], [aI ((sOb (md g0 s) (lodF s (nowF s)) ((runF s) &&& (11 : Int32)) ld ob) 8)], (C, dm s a v t ((sGv (md g0 s) (lodF s (nowF s)) ((runF s) &&& (11 : Int32)) ld).1) (sOb (md g0 s) (lodF s (nowF s)) ((runF s) &&& (11 : Int32)) ld ob), E))) rfl trivial ?_
  exact z_Ev_iretE rfl rfl (by rfl) (by rfl)
theorem m_darkWithout_3 {xs : Nat → Int32} {L : Nat}  (C : Nat → Nat → Nat → Int32) (s a v t ld ob : Nat → Int32) (E : Nat → Int64) {H : Nat} (hs : s 34 = nI H) (hH : H ≤ 48) : z_Mt xs L m_X5_darkWithout [aR 0 32, aI (3 : Int32)] (C, dm s a v t ld ob, E) (.inl (some (aI (sOb (md g0 s) (lodF s (nowF s)) (runF s &&& 7) ld ob 8)))) (C, dm s a v t ((sGv (md g0 s) (lodF s (nowF s)) (runF s &&& 7) ld).1) (sOb (md g0 s) (lodF s (nowF s)) (runF s &&& 7) ld ob), E) 0 := by
  refine z_Ev_blk 3 (c' := (3, [some (aR 0 32), some (aI (3 : Int32))], [aR 0 32, aR 0 32, aR 0 32], (C, dm s a v t ld ob, E))) rfl trivial ?_
  refine z_Ev_call0 (m' := m_X5_now) (as := [aR 0 32]) (r := [aR 0 32, aR 0 32]) (m_now C s a v t ld ob E) rfl rfl ?_
  refine z_Ev_call0 (m' := m_X5_loadOf) (as := [aR 0 32, aI (nowF s)]) (r := [aR 0 32]) (E_load (nowF s) (nowF_in hs hH) C s a v t ld ob E) rfl rfl ?_
  refine z_Ev_blk 1 (c' := (10, [some (aR 0 32), some (aI (3 : Int32))], [aR 0 32, aI (lodF s (nowF s)), aR 0 32], (C, dm s a v t ld ob, E))) rfl trivial ?_
  refine z_Ev_call0 (m' := m_X5_running) (as := [aR 0 32]) (r := [aI (lodF s (nowF s)), aR 0 32]) ((e_running C (dm s a v t ld ob) E)) rfl rfl ?_
  refine z_Ev_blk 6 (c' := (20, [some (aR 0 32), some (aI (3 : Int32))], [aI ((runF s) &&& (7 : Int32)), aI (lodF s (nowF s)), aR 0 32], (C, dm s a v t ld ob, E))) rfl trivial ?_
  refine z_Ev_call0 (m' := m_X5_share) (as := [aR 0 32, aI (lodF s (nowF s)), aI ((runF s) &&& (7 : Int32))]) (r := []) (E_share (lodF s (nowF s)) ((runF s) &&& (7 : Int32)) (m16_and (mkF_m _ _) (by decide)) C s a v t ld ob E) rfl rfl ?_
  refine z_Ev_blk 2 (c' := (27, [some (aR 0 32), some (aI (3 : Int32))], [aI ((sOb (md g0 s) (lodF s (nowF s)) ((runF s) &&& (7 : Int32)) ld ob) 8)], (C, dm s a v t ((sGv (md g0 s) (lodF s (nowF s)) ((runF s) &&& (7 : Int32)) ld).1) (sOb (md g0 s) (lodF s (nowF s)) ((runF s) &&& (7 : Int32)) ld ob), E))) rfl trivial ?_
  exact z_Ev_iretE rfl rfl (by rfl) (by rfl)
