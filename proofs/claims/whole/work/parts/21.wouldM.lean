/-! THE MODEL: what would be -/
theorem m_toldOfHour_0 {xs : Nat → Int32} {L : Nat} (h : Int32) (C : Nat → Nat → Nat → Int32) (s a v t ld ob : Nat → Int32) (E : Nat → Int64) (h0 : z_inb (40 + h) 376 = true) : z_Mt xs L m_X5_toldOfHour [aR 0 32, aI h, aI (0 : Int32)] (C, dm s a v t ld ob, E) (.inl (some (aI (s (40 + h).toNatClampNeg)))) (C, dm s a v t ld ob, E) 0 := by
  refine z_Ev_blk 2 (c' := ((if (0 : Int32) = 0 then 4 else 16), [some (aR 0 32), some (aI h), some (aI (0 : Int32))], [], (C, dm s a v t ld ob, E))) rfl trivial ?_
  refine z_Ev_if (by decide) ?_
  refine z_Ev_blk 7 (c' := (47, [some (aR 0 32), some (aI h), some (aI (0 : Int32))], [aI (s (((40 : Int32) + h).toNatClampNeg))], (C, dm s a v t ld ob, E))) rfl ⟨(h0), trivial⟩ ?_
  exact z_Ev_iretE rfl rfl (by rfl) (by rfl)
theorem m_toldOfHour_1 {xs : Nat → Int32} {L : Nat} (h : Int32) (C : Nat → Nat → Nat → Int32) (s a v t ld ob : Nat → Int32) (E : Nat → Int64) (h0 : s 34 ≤ h ∨ z_inb (88 + 6 * h + 1 - 1) 376 = true) : z_Mt xs L m_X5_toldOfHour [aR 0 32, aI h, aI (1 : Int32)] (C, dm s a v t ld ob, E) (.inl (some (aI (if s 34 ≤ h then -1 else s (88 + 6 * h + 1 - 1).toNatClampNeg)))) (C, dm s a v t ld ob, E) 0 := by
  refine z_Ev_blk 2 (c' := ((if (1 : Int32) = 0 then 4 else 16), [some (aR 0 32), some (aI h), some (aI (1 : Int32))], [], (C, dm s a v t ld ob, E))) rfl trivial ?_
  refine z_Ev_else (by decide) ?_
  refine z_Ev_blk 6 (c' := ((if (s 34) ≤ h then 46 else 27), [some (aR 0 32), some (aI h), some (aI (1 : Int32))], [], (C, dm s a v t ld ob, E))) rfl ⟨rfl, trivial⟩ ?_
  refine z_Ev_ite (fun h1 => ?_) (fun h1 => ?_)
  · skip
    refine z_Ev_blk 1 (c' := (47, [some (aR 0 32), some (aI h), some (aI (1 : Int32))], [aI (-1 : Int32)], (C, dm s a v t ld ob, E))) rfl trivial ?_
    exact z_Ev_iretE rfl rfl (by simp [*]) (by rfl)
  · skip
    refine z_Ev_blk 13 (c' := (47, [some (aR 0 32), some (aI h), some (aI (1 : Int32))], [aI (s (((((88 : Int32) + ((6 : Int32) * h)) + (1 : Int32)) - (1 : Int32)).toNatClampNeg))], (C, dm s a v t ld ob, E))) rfl ⟨(h0.resolve_left h1), trivial⟩ ?_
    exact z_Ev_iretE rfl rfl (by simp [*]) (by rfl)
theorem m_toldOfHour_2 {xs : Nat → Int32} {L : Nat} (h : Int32) (C : Nat → Nat → Nat → Int32) (s a v t ld ob : Nat → Int32) (E : Nat → Int64) (h0 : s 34 ≤ h ∨ z_inb (88 + 6 * h + 2 - 1) 376 = true) : z_Mt xs L m_X5_toldOfHour [aR 0 32, aI h, aI (2 : Int32)] (C, dm s a v t ld ob, E) (.inl (some (aI (if s 34 ≤ h then -1 else s (88 + 6 * h + 2 - 1).toNatClampNeg)))) (C, dm s a v t ld ob, E) 0 := by
  refine z_Ev_blk 2 (c' := ((if (2 : Int32) = 0 then 4 else 16), [some (aR 0 32), some (aI h), some (aI (2 : Int32))], [], (C, dm s a v t ld ob, E))) rfl trivial ?_
  refine z_Ev_else (by decide) ?_
  refine z_Ev_blk 6 (c' := ((if (s 34) ≤ h then 46 else 27), [some (aR 0 32), some (aI h), some (aI (2 : Int32))], [], (C, dm s a v t ld ob, E))) rfl ⟨rfl, trivial⟩ ?_
  refine z_Ev_ite (fun h1 => ?_) (fun h1 => ?_)
  · skip
    refine z_Ev_blk 1 (c' := (47, [some (aR 0 32), some (aI h), some (aI (2 : Int32))], [aI (-1 : Int32)], (C, dm s a v t ld ob, E))) rfl trivial ?_
    exact z_Ev_iretE rfl rfl (by simp [*]) (by rfl)
  · skip
    refine z_Ev_blk 13 (c' := (47, [some (aR 0 32), some (aI h), some (aI (2 : Int32))], [aI (s (((((88 : Int32) + ((6 : Int32) * h)) + (2 : Int32)) - (1 : Int32)).toNatClampNeg))], (C, dm s a v t ld ob, E))) rfl ⟨(h0.resolve_left h1), trivial⟩ ?_
    exact z_Ev_iretE rfl rfl (by simp [*]) (by rfl)
theorem m_toldOfHour_3 {xs : Nat → Int32} {L : Nat} (h : Int32) (C : Nat → Nat → Nat → Int32) (s a v t ld ob : Nat → Int32) (E : Nat → Int64) (h0 : s 34 ≤ h ∨ z_inb (88 + 6 * h + 3 - 1) 376 = true) : z_Mt xs L m_X5_toldOfHour [aR 0 32, aI h, aI (3 : Int32)] (C, dm s a v t ld ob, E) (.inl (some (aI (if s 34 ≤ h then -1 else s (88 + 6 * h + 3 - 1).toNatClampNeg)))) (C, dm s a v t ld ob, E) 0 := by
  refine z_Ev_blk 2 (c' := ((if (3 : Int32) = 0 then 4 else 16), [some (aR 0 32), some (aI h), some (aI (3 : Int32))], [], (C, dm s a v t ld ob, E))) rfl trivial ?_
  refine z_Ev_else (by decide) ?_
  refine z_Ev_blk 6 (c' := ((if (s 34) ≤ h then 46 else 27), [some (aR 0 32), some (aI h), some (aI (3 : Int32))], [], (C, dm s a v t ld ob, E))) rfl ⟨rfl, trivial⟩ ?_
  refine z_Ev_ite (fun h1 => ?_) (fun h1 => ?_)
  · skip
    refine z_Ev_blk 1 (c' := (47, [some (aR 0 32), some (aI h), some (aI (3 : Int32))], [aI (-1 : Int32)], (C, dm s a v t ld ob, E))) rfl trivial ?_
    exact z_Ev_iretE rfl rfl (by simp [*]) (by rfl)
  · skip
    refine z_Ev_blk 13 (c' := (47, [some (aR 0 32), some (aI h), some (aI (3 : Int32))], [aI (s (((((88 : Int32) + ((6 : Int32) * h)) + (3 : Int32)) - (1 : Int32)).toNatClampNeg))], (C, dm s a v t ld ob, E))) rfl ⟨(h0.resolve_left h1), trivial⟩ ?_
    exact z_Ev_iretE rfl rfl (by simp [*]) (by rfl)
theorem m_toldOfHour_4 {xs : Nat → Int32} {L : Nat} (h : Int32) (C : Nat → Nat → Nat → Int32) (s a v t ld ob : Nat → Int32) (E : Nat → Int64) (h0 : s 34 ≤ h ∨ z_inb (88 + 6 * h + 4 - 1) 376 = true) : z_Mt xs L m_X5_toldOfHour [aR 0 32, aI h, aI (4 : Int32)] (C, dm s a v t ld ob, E) (.inl (some (aI (if s 34 ≤ h then -1 else s (88 + 6 * h + 4 - 1).toNatClampNeg)))) (C, dm s a v t ld ob, E) 0 := by
  refine z_Ev_blk 2 (c' := ((if (4 : Int32) = 0 then 4 else 16), [some (aR 0 32), some (aI h), some (aI (4 : Int32))], [], (C, dm s a v t ld ob, E))) rfl trivial ?_
  refine z_Ev_else (by decide) ?_
  refine z_Ev_blk 6 (c' := ((if (s 34) ≤ h then 46 else 27), [some (aR 0 32), some (aI h), some (aI (4 : Int32))], [], (C, dm s a v t ld ob, E))) rfl ⟨rfl, trivial⟩ ?_
  refine z_Ev_ite (fun h1 => ?_) (fun h1 => ?_)
  · skip
    refine z_Ev_blk 1 (c' := (47, [some (aR 0 32), some (aI h), some (aI (4 : Int32))], [aI (-1 : Int32)], (C, dm s a v t ld ob, E))) rfl trivial ?_
    exact z_Ev_iretE rfl rfl (by simp [*]) (by rfl)
  · skip
    refine z_Ev_blk 13 (c' := (47, [some (aR 0 32), some (aI h), some (aI (4 : Int32))], [aI (s (((((88 : Int32) + ((6 : Int32) * h)) + (4 : Int32)) - (1 : Int32)).toNatClampNeg))], (C, dm s a v t ld ob, E))) rfl ⟨(h0.resolve_left h1), trivial⟩ ?_
    exact z_Ev_iretE rfl rfl (by simp [*]) (by rfl)
theorem m_toldOfHour_5 {xs : Nat → Int32} {L : Nat} (h : Int32) (C : Nat → Nat → Nat → Int32) (s a v t ld ob : Nat → Int32) (E : Nat → Int64) (h0 : s 34 ≤ h ∨ z_inb (88 + 6 * h + 5 - 1) 376 = true) : z_Mt xs L m_X5_toldOfHour [aR 0 32, aI h, aI (5 : Int32)] (C, dm s a v t ld ob, E) (.inl (some (aI (if s 34 ≤ h then -1 else s (88 + 6 * h + 5 - 1).toNatClampNeg)))) (C, dm s a v t ld ob, E) 0 := by
  refine z_Ev_blk 2 (c' := ((if (5 : Int32) = 0 then 4 else 16), [some (aR 0 32), some (aI h), some (aI (5 : Int32))], [], (C, dm s a v t ld ob, E))) rfl trivial ?_
  refine z_Ev_else (by decide) ?_
  refine z_Ev_blk 6 (c' := ((if (s 34) ≤ h then 46 else 27), [some (aR 0 32), some (aI h), some (aI (5 : Int32))], [], (C, dm s a v t ld ob, E))) rfl ⟨rfl, trivial⟩ ?_
  refine z_Ev_ite (fun h1 => ?_) (fun h1 => ?_)
  · skip
    refine z_Ev_blk 1 (c' := (47, [some (aR 0 32), some (aI h), some (aI (5 : Int32))], [aI (-1 : Int32)], (C, dm s a v t ld ob, E))) rfl trivial ?_
    exact z_Ev_iretE rfl rfl (by simp [*]) (by rfl)
  · skip
    refine z_Ev_blk 13 (c' := (47, [some (aR 0 32), some (aI h), some (aI (5 : Int32))], [aI (s (((((88 : Int32) + ((6 : Int32) * h)) + (5 : Int32)) - (1 : Int32)).toNatClampNeg))], (C, dm s a v t ld ob, E))) rfl ⟨(h0.resolve_left h1), trivial⟩ ?_
    exact z_Ev_iretE rfl rfl (by simp [*]) (by rfl)
theorem m_toldOfHour_6 {xs : Nat → Int32} {L : Nat} (h : Int32) (C : Nat → Nat → Nat → Int32) (s a v t ld ob : Nat → Int32) (E : Nat → Int64) (h0 : s 34 ≤ h ∨ z_inb (88 + 6 * h + 6 - 1) 376 = true) : z_Mt xs L m_X5_toldOfHour [aR 0 32, aI h, aI (6 : Int32)] (C, dm s a v t ld ob, E) (.inl (some (aI (if s 34 ≤ h then -1 else s (88 + 6 * h + 6 - 1).toNatClampNeg)))) (C, dm s a v t ld ob, E) 0 := by
  refine z_Ev_blk 2 (c' := ((if (6 : Int32) = 0 then 4 else 16), [some (aR 0 32), some (aI h), some (aI (6 : Int32))], [], (C, dm s a v t ld ob, E))) rfl trivial ?_
  refine z_Ev_else (by decide) ?_
  refine z_Ev_blk 6 (c' := ((if (s 34) ≤ h then 46 else 27), [some (aR 0 32), some (aI h), some (aI (6 : Int32))], [], (C, dm s a v t ld ob, E))) rfl ⟨rfl, trivial⟩ ?_
  refine z_Ev_ite (fun h1 => ?_) (fun h1 => ?_)
  · skip
    refine z_Ev_blk 1 (c' := (47, [some (aR 0 32), some (aI h), some (aI (6 : Int32))], [aI (-1 : Int32)], (C, dm s a v t ld ob, E))) rfl trivial ?_
    exact z_Ev_iretE rfl rfl (by simp [*]) (by rfl)
  · skip
    refine z_Ev_blk 13 (c' := (47, [some (aR 0 32), some (aI h), some (aI (6 : Int32))], [aI (s (((((88 : Int32) + ((6 : Int32) * h)) + (6 : Int32)) - (1 : Int32)).toNatClampNeg))], (C, dm s a v t ld ob, E))) rfl ⟨(h0.resolve_left h1), trivial⟩ ?_
    exact z_Ev_iretE rfl rfl (by simp [*]) (by rfl)
theorem left_nI {x : Int32} {H : Nat} (hs : x = nI H) (hH : H ≤ 48) : nI (48 - H) = 48 - x := by
  rw [hs, show (48 : Int32) = nI (48 - H + H) from by rw [Nat.sub_add_cancel hH]; rfl, ← nI_add, Int32.add_sub_cancel]
/-- the model's island at the end -/
def endF (s ld ob : Nat → Int32) (H : Nat) : S3 := goI (48 - H) (s, ld, ob)

theorem m_toEnd {xs : Nat → Int32} {L : Nat}  (C : Nat → Nat → Nat → Int32) (s a v t ld ob : Nat → Int32) (E : Nat → Int64) {H : Nat} (hs : s 34 = nI H) (hH : H ≤ 48) (y : S3) (hy : endF s ld ob H = y) : z_Mt xs L m_X5_darkToTheEnd [aR 0 32] (C, dm s a v t ld ob, E) (.inl (some (aI (y.1 38 - s 38)))) (C, dm y.1 a v t y.2.1 y.2.2, E) 0 := by
  refine z_Ev_blk 7 (c' := (11, [some (aR 0 32)], [aI ((48 : Int32) - (s 34)), aR 0 32], (C, dm s a v t ld ob, E))) rfl ⟨rfl, trivial⟩ ?_
  refine z_Ev_call0 (m' := m_X5_passes) (as := [aR 0 32, aI ((48 : Int32) - (s 34))]) (r := []) ((by have q := m_passes (xs := xs) (L := L) (48 - H) H C s a v t ld ob E hs (by omega); rw [left_nI hs hH, show goI (48 - H) (s, ld, ob) = y from hy] at q; exact q)) rfl rfl ?_
  exact z_Ev_iretE rfl rfl (by rfl) (by rfl)
