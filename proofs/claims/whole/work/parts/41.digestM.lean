/-! THE MODEL: the digest -/
theorem m_one {xs : Nat → Int32} {L : Nat} (h x : Int64) (C : Nat → Nat → Nat → Int32) (D : Nat → Nat → Int32) (E : Nat → Int64) : z_Mt xs L m_X5_digestOne [aR 0 32, aL x] (C, D, eU E h) (.inl none) (C, D, eU E (31 * h + x)) 0 := by
  refine z_Ev_blk 4 (c' := (8, [some (aR 0 32), some (aL x), none], [aL (eU E h 0), aL 31, aR 0 32], (C, D, eU E h))) rfl trivial ?_
  rw [eU_0]
  refine z_Ev_blk 4 (c' := (14, [some (aR 0 32), some (aL x), none], [], (C, D, vp_updL (eU E h) 0 (31 * h + x)))) rfl trivial ?_
  rw [eU_U]
  exact z_Ev_vret rfl rfl
theorem me_a {xs : Nat → Int32} {L : Nat} {o : z_Rs} {M' : Mem} {kk : Nat} (w : Nat) (V : Int32) (h : Int64) (A1 LD OB : Nat → Int32) (C : Nat → Nat → Nat → Int32) (s a v t ld ob : Nat → Int32) (E : Nat → Int64) (hw : w < 15) (hC : z_Mt xs L m_X5_counted [aR 0 32, aI (nI w)] (C, dm s a v t ld ob, (eU E h)) (.inl (some (aI V))) (C, dm s A1 v t LD OB, (eU E h)) 0) (K : z_Ev xs L m_X5_digest (14, [some (aR 0 32), some (aI (nI (w + 1))), none], [], (C, dm s A1 v t LD OB, (eU E (dgI h V)))) o M' kk) : z_Ev xs L m_X5_digest (14, [some (aR 0 32), some (aI (nI w)), none], [], (C, dm s a v t ld ob, (eU E h))) o M' kk := by
  refine z_Ev_blk 3 (c' := ((if (15 : Int32) ≤ (nI w) then 36 else 20), [some (aR 0 32), some (aI (nI w)), none], [], (C, dm s a v t ld ob, (eU E h)))) rfl trivial ?_
  refine z_Ev_else (nI_ge (b := 15) hw (by decide)) ?_
  refine z_Ev_blk 3 (c' := (23, [some (aR 0 32), some (aI (nI w)), none], [aI (nI w), aR 0 32, aR 0 32], (C, dm s a v t ld ob, (eU E h)))) rfl trivial ?_
  refine z_Ev_call0 (m' := m_X5_counted) (as := [aR 0 32, aI (nI w)]) (r := [aR 0 32]) (hC) rfl rfl ?_
  refine z_Ev_blk 1 (c' := (27, [some (aR 0 32), some (aI (nI w)), none], [aL V.toInt64, aR 0 32], (C, dm s A1 v t LD OB, (eU E h)))) rfl trivial ?_
  refine z_Ev_call0 (m' := m_X5_digestOne) (as := [aR 0 32, aL V.toInt64]) (r := []) (m_one h (V.toInt64) C (dm s A1 v t LD OB) E) rfl rfl ?_
  refine z_Ev_blk 2 (c' := (14, [some (aR 0 32), some (aI ((nI w) + (1 : Int32))), none], [], (C, dm s A1 v t LD OB, (eU E (dgI h V))))) rfl trivial ?_
  refine z_Ev_fgt [true, true, false] ?_
  exact z_Ev_eq (c := (14, [some (aR 0 32), some (aI ((nI w) + (1 : Int32))), none], [], (C, dm s A1 v t LD OB, (eU E (dgI h V))))) (c' := (14, [some (aR 0 32), some (aI (nI (w + 1))), none], [], (C, dm s A1 v t LD OB, (eU E (dgI h V))))) (by first | rfl | (rw [nI_1]; done) | (rw [nI_1]; rfl)) K
theorem me_b {xs : Nat → Int32} {L : Nat} {o : z_Rs} {M' : Mem} {kk : Nat} (h : Int64) (C : Nat → Nat → Nat → Int32) (s a v t ld ob : Nat → Int32) (E : Nat → Int64)  (K : z_Ev xs L m_X5_digest (62, [some (aR 0 32), some (aI (nI 0)), none], [], (C, dm s a v t ld ob, (eU E (dgI (dgI h (s 32)) (s 33))))) o M' kk) : z_Ev xs L m_X5_digest (14, [some (aR 0 32), some (aI (nI 15)), none], [], (C, dm s a v t ld ob, (eU E h))) o M' kk := by
  refine z_Ev_blk 3 (c' := ((if (15 : Int32) ≤ (nI 15) then 36 else 20), [some (aR 0 32), some (aI (nI 15)), none], [], (C, dm s a v t ld ob, (eU E h)))) rfl trivial ?_
  refine z_Ev_if (by decide) ?_
  refine z_Ev_blk 6 (c' := (45, [some (aR 0 32), some (aI (nI 15)), none], [aL ((s 32).toInt64), aR 0 32], (C, dm s a v t ld ob, (eU E h)))) rfl ⟨rfl, trivial⟩ ?_
  refine z_Ev_call0 (m' := m_X5_digestOne) (as := [aR 0 32, aL ((s 32).toInt64)]) (r := []) (m_one h ((s 32).toInt64) C (dm s a v t ld ob) E) rfl rfl ?_
  refine z_Ev_blk 6 (c' := (57, [some (aR 0 32), some (aI (nI 15)), none], [aL ((s 33).toInt64), aR 0 32], (C, dm s a v t ld ob, (eU E (dgI h (s 32)))))) rfl ⟨rfl, trivial⟩ ?_
  refine z_Ev_call0 (m' := m_X5_digestOne) (as := [aR 0 32, aL ((s 33).toInt64)]) (r := []) (m_one (dgI h (s 32)) ((s 33).toInt64) C (dm s a v t ld ob) E) rfl rfl ?_
  refine z_Ev_blk 2 (c' := (62, [some (aR 0 32), some (aI (0 : Int32)), none], [], (C, dm s a v t ld ob, (eU E (dgI (dgI h (s 32)) (s 33)))))) rfl trivial ?_
  refine z_Ev_fgt [true, true, false] ?_
  exact z_Ev_eq (c := (62, [some (aR 0 32), some (aI (0 : Int32)), none], [], (C, dm s a v t ld ob, (eU E (dgI (dgI h (s 32)) (s 33)))))) (c' := (62, [some (aR 0 32), some (aI (nI 0)), none], [], (C, dm s a v t ld ob, (eU E (dgI (dgI h (s 32)) (s 33)))))) (by first | rfl | (rw [nI_1]; done) | (rw [nI_1]; rfl)) K
theorem me_c0 {xs : Nat → Int32} {L : Nat} {o : z_Rs} {M' : Mem} {kk : Nat} (k : Nat) (h : Int64) (C : Nat → Nat → Nat → Int32) (s a v t ld ob : Nat → Int32) (E : Nat → Int64) (hk : k < 4) (K : z_Ev xs L m_X5_digest (69, [some (aR 0 32), some (aI (nI k)), some (aI (nI 0))], [], (C, dm s a v t ld ob, (eU E h))) o M' kk) : z_Ev xs L m_X5_digest (62, [some (aR 0 32), some (aI (nI k)), none], [], (C, dm s a v t ld ob, (eU E h))) o M' kk := by
  refine z_Ev_blk 3 (c' := ((if (4 : Int32) ≤ (nI k) then 108 else 67), [some (aR 0 32), some (aI (nI k)), none], [], (C, dm s a v t ld ob, (eU E h)))) rfl trivial ?_
  refine z_Ev_else (nI_ge (b := 4) hk (by decide)) ?_
  refine z_Ev_blk 2 (c' := (69, [some (aR 0 32), some (aI (nI k)), some (aI (0 : Int32))], [], (C, dm s a v t ld ob, (eU E h)))) rfl trivial ?_
  refine z_Ev_fgt [true, true, true] ?_
  exact z_Ev_eq (c := (69, [some (aR 0 32), some (aI (nI k)), some (aI (0 : Int32))], [], (C, dm s a v t ld ob, (eU E h)))) (c' := (69, [some (aR 0 32), some (aI (nI k)), some (aI (nI 0))], [], (C, dm s a v t ld ob, (eU E h)))) (by first | rfl | (rw [nI_1]; done) | (rw [nI_1]; rfl)) K
theorem me_c {xs : Nat → Int32} {L : Nat} {o : z_Rs} {M' : Mem} {kk : Nat} (k w : Nat) (V : Int32) (h : Int64) (A1 LD OB : Nat → Int32) (C : Nat → Nat → Nat → Int32) (s a v t ld ob : Nat → Int32) (E : Nat → Int64) (hw : w < 9) (hC : z_Mt xs L m_X5_toldOf [aR 0 32, aI (nI k), aI (nI w)] (C, dm s a v t ld ob, (eU E h)) (.inl (some (aI V))) (C, dm s A1 v t LD OB, (eU E h)) 0) (K : z_Ev xs L m_X5_digest (69, [some (aR 0 32), some (aI (nI k)), some (aI (nI (w + 1)))], [], (C, dm s A1 v t LD OB, (eU E (dgI h V)))) o M' kk) : z_Ev xs L m_X5_digest (69, [some (aR 0 32), some (aI (nI k)), some (aI (nI w))], [], (C, dm s a v t ld ob, (eU E h))) o M' kk := by
  refine z_Ev_blk 3 (c' := ((if (9 : Int32) ≤ (nI w) then 92 else 75), [some (aR 0 32), some (aI (nI k)), some (aI (nI w))], [], (C, dm s a v t ld ob, (eU E h)))) rfl trivial ?_
  refine z_Ev_else (nI_ge (b := 9) hw (by decide)) ?_
  refine z_Ev_blk 4 (c' := (79, [some (aR 0 32), some (aI (nI k)), some (aI (nI w))], [aI (nI w), aI (nI k), aR 0 32, aR 0 32], (C, dm s a v t ld ob, (eU E h)))) rfl trivial ?_
  refine z_Ev_call0 (m' := m_X5_toldOf) (as := [aR 0 32, aI (nI k), aI (nI w)]) (r := [aR 0 32]) (hC) rfl rfl ?_
  refine z_Ev_blk 1 (c' := (83, [some (aR 0 32), some (aI (nI k)), some (aI (nI w))], [aL V.toInt64, aR 0 32], (C, dm s A1 v t LD OB, (eU E h)))) rfl trivial ?_
  refine z_Ev_call0 (m' := m_X5_digestOne) (as := [aR 0 32, aL V.toInt64]) (r := []) (m_one h (V.toInt64) C (dm s A1 v t LD OB) E) rfl rfl ?_
  refine z_Ev_blk 2 (c' := (69, [some (aR 0 32), some (aI (nI k)), some (aI ((nI w) + (1 : Int32)))], [], (C, dm s A1 v t LD OB, (eU E (dgI h V))))) rfl trivial ?_
  refine z_Ev_fgt [true, true, true] ?_
  exact z_Ev_eq (c := (69, [some (aR 0 32), some (aI (nI k)), some (aI ((nI w) + (1 : Int32)))], [], (C, dm s A1 v t LD OB, (eU E (dgI h V))))) (c' := (69, [some (aR 0 32), some (aI (nI k)), some (aI (nI (w + 1)))], [], (C, dm s A1 v t LD OB, (eU E (dgI h V))))) (by first | rfl | (rw [nI_1]; done) | (rw [nI_1]; rfl)) K
theorem me_d {xs : Nat → Int32} {L : Nat} {o : z_Rs} {M' : Mem} {kk : Nat} (k : Nat) (V : Int32) (h : Int64) (A1 LD OB : Nat → Int32) (C : Nat → Nat → Nat → Int32) (s a v t ld ob : Nat → Int32) (E : Nat → Int64) (hC : z_Mt xs L m_X5_darkWithout [aR 0 32, aI (nI k)] (C, dm s a v t ld ob, (eU E h)) (.inl (some (aI V))) (C, dm s A1 v t LD OB, (eU E h)) 0) (K : z_Ev xs L m_X5_digest (62, [some (aR 0 32), some (aI (nI (k + 1))), none], [], (C, dm s A1 v t LD OB, (eU E (dgI h V)))) o M' kk) : z_Ev xs L m_X5_digest (69, [some (aR 0 32), some (aI (nI k)), some (aI (nI 9))], [], (C, dm s a v t ld ob, (eU E h))) o M' kk := by
  refine z_Ev_blk 3 (c' := ((if (9 : Int32) ≤ (nI 9) then 92 else 75), [some (aR 0 32), some (aI (nI k)), some (aI (nI 9))], [], (C, dm s a v t ld ob, (eU E h)))) rfl trivial ?_
  refine z_Ev_if (by decide) ?_
  refine z_Ev_blk 3 (c' := (95, [some (aR 0 32), some (aI (nI k)), some (aI (nI 9))], [aI (nI k), aR 0 32, aR 0 32], (C, dm s a v t ld ob, (eU E h)))) rfl trivial ?_
  refine z_Ev_call0 (m' := m_X5_darkWithout) (as := [aR 0 32, aI (nI k)]) (r := [aR 0 32]) (hC) rfl rfl ?_
  refine z_Ev_blk 1 (c' := (99, [some (aR 0 32), some (aI (nI k)), some (aI (nI 9))], [aL V.toInt64, aR 0 32], (C, dm s A1 v t LD OB, (eU E h)))) rfl trivial ?_
  refine z_Ev_call0 (m' := m_X5_digestOne) (as := [aR 0 32, aL V.toInt64]) (r := []) (m_one h (V.toInt64) C (dm s A1 v t LD OB) E) rfl rfl ?_
  refine z_Ev_blk 2 (c' := (62, [some (aR 0 32), some (aI ((nI k) + (1 : Int32))), some (aI (nI 9))], [], (C, dm s A1 v t LD OB, (eU E (dgI h V))))) rfl trivial ?_
  refine z_Ev_fgt [true, true, false] ?_
  exact z_Ev_eq (c := (62, [some (aR 0 32), some (aI ((nI k) + (1 : Int32))), none], [], (C, dm s A1 v t LD OB, (eU E (dgI h V))))) (c' := (62, [some (aR 0 32), some (aI (nI (k + 1))), none], [], (C, dm s A1 v t LD OB, (eU E (dgI h V))))) (by first | rfl | (rw [nI_1]; done) | (rw [nI_1]; rfl)) K
theorem me_e {xs : Nat → Int32} {L : Nat} {o : z_Rs} {M' : Mem} {kk : Nat} (h : Int64) (C : Nat → Nat → Nat → Int32) (s a v t ld ob : Nat → Int32) (E : Nat → Int64)  (K : z_Ev xs L m_X5_digest (110, [some (aR 0 32), some (aI (nI 0)), none], [], (C, dm s a v t ld ob, (eU E h))) o M' kk) : z_Ev xs L m_X5_digest (62, [some (aR 0 32), some (aI (nI 4)), none], [], (C, dm s a v t ld ob, (eU E h))) o M' kk := by
  refine z_Ev_blk 3 (c' := ((if (4 : Int32) ≤ (nI 4) then 108 else 67), [some (aR 0 32), some (aI (nI 4)), none], [], (C, dm s a v t ld ob, (eU E h)))) rfl trivial ?_
  refine z_Ev_if (by decide) ?_
  refine z_Ev_blk 2 (c' := (110, [some (aR 0 32), some (aI (0 : Int32)), none], [], (C, dm s a v t ld ob, (eU E h)))) rfl trivial ?_
  refine z_Ev_fgt [true, true, false] ?_
  exact z_Ev_eq (c := (110, [some (aR 0 32), some (aI (0 : Int32)), none], [], (C, dm s a v t ld ob, (eU E h)))) (c' := (110, [some (aR 0 32), some (aI (nI 0)), none], [], (C, dm s a v t ld ob, (eU E h)))) (by first | rfl | (rw [nI_1]; done) | (rw [nI_1]; rfl)) K
theorem me_f {xs : Nat → Int32} {L : Nat} {o : z_Rs} {M' : Mem} {kk : Nat} (k : Nat) (V : Int32) (h : Int64) (A1 LD OB : Nat → Int32) (C : Nat → Nat → Nat → Int32) (s a v t ld ob : Nat → Int32) (E : Nat → Int64) (hk : k < 336) (h7 : nI k / 7 = nI (k / 7)) (r7 : nI k - nI k / 7 * 7 = nI (k % 7)) (hC : z_Mt xs L m_X5_toldOfHour [aR 0 32, aI (nI (k / 7)), aI (nI (k % 7))] (C, dm s a v t ld ob, (eU E h)) (.inl (some (aI V))) (C, dm s A1 v t LD OB, (eU E h)) 0) (K : z_Ev xs L m_X5_digest (110, [some (aR 0 32), some (aI (nI (k + 1))), none], [], (C, dm s A1 v t LD OB, (eU E (dgI h V)))) o M' kk) : z_Ev xs L m_X5_digest (110, [some (aR 0 32), some (aI (nI k)), none], [], (C, dm s a v t ld ob, (eU E h))) o M' kk := by
  refine z_Ev_blk 3 (c' := ((if (336 : Int32) ≤ (nI k) then 140 else 117), [some (aR 0 32), some (aI (nI k)), none], [], (C, dm s a v t ld ob, (eU E h)))) rfl trivial ?_
  refine z_Ev_else (nI_ge (b := 336) hk (by decide)) ?_
  refine z_Ev_blk 5 (c' := (123, [some (aR 0 32), some (aI (nI k)), none], [aI ((nI k) / (7 : Int32)), aR 0 32, aR 0 32], (C, dm s a v t ld ob, (eU E h)))) rfl ⟨by decide, trivial⟩ ?_
  rw [h7]
  refine z_Ev_blk 3 (c' := (127, [some (aR 0 32), some (aI (nI k)), none], [aI ((nI k) - (nI k) / (7 : Int32) * (7 : Int32)), aI (nI (k / 7)), aR 0 32, aR 0 32], (C, dm s a v t ld ob, (eU E h)))) rfl ⟨by decide, trivial⟩ ?_
  rw [r7]
  refine z_Ev_call0 (m' := m_X5_toldOfHour) (as := [aR 0 32, aI (nI (k / 7)), aI (nI (k % 7))]) (r := [aR 0 32]) (hC) rfl rfl ?_
  refine z_Ev_blk 1 (c' := (131, [some (aR 0 32), some (aI (nI k)), none], [aL V.toInt64, aR 0 32], (C, dm s A1 v t LD OB, (eU E h)))) rfl trivial ?_
  refine z_Ev_call0 (m' := m_X5_digestOne) (as := [aR 0 32, aL V.toInt64]) (r := []) (m_one h (V.toInt64) C (dm s A1 v t LD OB) E) rfl rfl ?_
  refine z_Ev_blk 2 (c' := (110, [some (aR 0 32), some (aI ((nI k) + (1 : Int32))), none], [], (C, dm s A1 v t LD OB, (eU E (dgI h V))))) rfl trivial ?_
  refine z_Ev_fgt [true, true, false] ?_
  exact z_Ev_eq (c := (110, [some (aR 0 32), some (aI ((nI k) + (1 : Int32))), none], [], (C, dm s A1 v t LD OB, (eU E (dgI h V))))) (c' := (110, [some (aR 0 32), some (aI (nI (k + 1))), none], [], (C, dm s A1 v t LD OB, (eU E (dgI h V))))) (by first | rfl | (rw [nI_1]; done) | (rw [nI_1]; rfl)) K
theorem me_g {xs : Nat → Int32} {L : Nat} {o : z_Rs} {M' : Mem} {kk : Nat} (h : Int64) (C : Nat → Nat → Nat → Int32) (s a v t ld ob : Nat → Int32) (E : Nat → Int64)  (K : z_Ev xs L m_X5_digest (142, [some (aR 0 32), some (aI (0 : Int32)), none], [], (C, dm s a v t ld ob, (eU E h))) o M' kk) : z_Ev xs L m_X5_digest (110, [some (aR 0 32), some (aI (nI 336)), none], [], (C, dm s a v t ld ob, (eU E h))) o M' kk := by
  refine z_Ev_blk 3 (c' := ((if (336 : Int32) ≤ (nI 336) then 140 else 117), [some (aR 0 32), some (aI (nI 336)), none], [], (C, dm s a v t ld ob, (eU E h)))) rfl trivial ?_
  refine z_Ev_if (by decide) ?_
  refine z_Ev_blk 2 (c' := (142, [some (aR 0 32), some (aI (0 : Int32)), none], [], (C, dm s a v t ld ob, (eU E h)))) rfl trivial ?_
  refine z_Ev_fgt [true, true, false] ?_
  exact z_Ev_eq (c := (142, [some (aR 0 32), some (aI (0 : Int32)), none], [], (C, dm s a v t ld ob, (eU E h)))) (c' := (142, [some (aR 0 32), some (aI (0 : Int32)), none], [], (C, dm s a v t ld ob, (eU E h)))) (by first | rfl | (rw [nI_1]; done) | (rw [nI_1]; rfl)) K
theorem me_h0 {xs : Nat → Int32} {L : Nat} {o : z_Rs} {M' : Mem} {kk : Nat} (V : Int32) (h : Int64) (A1 LD OB : Nat → Int32) (C : Nat → Nat → Nat → Int32) (s a v t ld ob : Nat → Int32) (E : Nat → Int64) (hC : z_Mt xs L m_X5_best [aR 0 32, aI (0 : Int32), aI (0 : Int32)] (C, dm s a v t ld ob, (eU E h)) (.inl (some (aI V))) (C, dm s A1 v t LD OB, (eU E h)) 0) (K : z_Ev xs L m_X5_digest (142, [some (aR 0 32), some (aI (1 : Int32)), none], [], (C, dm s A1 v t LD OB, (eU E (dgI h V)))) o M' kk) : z_Ev xs L m_X5_digest (142, [some (aR 0 32), some (aI (0 : Int32)), none], [], (C, dm s a v t ld ob, (eU E h))) o M' kk := by
  refine z_Ev_blk 3 (c' := ((if (6 : Int32) ≤ (0 : Int32) then 190 else 148), [some (aR 0 32), some (aI (0 : Int32)), none], [], (C, dm s a v t ld ob, (eU E h)))) rfl trivial ?_
  refine z_Ev_else (by decide) ?_
  refine z_Ev_blk 6 (c' := ((if (0 : Int32) = 0 then 156 else 160), [some (aR 0 32), some (aI (0 : Int32)), none], [aR 0 32, aR 0 32], (C, dm s a v t ld ob, (eU E h)))) rfl ⟨by decide, trivial⟩ ?_
  refine z_Ev_if (by decide) ?_
  refine z_Ev_blk 5 (c' := (177, [some (aR 0 32), some (aI (0 : Int32)), none], [aI (0 : Int32), aI (0 : Int32), aR 0 32, aR 0 32], (C, dm s a v t ld ob, (eU E h)))) rfl ⟨by decide, trivial⟩ ?_
  refine z_Ev_call0 (m' := m_X5_best) (as := [aR 0 32, aI (0 : Int32), aI (0 : Int32)]) (r := [aR 0 32]) (hC) rfl rfl ?_
  refine z_Ev_blk 1 (c' := (181, [some (aR 0 32), some (aI (0 : Int32)), none], [aL V.toInt64, aR 0 32], (C, dm s A1 v t LD OB, (eU E h)))) rfl trivial ?_
  refine z_Ev_call0 (m' := m_X5_digestOne) (as := [aR 0 32, aL V.toInt64]) (r := []) (m_one h (V.toInt64) C (dm s A1 v t LD OB) E) rfl rfl ?_
  refine z_Ev_blk 2 (c' := (142, [some (aR 0 32), some (aI (1 : Int32)), none], [], (C, dm s A1 v t LD OB, (eU E (dgI h V))))) rfl trivial ?_
  refine z_Ev_fgt [true, true, false] ?_
  exact z_Ev_eq (c := (142, [some (aR 0 32), some (aI (1 : Int32)), none], [], (C, dm s A1 v t LD OB, (eU E (dgI h V))))) (c' := (142, [some (aR 0 32), some (aI (1 : Int32)), none], [], (C, dm s A1 v t LD OB, (eU E (dgI h V))))) (by first | rfl | (rw [nI_1]; done) | (rw [nI_1]; rfl)) K
theorem me_h1 {xs : Nat → Int32} {L : Nat} {o : z_Rs} {M' : Mem} {kk : Nat} (V : Int32) (h : Int64) (A1 LD OB : Nat → Int32) (C : Nat → Nat → Nat → Int32) (s a v t ld ob : Nat → Int32) (E : Nat → Int64) (hC : z_Mt xs L m_X5_best [aR 0 32, aI (0 : Int32), aI (1 : Int32)] (C, dm s a v t ld ob, (eU E h)) (.inl (some (aI V))) (C, dm s A1 v t LD OB, (eU E h)) 0) (K : z_Ev xs L m_X5_digest (142, [some (aR 0 32), some (aI (2 : Int32)), none], [], (C, dm s A1 v t LD OB, (eU E (dgI h V)))) o M' kk) : z_Ev xs L m_X5_digest (142, [some (aR 0 32), some (aI (1 : Int32)), none], [], (C, dm s a v t ld ob, (eU E h))) o M' kk := by
  refine z_Ev_blk 3 (c' := ((if (6 : Int32) ≤ (1 : Int32) then 190 else 148), [some (aR 0 32), some (aI (1 : Int32)), none], [], (C, dm s a v t ld ob, (eU E h)))) rfl trivial ?_
  refine z_Ev_else (by decide) ?_
  refine z_Ev_blk 6 (c' := ((if (0 : Int32) = 0 then 156 else 160), [some (aR 0 32), some (aI (1 : Int32)), none], [aR 0 32, aR 0 32], (C, dm s a v t ld ob, (eU E h)))) rfl ⟨by decide, trivial⟩ ?_
  refine z_Ev_if (by decide) ?_
  refine z_Ev_blk 5 (c' := (177, [some (aR 0 32), some (aI (1 : Int32)), none], [aI (1 : Int32), aI (0 : Int32), aR 0 32, aR 0 32], (C, dm s a v t ld ob, (eU E h)))) rfl ⟨by decide, trivial⟩ ?_
  refine z_Ev_call0 (m' := m_X5_best) (as := [aR 0 32, aI (0 : Int32), aI (1 : Int32)]) (r := [aR 0 32]) (hC) rfl rfl ?_
  refine z_Ev_blk 1 (c' := (181, [some (aR 0 32), some (aI (1 : Int32)), none], [aL V.toInt64, aR 0 32], (C, dm s A1 v t LD OB, (eU E h)))) rfl trivial ?_
  refine z_Ev_call0 (m' := m_X5_digestOne) (as := [aR 0 32, aL V.toInt64]) (r := []) (m_one h (V.toInt64) C (dm s A1 v t LD OB) E) rfl rfl ?_
  refine z_Ev_blk 2 (c' := (142, [some (aR 0 32), some (aI (2 : Int32)), none], [], (C, dm s A1 v t LD OB, (eU E (dgI h V))))) rfl trivial ?_
  refine z_Ev_fgt [true, true, false] ?_
  exact z_Ev_eq (c := (142, [some (aR 0 32), some (aI (2 : Int32)), none], [], (C, dm s A1 v t LD OB, (eU E (dgI h V))))) (c' := (142, [some (aR 0 32), some (aI (2 : Int32)), none], [], (C, dm s A1 v t LD OB, (eU E (dgI h V))))) (by first | rfl | (rw [nI_1]; done) | (rw [nI_1]; rfl)) K
theorem me_h2 {xs : Nat → Int32} {L : Nat} {o : z_Rs} {M' : Mem} {kk : Nat} (V : Int32) (h : Int64) (A1 LD OB : Nat → Int32) (C : Nat → Nat → Nat → Int32) (s a v t ld ob : Nat → Int32) (E : Nat → Int64) (hC : z_Mt xs L m_X5_best [aR 0 32, aI (20 : Int32), aI (0 : Int32)] (C, dm s a v t ld ob, (eU E h)) (.inl (some (aI V))) (C, dm s A1 v t LD OB, (eU E h)) 0) (K : z_Ev xs L m_X5_digest (142, [some (aR 0 32), some (aI (3 : Int32)), none], [], (C, dm s A1 v t LD OB, (eU E (dgI h V)))) o M' kk) : z_Ev xs L m_X5_digest (142, [some (aR 0 32), some (aI (2 : Int32)), none], [], (C, dm s a v t ld ob, (eU E h))) o M' kk := by
  refine z_Ev_blk 3 (c' := ((if (6 : Int32) ≤ (2 : Int32) then 190 else 148), [some (aR 0 32), some (aI (2 : Int32)), none], [], (C, dm s a v t ld ob, (eU E h)))) rfl trivial ?_
  refine z_Ev_else (by decide) ?_
  refine z_Ev_blk 6 (c' := ((if (1 : Int32) = 0 then 156 else 160), [some (aR 0 32), some (aI (2 : Int32)), none], [aR 0 32, aR 0 32], (C, dm s a v t ld ob, (eU E h)))) rfl ⟨by decide, trivial⟩ ?_
  refine z_Ev_else (by decide) ?_
  refine z_Ev_blk 5 (c' := ((if (1 : Int32) = (1 : Int32) then 167 else 172), [some (aR 0 32), some (aI (2 : Int32)), none], [aR 0 32, aR 0 32], (C, dm s a v t ld ob, (eU E h)))) rfl ⟨by decide, trivial⟩ ?_
  refine z_Ev_if (by decide) ?_
  refine z_Ev_blk 5 (c' := (177, [some (aR 0 32), some (aI (2 : Int32)), none], [aI (0 : Int32), aI (20 : Int32), aR 0 32, aR 0 32], (C, dm s a v t ld ob, (eU E h)))) rfl ⟨by decide, trivial⟩ ?_
  refine z_Ev_call0 (m' := m_X5_best) (as := [aR 0 32, aI (20 : Int32), aI (0 : Int32)]) (r := [aR 0 32]) (hC) rfl rfl ?_
  refine z_Ev_blk 1 (c' := (181, [some (aR 0 32), some (aI (2 : Int32)), none], [aL V.toInt64, aR 0 32], (C, dm s A1 v t LD OB, (eU E h)))) rfl trivial ?_
  refine z_Ev_call0 (m' := m_X5_digestOne) (as := [aR 0 32, aL V.toInt64]) (r := []) (m_one h (V.toInt64) C (dm s A1 v t LD OB) E) rfl rfl ?_
  refine z_Ev_blk 2 (c' := (142, [some (aR 0 32), some (aI (3 : Int32)), none], [], (C, dm s A1 v t LD OB, (eU E (dgI h V))))) rfl trivial ?_
  refine z_Ev_fgt [true, true, false] ?_
  exact z_Ev_eq (c := (142, [some (aR 0 32), some (aI (3 : Int32)), none], [], (C, dm s A1 v t LD OB, (eU E (dgI h V))))) (c' := (142, [some (aR 0 32), some (aI (3 : Int32)), none], [], (C, dm s A1 v t LD OB, (eU E (dgI h V))))) (by first | rfl | (rw [nI_1]; done) | (rw [nI_1]; rfl)) K
theorem me_h3 {xs : Nat → Int32} {L : Nat} {o : z_Rs} {M' : Mem} {kk : Nat} (V : Int32) (h : Int64) (A1 LD OB : Nat → Int32) (C : Nat → Nat → Nat → Int32) (s a v t ld ob : Nat → Int32) (E : Nat → Int64) (hC : z_Mt xs L m_X5_best [aR 0 32, aI (20 : Int32), aI (1 : Int32)] (C, dm s a v t ld ob, (eU E h)) (.inl (some (aI V))) (C, dm s A1 v t LD OB, (eU E h)) 0) (K : z_Ev xs L m_X5_digest (142, [some (aR 0 32), some (aI (4 : Int32)), none], [], (C, dm s A1 v t LD OB, (eU E (dgI h V)))) o M' kk) : z_Ev xs L m_X5_digest (142, [some (aR 0 32), some (aI (3 : Int32)), none], [], (C, dm s a v t ld ob, (eU E h))) o M' kk := by
  refine z_Ev_blk 3 (c' := ((if (6 : Int32) ≤ (3 : Int32) then 190 else 148), [some (aR 0 32), some (aI (3 : Int32)), none], [], (C, dm s a v t ld ob, (eU E h)))) rfl trivial ?_
  refine z_Ev_else (by decide) ?_
  refine z_Ev_blk 6 (c' := ((if (1 : Int32) = 0 then 156 else 160), [some (aR 0 32), some (aI (3 : Int32)), none], [aR 0 32, aR 0 32], (C, dm s a v t ld ob, (eU E h)))) rfl ⟨by decide, trivial⟩ ?_
  refine z_Ev_else (by decide) ?_
  refine z_Ev_blk 5 (c' := ((if (1 : Int32) = (1 : Int32) then 167 else 172), [some (aR 0 32), some (aI (3 : Int32)), none], [aR 0 32, aR 0 32], (C, dm s a v t ld ob, (eU E h)))) rfl ⟨by decide, trivial⟩ ?_
  refine z_Ev_if (by decide) ?_
  refine z_Ev_blk 5 (c' := (177, [some (aR 0 32), some (aI (3 : Int32)), none], [aI (1 : Int32), aI (20 : Int32), aR 0 32, aR 0 32], (C, dm s a v t ld ob, (eU E h)))) rfl ⟨by decide, trivial⟩ ?_
  refine z_Ev_call0 (m' := m_X5_best) (as := [aR 0 32, aI (20 : Int32), aI (1 : Int32)]) (r := [aR 0 32]) (hC) rfl rfl ?_
  refine z_Ev_blk 1 (c' := (181, [some (aR 0 32), some (aI (3 : Int32)), none], [aL V.toInt64, aR 0 32], (C, dm s A1 v t LD OB, (eU E h)))) rfl trivial ?_
  refine z_Ev_call0 (m' := m_X5_digestOne) (as := [aR 0 32, aL V.toInt64]) (r := []) (m_one h (V.toInt64) C (dm s A1 v t LD OB) E) rfl rfl ?_
  refine z_Ev_blk 2 (c' := (142, [some (aR 0 32), some (aI (4 : Int32)), none], [], (C, dm s A1 v t LD OB, (eU E (dgI h V))))) rfl trivial ?_
  refine z_Ev_fgt [true, true, false] ?_
  exact z_Ev_eq (c := (142, [some (aR 0 32), some (aI (4 : Int32)), none], [], (C, dm s A1 v t LD OB, (eU E (dgI h V))))) (c' := (142, [some (aR 0 32), some (aI (4 : Int32)), none], [], (C, dm s A1 v t LD OB, (eU E (dgI h V))))) (by first | rfl | (rw [nI_1]; done) | (rw [nI_1]; rfl)) K
theorem me_h4 {xs : Nat → Int32} {L : Nat} {o : z_Rs} {M' : Mem} {kk : Nat} (V : Int32) (h : Int64) (A1 LD OB : Nat → Int32) (C : Nat → Nat → Nat → Int32) (s a v t ld ob : Nat → Int32) (E : Nat → Int64) (hC : z_Mt xs L m_X5_best [aR 0 32, aI (47 : Int32), aI (0 : Int32)] (C, dm s a v t ld ob, (eU E h)) (.inl (some (aI V))) (C, dm s A1 v t LD OB, (eU E h)) 0) (K : z_Ev xs L m_X5_digest (142, [some (aR 0 32), some (aI (5 : Int32)), none], [], (C, dm s A1 v t LD OB, (eU E (dgI h V)))) o M' kk) : z_Ev xs L m_X5_digest (142, [some (aR 0 32), some (aI (4 : Int32)), none], [], (C, dm s a v t ld ob, (eU E h))) o M' kk := by
  refine z_Ev_blk 3 (c' := ((if (6 : Int32) ≤ (4 : Int32) then 190 else 148), [some (aR 0 32), some (aI (4 : Int32)), none], [], (C, dm s a v t ld ob, (eU E h)))) rfl trivial ?_
  refine z_Ev_else (by decide) ?_
  refine z_Ev_blk 6 (c' := ((if (2 : Int32) = 0 then 156 else 160), [some (aR 0 32), some (aI (4 : Int32)), none], [aR 0 32, aR 0 32], (C, dm s a v t ld ob, (eU E h)))) rfl ⟨by decide, trivial⟩ ?_
  refine z_Ev_else (by decide) ?_
  refine z_Ev_blk 5 (c' := ((if (2 : Int32) = (1 : Int32) then 167 else 172), [some (aR 0 32), some (aI (4 : Int32)), none], [aR 0 32, aR 0 32], (C, dm s a v t ld ob, (eU E h)))) rfl ⟨by decide, trivial⟩ ?_
  refine z_Ev_else (by decide) ?_
  refine z_Ev_blk 4 (c' := (177, [some (aR 0 32), some (aI (4 : Int32)), none], [aI (0 : Int32), aI (47 : Int32), aR 0 32, aR 0 32], (C, dm s a v t ld ob, (eU E h)))) rfl ⟨by decide, trivial⟩ ?_
  refine z_Ev_call0 (m' := m_X5_best) (as := [aR 0 32, aI (47 : Int32), aI (0 : Int32)]) (r := [aR 0 32]) (hC) rfl rfl ?_
  refine z_Ev_blk 1 (c' := (181, [some (aR 0 32), some (aI (4 : Int32)), none], [aL V.toInt64, aR 0 32], (C, dm s A1 v t LD OB, (eU E h)))) rfl trivial ?_
  refine z_Ev_call0 (m' := m_X5_digestOne) (as := [aR 0 32, aL V.toInt64]) (r := []) (m_one h (V.toInt64) C (dm s A1 v t LD OB) E) rfl rfl ?_
  refine z_Ev_blk 2 (c' := (142, [some (aR 0 32), some (aI (5 : Int32)), none], [], (C, dm s A1 v t LD OB, (eU E (dgI h V))))) rfl trivial ?_
  refine z_Ev_fgt [true, true, false] ?_
  exact z_Ev_eq (c := (142, [some (aR 0 32), some (aI (5 : Int32)), none], [], (C, dm s A1 v t LD OB, (eU E (dgI h V))))) (c' := (142, [some (aR 0 32), some (aI (5 : Int32)), none], [], (C, dm s A1 v t LD OB, (eU E (dgI h V))))) (by first | rfl | (rw [nI_1]; done) | (rw [nI_1]; rfl)) K
theorem me_h5 {xs : Nat → Int32} {L : Nat} {o : z_Rs} {M' : Mem} {kk : Nat} (V : Int32) (h : Int64) (A1 LD OB : Nat → Int32) (C : Nat → Nat → Nat → Int32) (s a v t ld ob : Nat → Int32) (E : Nat → Int64) (hC : z_Mt xs L m_X5_best [aR 0 32, aI (47 : Int32), aI (1 : Int32)] (C, dm s a v t ld ob, (eU E h)) (.inl (some (aI V))) (C, dm s A1 v t LD OB, (eU E h)) 0) (K : z_Ev xs L m_X5_digest (142, [some (aR 0 32), some (aI (6 : Int32)), none], [], (C, dm s A1 v t LD OB, (eU E (dgI h V)))) o M' kk) : z_Ev xs L m_X5_digest (142, [some (aR 0 32), some (aI (5 : Int32)), none], [], (C, dm s a v t ld ob, (eU E h))) o M' kk := by
  refine z_Ev_blk 3 (c' := ((if (6 : Int32) ≤ (5 : Int32) then 190 else 148), [some (aR 0 32), some (aI (5 : Int32)), none], [], (C, dm s a v t ld ob, (eU E h)))) rfl trivial ?_
  refine z_Ev_else (by decide) ?_
  refine z_Ev_blk 6 (c' := ((if (2 : Int32) = 0 then 156 else 160), [some (aR 0 32), some (aI (5 : Int32)), none], [aR 0 32, aR 0 32], (C, dm s a v t ld ob, (eU E h)))) rfl ⟨by decide, trivial⟩ ?_
  refine z_Ev_else (by decide) ?_
  refine z_Ev_blk 5 (c' := ((if (2 : Int32) = (1 : Int32) then 167 else 172), [some (aR 0 32), some (aI (5 : Int32)), none], [aR 0 32, aR 0 32], (C, dm s a v t ld ob, (eU E h)))) rfl ⟨by decide, trivial⟩ ?_
  refine z_Ev_else (by decide) ?_
  refine z_Ev_blk 4 (c' := (177, [some (aR 0 32), some (aI (5 : Int32)), none], [aI (1 : Int32), aI (47 : Int32), aR 0 32, aR 0 32], (C, dm s a v t ld ob, (eU E h)))) rfl ⟨by decide, trivial⟩ ?_
  refine z_Ev_call0 (m' := m_X5_best) (as := [aR 0 32, aI (47 : Int32), aI (1 : Int32)]) (r := [aR 0 32]) (hC) rfl rfl ?_
  refine z_Ev_blk 1 (c' := (181, [some (aR 0 32), some (aI (5 : Int32)), none], [aL V.toInt64, aR 0 32], (C, dm s A1 v t LD OB, (eU E h)))) rfl trivial ?_
  refine z_Ev_call0 (m' := m_X5_digestOne) (as := [aR 0 32, aL V.toInt64]) (r := []) (m_one h (V.toInt64) C (dm s A1 v t LD OB) E) rfl rfl ?_
  refine z_Ev_blk 2 (c' := (142, [some (aR 0 32), some (aI (6 : Int32)), none], [], (C, dm s A1 v t LD OB, (eU E (dgI h V))))) rfl trivial ?_
  refine z_Ev_fgt [true, true, false] ?_
  exact z_Ev_eq (c := (142, [some (aR 0 32), some (aI (6 : Int32)), none], [], (C, dm s A1 v t LD OB, (eU E (dgI h V))))) (c' := (142, [some (aR 0 32), some (aI (6 : Int32)), none], [], (C, dm s A1 v t LD OB, (eU E (dgI h V))))) (by first | rfl | (rw [nI_1]; done) | (rw [nI_1]; rfl)) K
theorem me_i {xs : Nat → Int32} {L : Nat} {o : z_Rs} {M' : Mem} {kk : Nat} (h : Int64) (C : Nat → Nat → Nat → Int32) (s a v t ld ob : Nat → Int32) (E : Nat → Int64)  (K : z_Ev xs L m_X5_digest (190, [some (aR 0 32), none, none], [], (C, dm s a v t ld ob, (eU E h))) o M' kk) : z_Ev xs L m_X5_digest (142, [some (aR 0 32), some (aI (6 : Int32)), none], [], (C, dm s a v t ld ob, (eU E h))) o M' kk := by
  refine z_Ev_blk 3 (c' := ((if (6 : Int32) ≤ (6 : Int32) then 190 else 148), [some (aR 0 32), some (aI (6 : Int32)), none], [], (C, dm s a v t ld ob, (eU E h)))) rfl trivial ?_
  refine z_Ev_if (by decide) ?_
  refine z_Ev_fgt [true, false, false] ?_
  exact z_Ev_eq (c := (190, [some (aR 0 32), none, none], [], (C, dm s a v t ld ob, (eU E h)))) (c' := (190, [some (aR 0 32), none, none], [], (C, dm s a v t ld ob, (eU E h)))) (by first | rfl | (rw [nI_1]; done) | (rw [nI_1]; rfl)) K
theorem me_j {xs : Nat → Int32} {L : Nat} {o : z_Rs} {M' : Mem} {kk : Nat} (V : Int32) (h : Int64) (A1 LD OB : Nat → Int32) (C : Nat → Nat → Nat → Int32) (s a v t ld ob : Nat → Int32) (E : Nat → Int64) (hC : z_Mt xs L m_X5_darkFirst [aR 0 32] (C, dm s a v t ld ob, (eU E h)) (.inl (some (aI V))) (C, dm s A1 v t LD OB, (eU E h)) 0) (K : z_Ev xs L m_X5_digest (199, [some (aR 0 32), none, none], [], (C, dm s A1 v t LD OB, (eU E (dgI h V)))) o M' kk) : z_Ev xs L m_X5_digest (190, [some (aR 0 32), none, none], [], (C, dm s a v t ld ob, (eU E h))) o M' kk := by
  refine z_Ev_blk 2 (c' := (192, [some (aR 0 32), none, none], [aR 0 32, aR 0 32], (C, dm s a v t ld ob, (eU E h)))) rfl trivial ?_
  refine z_Ev_call0 (m' := m_X5_darkFirst) (as := [aR 0 32]) (r := [aR 0 32]) (hC) rfl rfl ?_
  refine z_Ev_blk 1 (c' := (196, [some (aR 0 32), none, none], [aL V.toInt64, aR 0 32], (C, dm s A1 v t LD OB, (eU E h)))) rfl trivial ?_
  refine z_Ev_call0 (m' := m_X5_digestOne) (as := [aR 0 32, aL V.toInt64]) (r := []) (m_one h (V.toInt64) C (dm s A1 v t LD OB) E) rfl rfl ?_
  refine z_Ev_fgt [true, false, false] ?_
  exact z_Ev_eq (c := (199, [some (aR 0 32), none, none], [], (C, dm s A1 v t LD OB, (eU E (dgI h V))))) (c' := (199, [some (aR 0 32), none, none], [], (C, dm s A1 v t LD OB, (eU E (dgI h V))))) (by first | rfl | (rw [nI_1]; done) | (rw [nI_1]; rfl)) K
theorem me_k {xs : Nat → Int32} {L : Nat} {o : z_Rs} {M' : Mem} {kk : Nat} (V : Int32) (h : Int64) (A1 LD OB : Nat → Int32) (C : Nat → Nat → Nat → Int32) (s a v t ld ob : Nat → Int32) (E : Nat → Int64) (hC : z_Mt xs L m_X5_fewerIfShed [aR 0 32] (C, dm s a v t ld ob, (eU E h)) (.inl (some (aI V))) (C, dm s A1 v t LD OB, (eU E h)) 0) (K : z_Ev xs L m_X5_digest (208, [some (aR 0 32), none, none], [], (C, dm s A1 v t LD OB, (eU E (dgI h V)))) o M' kk) : z_Ev xs L m_X5_digest (199, [some (aR 0 32), none, none], [], (C, dm s a v t ld ob, (eU E h))) o M' kk := by
  refine z_Ev_blk 2 (c' := (201, [some (aR 0 32), none, none], [aR 0 32, aR 0 32], (C, dm s a v t ld ob, (eU E h)))) rfl trivial ?_
  refine z_Ev_call0 (m' := m_X5_fewerIfShed) (as := [aR 0 32]) (r := [aR 0 32]) (hC) rfl rfl ?_
  refine z_Ev_blk 1 (c' := (205, [some (aR 0 32), none, none], [aL V.toInt64, aR 0 32], (C, dm s A1 v t LD OB, (eU E h)))) rfl trivial ?_
  refine z_Ev_call0 (m' := m_X5_digestOne) (as := [aR 0 32, aL V.toInt64]) (r := []) (m_one h (V.toInt64) C (dm s A1 v t LD OB) E) rfl rfl ?_
  refine z_Ev_fgt [true, false, false] ?_
  exact z_Ev_eq (c := (208, [some (aR 0 32), none, none], [], (C, dm s A1 v t LD OB, (eU E (dgI h V))))) (c' := (208, [some (aR 0 32), none, none], [], (C, dm s A1 v t LD OB, (eU E (dgI h V))))) (by first | rfl | (rw [nI_1]; done) | (rw [nI_1]; rfl)) K
theorem me_l {xs : Nat → Int32} {L : Nat} {o : z_Rs} {M' : Mem} {kk : Nat} (V : Int32) (h : Int64) (A1 LD OB : Nat → Int32) (C : Nat → Nat → Nat → Int32) (s a v t ld ob : Nat → Int32) (E : Nat → Int64) (hC : z_Mt xs L m_X5_startBest [aR 0 32] (C, dm s a v t ld ob, (eU E h)) (.inl (some (aI V))) (C, dm s A1 v t LD OB, (eU E h)) 0) (K : z_Ev xs L m_X5_digest (217, [some (aR 0 32), none, none], [], (C, dm s A1 v t LD OB, (eU E (dgI h V)))) o M' kk) : z_Ev xs L m_X5_digest (208, [some (aR 0 32), none, none], [], (C, dm s a v t ld ob, (eU E h))) o M' kk := by
  refine z_Ev_blk 2 (c' := (210, [some (aR 0 32), none, none], [aR 0 32, aR 0 32], (C, dm s a v t ld ob, (eU E h)))) rfl trivial ?_
  refine z_Ev_call0 (m' := m_X5_startBest) (as := [aR 0 32]) (r := [aR 0 32]) (hC) rfl rfl ?_
  refine z_Ev_blk 1 (c' := (214, [some (aR 0 32), none, none], [aL V.toInt64, aR 0 32], (C, dm s A1 v t LD OB, (eU E h)))) rfl trivial ?_
  refine z_Ev_call0 (m' := m_X5_digestOne) (as := [aR 0 32, aL V.toInt64]) (r := []) (m_one h (V.toInt64) C (dm s A1 v t LD OB) E) rfl rfl ?_
  refine z_Ev_fgt [true, false, false] ?_
  exact z_Ev_eq (c := (217, [some (aR 0 32), none, none], [], (C, dm s A1 v t LD OB, (eU E (dgI h V))))) (c' := (217, [some (aR 0 32), none, none], [], (C, dm s A1 v t LD OB, (eU E (dgI h V))))) (by first | rfl | (rw [nI_1]; done) | (rw [nI_1]; rfl)) K
theorem me_m {xs : Nat → Int32} {L : Nat} {o : z_Rs} {M' : Mem} {kk : Nat} (c : Nat) (u : UInt64) (y h : Int64) (C : Nat → Nat → Nat → Int32) (s a v t ld ob : Nat → Int32) (E : Nat → Int64) (hS : z_Mt xs L m_X5_safe [aR 0 32] (C, dm s a v t ld ob, eU E h) (.inl (some (aD u))) (C, dm s a v t ld ob, eU E h) 0) (hB : z_Mt xs L m_X5_bitsOf [aD u] (C, dm s a v t ld ob, eU E h) (.inl (some (aL y))) (C, dm s a v t ld ob, eU E h) 0) (h6 : ob 6 = nI c) (K : z_Ev xs L m_X5_digest (239, [some (aR 0 32), some (aI (nI 0)), none], [], (C, dm s a v t ld ob, (eU E (dgI (dgL h y) (nI c))))) o M' kk) : z_Ev xs L m_X5_digest (217, [some (aR 0 32), none, none], [], (C, dm s a v t ld ob, (eU E h))) o M' kk := by
  refine z_Ev_blk 2 (c' := (219, [some (aR 0 32), none, none], [aR 0 32, aR 0 32], (C, dm s a v t ld ob, (eU E h)))) rfl trivial ?_
  refine z_Ev_call0 (m' := m_X5_safe) (as := [aR 0 32]) (r := [aR 0 32]) (hS) rfl rfl ?_
  refine z_Ev_call0 (m' := m_X5_bitsOf) (as := [aD u]) (r := [aR 0 32]) (hB) rfl rfl ?_
  refine z_Ev_call0 (m' := m_X5_digestOne) (as := [aR 0 32, aL y]) (r := []) (m_one h y C (dm s a v t ld ob) E) rfl rfl ?_
  refine z_Ev_blk 3 (c' := (233, [some (aR 0 32), none, none], [aI (ob 6), aR 0 32], (C, dm s a v t ld ob, (eU E (dgL h y))))) rfl trivial ?_
  rw [h6]
  refine z_Ev_blk 1 (c' := (234, [some (aR 0 32), none, none], [aL ((nI c).toInt64), aR 0 32], (C, dm s a v t ld ob, (eU E (dgL h y))))) rfl trivial ?_
  refine z_Ev_call0 (m' := m_X5_digestOne) (as := [aR 0 32, aL ((nI c).toInt64)]) (r := []) (m_one (dgL h y) ((nI c).toInt64) C (dm s a v t ld ob) E) rfl rfl ?_
  refine z_Ev_blk 2 (c' := (239, [some (aR 0 32), some (aI (0 : Int32)), none], [], (C, dm s a v t ld ob, (eU E (dgI (dgL h y) (nI c)))))) rfl trivial ?_
  refine z_Ev_fgt [true, true, false] ?_
  exact z_Ev_eq (c := (239, [some (aR 0 32), some (aI (0 : Int32)), none], [], (C, dm s a v t ld ob, (eU E (dgI (dgL h y) (nI c)))))) (c' := (239, [some (aR 0 32), some (aI (nI 0)), none], [], (C, dm s a v t ld ob, (eU E (dgI (dgL h y) (nI c)))))) (by first | rfl | (rw [nI_1]; done) | (rw [nI_1]; rfl)) K
theorem me_x {xs : Nat → Int32} {L : Nat} {o : z_Rs} {M' : Mem} {kk : Nat} (i c : Nat) (h : Int64) (C : Nat → Nat → Nat → Int32) (s a v t ld ob : Nat → Int32) (E : Nat → Int64) (h6 : ob 6 = nI c) (hi : i < c) (hc : c ≤ 60) (K : z_Ev xs L m_X5_digest (239, [some (aR 0 32), some (aI (nI (i + 1))), none], [], (C, dm s a v t ld ob, (eU E (dgI h (t i))))) o M' kk) : z_Ev xs L m_X5_digest (239, [some (aR 0 32), some (aI (nI i)), none], [], (C, dm s a v t ld ob, (eU E h))) o M' kk := by
  refine z_Ev_blk 3 (c' := (244, [some (aR 0 32), some (aI (nI i)), none], [aI (ob 6), aI (nI i)], (C, dm s a v t ld ob, (eU E h)))) rfl trivial ?_
  rw [h6]
  refine z_Ev_blk 1 (c' := ((if (nI c) ≤ (nI i) then 264 else 247), [some (aR 0 32), some (aI (nI i)), none], [], (C, dm s a v t ld ob, (eU E h)))) rfl trivial ?_
  refine z_Ev_else (nI_ge hi (by omega)) ?_
  refine z_Ev_blk 5 (c' := (254, [some (aR 0 32), some (aI (nI i)), none], [aI (t ((nI i).toNatClampNeg)), aR 0 32], (C, dm s a v t ld ob, (eU E h)))) rfl ⟨(inb_nI (show i < 60 by omega) (by decide)), trivial⟩ ?_
  rw [nI_clamp (show i < 2 ^ 31 by omega)]
  refine z_Ev_blk 1 (c' := (255, [some (aR 0 32), some (aI (nI i)), none], [aL ((t i).toInt64), aR 0 32], (C, dm s a v t ld ob, (eU E h)))) rfl trivial ?_
  refine z_Ev_call0 (m' := m_X5_digestOne) (as := [aR 0 32, aL ((t i).toInt64)]) (r := []) (m_one h ((t i).toInt64) C (dm s a v t ld ob) E) rfl rfl ?_
  refine z_Ev_blk 2 (c' := (239, [some (aR 0 32), some (aI ((nI i) + (1 : Int32))), none], [], (C, dm s a v t ld ob, (eU E (dgI h (t i)))))) rfl trivial ?_
  refine z_Ev_fgt [true, true, false] ?_
  exact z_Ev_eq (c := (239, [some (aR 0 32), some (aI ((nI i) + (1 : Int32))), none], [], (C, dm s a v t ld ob, (eU E (dgI h (t i)))))) (c' := (239, [some (aR 0 32), some (aI (nI (i + 1))), none], [], (C, dm s a v t ld ob, (eU E (dgI h (t i)))))) (by first | rfl | (rw [nI_1]; done) | (rw [nI_1]; rfl)) K
theorem me_z {xs : Nat → Int32} {L : Nat} (c : Nat) (h : Int64) (C : Nat → Nat → Nat → Int32) (s a v t ld ob : Nat → Int32) (E : Nat → Int64) (h6 : ob 6 = nI c) : z_Ev xs L m_X5_digest (239, [some (aR 0 32), some (aI (nI c)), none], [], (C, dm s a v t ld ob, (eU E h))) (.inl (some (aL h))) (C, dm s a v t ld ob, eU E h) 0 := by
  refine z_Ev_blk 3 (c' := (244, [some (aR 0 32), some (aI (nI c)), none], [aI (ob 6), aI (nI c)], (C, dm s a v t ld ob, (eU E h)))) rfl trivial ?_
  rw [h6]
  refine z_Ev_blk 1 (c' := ((if (nI c) ≤ (nI c) then 264 else 247), [some (aR 0 32), some (aI (nI c)), none], [], (C, dm s a v t ld ob, (eU E h)))) rfl trivial ?_
  refine z_Ev_if (Int32.le_refl _) ?_
  refine z_Ev_blk 2 (c' := (268, [some (aR 0 32), some (aI (nI c)), none], [aL ((eU E h) 0)], (C, dm s a v t ld ob, (eU E h)))) rfl trivial ?_
  exact z_Ev_lretE rfl rfl (by exact eU_0) (by rfl)
/-- the model's digest, from a point of its own on -/
def DM (xs : Nat → Int32) (L : Nat) (C : Nat → Nat → Nat → Int32) (s v t : Nat → Int32) (E : Nat → Int64) (x : Int32) (c : Nat) (pc : Nat) (ls : Lc) (h r : Int64) : Prop := ∀ a ld ob : Nat → Int32, ob 4 = x → ob 6 = nI c → ∃ a' ld' ob' : Nat → Int32, (∀ k, k < 8 → ob' k = ob k) ∧ z_Ev xs L m_X5_digest (pc, ls, [], (C, dm s a v t ld ob, eU E h)) (.inl (some (aL r))) (C, dm s a' v t ld' ob', eU E r) 0
theorem md_st {xs : Nat → Int32} {L : Nat} (C : Nat → Nat → Nat → Int32) (s v t : Nat → Int32) (E : Nat → Int64) (x : Int32) (c : Nat) {pc pc' m : Nat} {ls ls' : Lc} {h h' r : Int64} {as : List AV} {V : AV} (hC : KM xs L C s v t (eU E h) x m as V)
    (hr : ∀ a ld ob A1 LD OB : Nat → Int32, z_Mt xs L m as (C, dm s a v t ld ob, eU E h) (.inl (some V)) (C, dm s A1 v t LD OB, eU E h) 0 → ∀ (o : z_Rs) (M' : Mem), z_Ev xs L m_X5_digest (pc', ls', [], (C, dm s A1 v t LD OB, eU E h')) o M' 0 → z_Ev xs L m_X5_digest (pc, ls, [], (C, dm s a v t ld ob, eU E h)) o M' 0)
    (K : DM xs L C s v t E x c pc' ls' h' r) : DM xs L C s v t E x c pc ls h r := by
  intro a ld ob h4 h6
  obtain ⟨A1, LD, OB, o1, Q⟩ := hC a ld ob h4
  obtain ⟨a', ld', ob', o2, R⟩ := K A1 LD OB ((o1 4 (by decide)).trans h4) ((o1 6 (by decide)).trans h6)
  exact ⟨a', ld', ob', fun k hk => (o2 k hk).trans (o1 k hk), hr a ld ob A1 LD OB Q _ _ R⟩
theorem md_x {xs : Nat → Int32} {L : Nat} (C : Nat → Nat → Nat → Int32) (s v t : Nat → Int32) (E : Nat → Int64) (x : Int32) (c : Nat) (hc : c ≤ 60) : ∀ (d i : Nat) (h : Int64), i + d = c → DM xs L C s v t E x c 239 [some (aR 0 32), some (aI (nI i)), none] h (itN t d i h) := by
  intro d
  induction d with
  | zero =>
    intro i h hd a ld ob h4 h6
    have e : i = c := by omega
    subst e
    exact ⟨a, ld, ob, fun _ _ => rfl, me_z i h C s a v t ld ob E h6⟩
  | succ d ih =>
    intro i h hd a ld ob h4 h6
    obtain ⟨a', ld', ob', o1, K⟩ := ih (i + 1) (dgI h (t i)) (by omega) a ld ob h4 h6
    exact ⟨a', ld', ob', o1, me_x i c h C s a v t ld ob E h6 (by omega) hc K⟩
theorem md_a {xs : Nat → Int32} {L : Nat} (H : Nat) (C : Nat → Nat → Nat → Int32) (s v t : Nat → Int32) (E : Nat → Int64) (x : Int32) (c : Nat) (hV : Vs s H) (r : Int64) : ∀ (d w : Nat) (h : Int64), w + d = 15 → DM xs L C s v t E x c 14 [some (aR 0 32), some (aI (nI 15)), none] (itN (cntV s x) d w h) r → DM xs L C s v t E x c 14 [some (aR 0 32), some (aI (nI w)), none] h r := by
  intro d
  induction d with
  | zero =>
    intro w h hd K
    have e : w = 15 := by omega
    subst e
    exact K
  | succ d ih =>
    intro w h hd K
    exact md_st C s v t E x c (n_counted H w C s v t _ x hV (by omega)) (fun a ld ob A1 LD OB Q o M' R => me_a w _ h A1 LD OB C s a v t ld ob E (by omega) Q R) (ih (w + 1) _ (by omega) K)
theorem md_c {xs : Nat → Int32} {L : Nat} (H k : Nat) (C : Nat → Nat → Nat → Int32) (s v t : Nat → Int32) (E : Nat → Int64) (x : Int32) (c : Nat) (hV : Vs s H) (hk : k < 4) (r : Int64) : ∀ (d w : Nat) (h : Int64), w + d = 9 → DM xs L C s v t E x c 69 [some (aR 0 32), some (aI (nI k)), some (aI (nI 9))] (itN (tolV s k) d w h) r → DM xs L C s v t E x c 69 [some (aR 0 32), some (aI (nI k)), some (aI (nI w))] h r := by
  intro d
  induction d with
  | zero =>
    intro w h hd K
    have e : w = 9 := by omega
    subst e
    exact K
  | succ d ih =>
    intro w h hd K
    exact md_st C s v t E x c (n_told H k w C s v t _ x hV hk (by omega)) (fun a ld ob A1 LD OB Q o M' R => me_c k w _ h A1 LD OB C s a v t ld ob E (by omega) Q R) (ih (w + 1) _ (by omega) K)
theorem md_s {xs : Nat → Int32} {L : Nat} (H : Nat) (C : Nat → Nat → Nat → Int32) (s v t : Nat → Int32) (E : Nat → Int64) (x : Int32) (c : Nat) (hV : Vs s H) (r : Int64) : ∀ (d k : Nat) (h : Int64), k + d = 4 → DM xs L C s v t E x c 110 [some (aR 0 32), some (aI (nI 0)), none] (itS s d k h) r → DM xs L C s v t E x c 62 [some (aR 0 32), some (aI (nI k)), none] h r := by
  intro d
  induction d with
  | zero =>
    intro k h hd K a ld ob h4 h6
    have e : k = 4 := by omega
    subst e
    obtain ⟨a', ld', ob', o1, Q⟩ := K a ld ob h4 h6
    exact ⟨a', ld', ob', o1, me_e h C s a v t ld ob E Q⟩
  | succ d ih =>
    intro k h hd K
    have K2 : DM xs L C s v t E x c 69 [some (aR 0 32), some (aI (nI k)), some (aI (nI 0))] h r := by
      refine md_c H k C s v t E x c hV (by omega) r 9 0 h rfl ?_
      exact md_st C s v t E x c (n_dark H k C s v t _ x hV (by omega)) (fun a ld ob A1 LD OB Q o M' R => me_d k _ _ A1 LD OB C s a v t ld ob E Q R) (ih (k + 1) _ (by omega) K)
    intro a ld ob h4 h6
    obtain ⟨a', ld', ob', o1, Q⟩ := K2 a ld ob h4 h6
    exact ⟨a', ld', ob', o1, me_c0 k h C s a v t ld ob E (by omega) Q⟩
theorem d7 : ∀ k, k < 336 → nI k / 7 = nI (k / 7) ∧ nI k - nI k / 7 * 7 = nI (k % 7) := by decide +kernel
def hkV (s : Nat → Int32) (k : Nat) : Int32 := houV s (k / 7) (k % 7)
theorem md_h {xs : Nat → Int32} {L : Nat} (C : Nat → Nat → Nat → Int32) (s v t : Nat → Int32) (E : Nat → Int64) (x : Int32) (c : Nat) (r : Int64) : ∀ (d k : Nat) (h : Int64), k + d = 336 → DM xs L C s v t E x c 110 [some (aR 0 32), some (aI (nI 336)), none] (itN (hkV s) d k h) r → DM xs L C s v t E x c 110 [some (aR 0 32), some (aI (nI k)), none] h r := by
  intro d
  induction d with
  | zero =>
    intro k h hd K
    have e : k = 336 := by omega
    subst e
    exact K
  | succ d ih =>
    intro k h hd K
    obtain ⟨q1, q2⟩ := d7 k (by omega)
    exact md_st C s v t E x c (n_toldH (k / 7) (k % 7) C s v t _ x (by omega) (by omega)) (fun a ld ob A1 LD OB Q o M' R => me_f k _ h A1 LD OB C s a v t ld ob E (by omega) q1 q2 Q R) (ih (k + 1) _ (by omega) K)
theorem it_h {s : Nat → Int32} : ∀ (d k : Nat) (h : Int64), itN (hkV s) (7 * d) (7 * k) h = itH s d k h
  | 0, _, _ => rfl
  | d + 1, k, h => by
    have e : ∀ w, w < 7 → hkV s (7 * k + w) = houV s k w := fun w hw => by
      unfold hkV
      rw [show (7 * k + w) / 7 = k by omega, show (7 * k + w) % 7 = w by omega]
    have e7 : 7 * (d + 1) = 7 * d + 1 + 1 + 1 + 1 + 1 + 1 + 1 := by omega
    rw [e7]
    show itN (hkV s) (7 * d) (7 * k + 1 + 1 + 1 + 1 + 1 + 1 + 1) (dgI (dgI (dgI (dgI (dgI (dgI (dgI h (hkV s (7 * k))) (hkV s (7 * k + 1))) (hkV s (7 * k + 1 + 1))) (hkV s (7 * k + 1 + 1 + 1))) (hkV s (7 * k + 1 + 1 + 1 + 1))) (hkV s (7 * k + 1 + 1 + 1 + 1 + 1))) (hkV s (7 * k + 1 + 1 + 1 + 1 + 1 + 1))) = itH s d (k + 1) (dgI (dgI (dgI (dgI (dgI (dgI (dgI h (houV s k 0)) (houV s k 1)) (houV s k 2)) (houV s k 3)) (houV s k 4)) (houV s k 5)) (houV s k 6))
    rw [show hkV s (7 * k) = houV s k 0 from e 0 (by decide), e 1 (by decide), show hkV s (7 * k + 1 + 1) = houV s k 2 from e 2 (by decide), show hkV s (7 * k + 1 + 1 + 1) = houV s k 3 from e 3 (by decide), show hkV s (7 * k + 1 + 1 + 1 + 1) = houV s k 4 from e 4 (by decide), show hkV s (7 * k + 1 + 1 + 1 + 1 + 1) = houV s k 5 from e 5 (by decide), show hkV s (7 * k + 1 + 1 + 1 + 1 + 1 + 1) = houV s k 6 from e 6 (by decide), show 7 * k + 1 + 1 + 1 + 1 + 1 + 1 + 1 = 7 * (k + 1) by omega]
    exact it_h d (k + 1) _
theorem n_safe {xs : Nat → Int32} {L : Nat} (H a_ : Nat) (C : Nat → Nat → Nat → Int32) (s a v t ld ob : Nat → Int32) (E : Nat → Int64) (hV : Vs s H) (ha : sfN s H = nI a_) (haH : a_ ≤ H) : z_Mt xs L m_X5_safe [aR 0 32] (C, dm s a v t ld ob, E) (.inl (some (aD (shareV s H a_)))) (C, dm s a v t ld ob, E) 0 := by
  unfold shareV
  by_cases e : H = 0
  · subst e
    rw [if_pos rfl]
    exact m_safe0 C s a v t ld ob E hV.2.1.1
  · rw [if_neg e]
    refine m_safe1 H a_ C s a v t ld ob E hV.2.1.1 ?_ (by omega) hV.2.1.2 haH
    have e := hV.2.2.2.2.2.2.2.2.2.1
    rw [← ha, ← e]; grind
theorem n_digest {xs : Nat → Int32} {L : Nat} (H a_ : Nat) (C : Nat → Nat → Nat → Int32) (s v t : Nat → Int32) (E : Nat → Int64) (x : Int32) (c : Nat) (hV : Vs s H) (ha : sfN s H = nI a_) (haH : a_ ≤ H) (hc : c ≤ 60) : ∀ a ld ob : Nat → Int32, ob 4 = x → ob 6 = nI c → ∃ a' ld' ob' : Nat → Int32, ob' 0 = 0 ∧ (∀ k, k < 8 → k ≠ 0 → ob' k = ob k) ∧ z_Mt xs L m_X5_digest [aR 0 32] (C, dm s a v t ld ob, E) (.inl (some (aL (digV s t H a_ c x)))) (C, dm s a' v t ld' ob', eU E (digV s t H a_ c x)) 0 := by
  have K0 : DM xs L C s v t E x c 14 [some (aR 0 32), some (aI (nI 0)), none] 3041 (digV s t H a_ c x) := by
    refine md_a H C s v t E x c hV _ 15 0 3041 rfl ?_
    intro a ld ob h4 h6
    have K1 : DM xs L C s v t E x c 62 [some (aR 0 32), some (aI (nI 0)), none] (dgI (dgI (itN (cntV s x) 15 0 3041) (s 32)) (s 33)) (digV s t H a_ c x) := by
      refine md_s H C s v t E x c hV _ 4 0 _ rfl ?_
      refine md_h C s v t E x c _ 336 0 _ rfl ?_
      rw [show itN (hkV s) 336 0 = itN (hkV s) (7 * 48) (7 * 0) from rfl, it_h 48 0]
      intro a ld ob h4 h6
      have K2 : DM xs L C s v t E x c 142 [some (aR 0 32), some (aI (0 : Int32)), none] (itH s 48 0 (itS s 4 0 (dgI (dgI (itN (cntV s x) 15 0 3041) (s 32)) (s 33)))) (digV s t H a_ c x) := by
        refine md_st C s v t E x c (n_best 0 0 C s v t _ x (by decide) (by decide)) (fun a ld ob A1 LD OB Q o M' R => me_h0 _ _ A1 LD OB C s a v t ld ob E Q R) ?_
        refine md_st C s v t E x c (n_best 0 1 C s v t _ x (by decide) (by decide)) (fun a ld ob A1 LD OB Q o M' R => me_h1 _ _ A1 LD OB C s a v t ld ob E Q R) ?_
        refine md_st C s v t E x c (n_best 20 0 C s v t _ x (by decide) (by decide)) (fun a ld ob A1 LD OB Q o M' R => me_h2 _ _ A1 LD OB C s a v t ld ob E Q R) ?_
        refine md_st C s v t E x c (n_best 20 1 C s v t _ x (by decide) (by decide)) (fun a ld ob A1 LD OB Q o M' R => me_h3 _ _ A1 LD OB C s a v t ld ob E Q R) ?_
        refine md_st C s v t E x c (n_best 47 0 C s v t _ x (by decide) (by decide)) (fun a ld ob A1 LD OB Q o M' R => me_h4 _ _ A1 LD OB C s a v t ld ob E Q R) ?_
        refine md_st C s v t E x c (n_best 47 1 C s v t _ x (by decide) (by decide)) (fun a ld ob A1 LD OB Q o M' R => me_h5 _ _ A1 LD OB C s a v t ld ob E Q R) ?_
        intro a ld ob h4 h6
        have K3 : DM xs L C s v t E x c 190 [some (aR 0 32), none, none] (chD s 47 (chD s 20 (chD s 0 (itH s 48 0 (itS s 4 0 (dgI (dgI (itN (cntV s x) 15 0 3041) (s 32)) (s 33))))))) (digV s t H a_ c x) := by
          refine md_st C s v t E x c (n_darkFirst H C s v t _ x hV) (fun a ld ob A1 LD OB Q o M' R => me_j _ _ A1 LD OB C s a v t ld ob E Q R) ?_
          refine md_st C s v t E x c (n_fewer H C s v t _ x hV) (fun a ld ob A1 LD OB Q o M' R => me_k _ _ A1 LD OB C s a v t ld ob E Q R) ?_
          refine md_st C s v t E x c (n_startBest H C s v t _ x hV) (fun a ld ob A1 LD OB Q o M' R => me_l _ _ A1 LD OB C s a v t ld ob E Q R) ?_
          intro a ld ob h4 h6
          obtain ⟨a', ld', ob', o1, K⟩ := md_x (xs := xs) (L := L) C s v t E x c hc c 0 (dgI (dgL (dgI (dgI (dgI (chD s 47 (chD s 20 (chD s 0 (itH s 48 0 (itS s 4 0 (dgI (dgI (itN (cntV s x) 15 0 3041) (s 32)) (s 33))))))) (fdV s H)) (ifsV s H)) (bsV s H)) (bitV (shareV s H a_))) (nI c)) (by omega) a ld ob h4 h6
          exact ⟨a', ld', ob', o1, me_m c (shareV s H a_) (bitV (shareV s H a_)) _ C s a v t ld ob E (n_safe H a_ C s a v t ld ob _ hV ha haH) (n_bits _ _ _ _ (chk_share (s := s) hV.2.1.2 haH)) h6 K⟩
        obtain ⟨a', ld', ob', o1, K⟩ := K3 a ld ob h4 h6
        exact ⟨a', ld', ob', o1, me_i _ C s a v t ld ob E K⟩
      obtain ⟨a', ld', ob', o1, K⟩ := K2 a ld ob h4 h6
      exact ⟨a', ld', ob', o1, me_g _ C s a v t ld ob E K⟩
    obtain ⟨a', ld', ob', o1, K⟩ := K1 a ld ob h4 h6
    exact ⟨a', ld', ob', o1, me_b _ C s a v t ld ob E K⟩
  intro a ld ob h4 h6
  obtain ⟨a', ld', ob', o1, K⟩ := K0 a ld (upd ob 0 0) h4 h6
  refine ⟨a', ld', ob', o1 0 (by decide), fun k hk h0 => (o1 k hk).trans (upd_ne h0), ?_⟩
  refine z_Ev_blk 3 (c' := (5, [some (aR 0 32), none, none], [], (C, up2 (dm s a v t ld ob) 32 0 0, E))) rfl trivial ?_
  rw [dm_32]
  refine z_Ev_blk 5 (c' := (14, [some (aR 0 32), some (aI (0 : Int32)), none], [], (C, dm s a v t ld (upd ob 0 0), vp_updL E 0 3041))) rfl trivial ?_
  exact K
