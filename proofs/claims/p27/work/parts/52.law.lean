/-! THE LAW: its loop -/
theorem e_cellA {xs : Nat → Int32} {L : Nat} (e : Nat) (hL : L < 2 ^ 31) (he : e < 2 ^ 31) : ∃ x : Int32, ∀ M : Mem, z_Mt xs L m_L_cell [aR 0 41, aI (nI e)] M (.inl (some (aI x))) M 0 := by
  by_cases h : e < L
  · refine ⟨xs (nI e).toNatClampNeg, fun M => ?_⟩
    refine z_Ev_blk 4 (c' := ((if Int32.ofNat L ≤ nI e then 12 else 6), [some (aR 0 41), some (aI (nI e))], [], M)) rfl trivial ?_
    refine z_Ev_else (nI_ge h hL) ?_
    refine z_Ev_blk 4 (c' := (24, [some (aR 0 41), some (aI (nI e))], [aI (xs (nI e).toNatClampNeg)], M)) rfl ⟨?_, trivial⟩ ?_
    · unfold z_inb
      rw [nI_clamp he, decide_eq_false (nI_pos he)]
      exact Nat.ble_eq.mpr h
    · exact z_Ev_iretE rfl rfl rfl rfl
  · refine ⟨7919 * (nI e + 3) * (nI e + 11), fun M => ?_⟩
    refine z_Ev_blk 4 (c' := ((if Int32.ofNat L ≤ nI e then 12 else 6), [some (aR 0 41), some (aI (nI e))], [], M)) rfl trivial ?_
    refine z_Ev_if (nI_le (by omega) he) ?_
    refine z_Ev_blk 9 (c' := (24, [some (aR 0 41), some (aI (nI e))], [aI (7919 * (nI e + 3) * (nI e + 11))], M)) rfl trivial ?_
    exact z_Ev_iretE rfl rfl rfl rfl
theorem lw_a {xs : Nat → Int32} {L : Nat} {r : AV} {P : Mem → Prop} {z : Nat → Int32} {G : Nat} {M : Mem} {s : Nat → Int32} {H : Nat} (hV : Vs s H) (hVz : Vs z G) {e : Nat} (he : e < 56) {x rv : Int32} (hC : ∀ M : Mem, z_Mt xs L m_L_cell [aR 0 41, aI (nI e)] M (.inl (some (aI x))) M 0) (hD : Cw xs L m_L_does [aR 0 16, aI x] s [] (aI rv) z []) (hr : 0 ≤ rv) (h36 : ¬ z 36 < s 36) {h : Nat} (hh : h < 48) (eh : lowV (x >>> ((5 : Int32) &&& 31)) (48 : Int32) = nI h) (h0 : Wd s [] M) (K : ∀ M', Wd z [] M' → Fn xs L m_L_law (121, [some (aR 0 41), some (aR 0 16), some (aI (nI e)), some (aI x), none, none, some (aI (chV z h 0)), some (aI (1 : Int32)), some (aI (nI 0))], [], M') r P) : Fn xs L m_L_law (10, [some (aR 0 41), some (aR 0 16), some (aI (nI e)), none, none, none, none, none, none], [], M) r P := by
  refine Fn_blk 3 (c' := ((if (56 : Int32) ≤ (nI e) then 220 else 16), [some (aR 0 41), some (aR 0 16), some (aI (nI e)), none, none, none, none, none, none], [], M)) rfl trivial ?_
  refine Fn_else (nI_ge (b := 56) he (by decide)) ?_
  refine Fn_blk 2 (c' := (18, [some (aR 0 41), some (aR 0 16), some (aI (nI e)), none, none, none, none, none, none], [aI (nI e), aR 0 41], M)) rfl trivial ?_
  refine Fn_pure (m' := m_L_cell) (as := [aR 0 41, aI (nI e)]) (rr := []) (hC _) rfl rfl ?_
  refine Fn_blk 3 (c' := (25, [some (aR 0 41), some (aR 0 16), some (aI (nI e)), some (aI x), none, none, none, none, none], [aI (9 : Int32), aR 0 16], M)) rfl trivial ?_
  refine Fn_call (m' := m_X4_count) (as := [aR 0 16, aI (9 : Int32)]) (rr := []) (q_count_9 hV) h0 rfl rfl (fun M1 w1 => ?_)
  refine Fn_blk 3 (c' := (32, [some (aR 0 41), some (aR 0 16), some (aI (nI e)), some (aI x), some (aI (s 36)), none, none, none, none], [aI x, aR 0 16], M1)) rfl trivial ?_
  refine Fn_call (m' := m_L_does) (as := [aR 0 16, aI x]) (rr := []) (hD) w1 rfl rfl (fun M2 w2 => ?_)
  refine Fn_blk 6 (c' := (43, [some (aR 0 41), some (aR 0 16), some (aI (nI e)), some (aI x), some (aI (s 36)), some (aI rv), none, none, none], [aI (48 : Int32), aI (x >>> ((5 : Int32) &&& 31)), aR 0 16], M2)) rfl trivial ?_
  refine Fn_pure (m' := m_L_low) (as := [aI (x >>> ((5 : Int32) &&& 31)), aI (48 : Int32)]) (rr := [aR 0 16]) (e_low _ _ _ (by decide)) rfl rfl ?_
  refine Fn_eq (c' := (46, [some (aR 0 41), some (aR 0 16), some (aI (nI e)), some (aI x), some (aI (s 36)), some (aI rv), none, none, none], [aI (nI h), aR 0 16], M2)) (by rw [eh]) ?_
  refine Fn_blk 1 (c' := (47, [some (aR 0 41), some (aR 0 16), some (aI (nI e)), some (aI x), some (aI (s 36)), some (aI rv), none, none, none], [aI (0 : Int32), aI (nI h), aR 0 16], M2)) rfl trivial ?_
  refine Fn_call (m' := m_X4_cheapest) (as := [aR 0 16, aI (nI h), aI (0 : Int32)]) (rr := []) (q_cheapest_0 hVz hh) w2 rfl rfl (fun M3 w3 => ?_)
  refine Fn_blk 3 (c' := ((if rv < 0 then 115 else 57), [some (aR 0 41), some (aR 0 16), some (aI (nI e)), some (aI x), some (aI (s 36)), some (aI rv), some (aI (chV z h 0)), none, none], [], M3)) rfl trivial ?_
  refine Fn_else (Int32.not_lt.mpr hr) ?_
  refine Fn_blk 2 (c' := (60, [some (aR 0 41), some (aR 0 16), some (aI (nI e)), some (aI x), some (aI (s 36)), some (aI rv), some (aI (chV z h 0)), none, none], [aI (9 : Int32), aR 0 16], M3)) rfl trivial ?_
  refine Fn_call (m' := m_X4_count) (as := [aR 0 16, aI (9 : Int32)]) (rr := []) (q_count_9 hVz) w3 rfl rfl (fun M4 w4 => ?_)
  refine Fn_blk 2 (c' := ((if (z 36) < (s 36) then 115 else 68), [some (aR 0 41), some (aR 0 16), some (aI (nI e)), some (aI x), some (aI (s 36)), some (aI rv), some (aI (chV z h 0)), none, none], [], M4)) rfl trivial ?_
  refine Fn_else (h36) ?_
  refine Fn_blk 3 (c' := ((if (chV z h 0) = (-1 : Int32) then 74 else 78), [some (aR 0 41), some (aR 0 16), some (aI (nI e)), some (aI x), some (aI (s 36)), some (aI rv), some (aI (chV z h 0)), none, none], [], M4)) rfl trivial ?_
  refine Fn_dia (n1 := 2) (n2 := 1) (pc := 79) (x := 1) (y := 0) rfl rfl ?_
  refine Fn_blk 5 (c' := (85, [some (aR 0 41), some (aR 0 16), some (aI (nI e)), some (aI x), some (aI (s 36)), some (aI rv), some (aI (chV z h 0)), none, none], [aI (48 : Int32), aI (x >>> ((5 : Int32) &&& 31)), aR 0 16, aI (if (chV z h 0) = (-1 : Int32) then (1 : Int32) else (0 : Int32))], M4)) rfl trivial ?_
  refine Fn_pure (m' := m_L_low) (as := [aI (x >>> ((5 : Int32) &&& 31)), aI (48 : Int32)]) (rr := [aR 0 16, aI (if (chV z h 0) = (-1 : Int32) then (1 : Int32) else (0 : Int32))]) (e_low _ _ _ (by decide)) rfl rfl ?_
  refine Fn_eq (c' := (88, [some (aR 0 41), some (aR 0 16), some (aI (nI e)), some (aI x), some (aI (s 36)), some (aI rv), some (aI (chV z h 0)), none, none], [aI (nI h), aR 0 16, aI (if (chV z h 0) = (-1 : Int32) then (1 : Int32) else (0 : Int32))], M4)) (by rw [eh]) ?_
  refine Fn_blk 1 (c' := (89, [some (aR 0 41), some (aR 0 16), some (aI (nI e)), some (aI x), some (aI (s 36)), some (aI rv), some (aI (chV z h 0)), none, none], [aI (1 : Int32), aI (nI h), aR 0 16, aI (if (chV z h 0) = (-1 : Int32) then (1 : Int32) else (0 : Int32))], M4)) rfl trivial ?_
  refine Fn_call (m' := m_X4_cheapest) (as := [aR 0 16, aI (nI h), aI (1 : Int32)]) (rr := [aI (if (chV z h 0) = (-1 : Int32) then (1 : Int32) else (0 : Int32))]) (q_cheapest_1 hVz hh) w4 rfl rfl (fun M5 w5 => ?_)
  refine Fn_blk 2 (c' := ((if (chV z h 1) = (-1 : Int32) then 96 else 100), [some (aR 0 41), some (aR 0 16), some (aI (nI e)), some (aI x), some (aI (s 36)), some (aI rv), some (aI (chV z h 0)), none, none], [aI (if (chV z h 0) = (-1 : Int32) then (1 : Int32) else (0 : Int32))], M5)) rfl trivial ?_
  refine Fn_dia (n1 := 2) (n2 := 1) (pc := 101) (x := 1) (y := 0) rfl rfl ?_
  refine Fn_blk 1 (c' := ((if (if (chV z h 0) = (-1 : Int32) then (1 : Int32) else (0 : Int32)) = (if (chV z h 1) = (-1 : Int32) then (1 : Int32) else (0 : Int32)) then 104 else 115), [some (aR 0 41), some (aR 0 16), some (aI (nI e)), some (aI x), some (aI (s 36)), some (aI rv), some (aI (chV z h 0)), none, none], [], M5)) rfl trivial ?_
  refine Fn_if (ch_iff hVz hh) ?_
  refine Fn_blk 3 (c' := ((if (16 : Int32) ≤ (chV z h 0) then 115 else 111), [some (aR 0 41), some (aR 0 16), some (aI (nI e)), some (aI x), some (aI (s 36)), some (aI rv), some (aI (chV z h 0)), none, none], [], M5)) rfl trivial ?_
  refine Fn_else (ch_lt) ?_
  refine Fn_blk 5 (c' := (121, [some (aR 0 41), some (aR 0 16), some (aI (nI e)), some (aI x), some (aI (s 36)), some (aI rv), some (aI (chV z h 0)), some (aI (1 : Int32)), some (aI (0 : Int32))], [], M5)) rfl trivial ?_
  refine Fn_fgt [true, true, true, true, false, false, true, true, true] ?_
  exact Fn_eq (c := (121, [some (aR 0 41), some (aR 0 16), some (aI (nI e)), some (aI x), none, none, some (aI (chV z h 0)), some (aI (1 : Int32)), some (aI (0 : Int32))], [], M5)) (c' := (121, [some (aR 0 41), some (aR 0 16), some (aI (nI e)), some (aI x), none, none, some (aI (chV z h 0)), some (aI (1 : Int32)), some (aI (nI 0))], [], M5)) (by rfl) (K _ w5)
theorem lw_k1 {xs : Nat → Int32} {L : Nat} {r : AV} {P : Mem → Prop} {z : Nat → Int32} {G : Nat} {M : Mem} (hVz : Vs z G) {e h k : Nat} (hk : k < 4) (h1 : chV z h 0 < 0) (h0 : Wd z [] M) (K : ∀ M', Wd z [] M' → Fn xs L m_L_law (121, [some (aR 0 41), some (aR 0 16), some (aI (nI e)), none, none, none, some (aI (chV z h 0)), some (aI (1 : Int32)), some (aI (nI (k + 1)))], [], M') r P) : Fn xs L m_L_law (121, [some (aR 0 41), some (aR 0 16), some (aI (nI e)), none, none, none, some (aI (chV z h 0)), some (aI (1 : Int32)), some (aI (nI k))], [], M) r P := by
  refine Fn_blk 3 (c' := ((if (4 : Int32) ≤ (nI k) then 171 else 127), [some (aR 0 41), some (aR 0 16), some (aI (nI e)), none, none, none, some (aI (chV z h 0)), some (aI (1 : Int32)), some (aI (nI k))], [], M)) rfl trivial ?_
  refine Fn_else (nI_ge (b := 4) hk (by decide)) ?_
  refine Fn_blk 2 (c' := ((if (1 : Int32) = 0 then 162 else 132), [some (aR 0 41), some (aR 0 16), some (aI (nI e)), none, none, none, some (aI (chV z h 0)), some (aI (1 : Int32)), some (aI (nI k))], [], M)) rfl trivial ?_
  refine Fn_else (by decide) ?_
  refine Fn_blk 2 (c' := ((if (chV z h 0) < 0 then 158 else 137), [some (aR 0 41), some (aR 0 16), some (aI (nI e)), none, none, none, some (aI (chV z h 0)), some (aI (1 : Int32)), some (aI (nI k))], [], M)) rfl trivial ?_
  refine Fn_if (h1) ?_
  refine Fn_blk 5 (c' := (121, [some (aR 0 41), some (aR 0 16), some (aI (nI e)), none, none, none, some (aI (chV z h 0)), some (aI (1 : Int32)), some (aI ((nI k) + (1 : Int32)))], [], M)) rfl trivial ?_
  exact Fn_eq (c := (121, [some (aR 0 41), some (aR 0 16), some (aI (nI e)), none, none, none, some (aI (chV z h 0)), some (aI (1 : Int32)), some (aI ((nI k) + (1 : Int32)))], [], M)) (c' := (121, [some (aR 0 41), some (aR 0 16), some (aI (nI e)), none, none, none, some (aI (chV z h 0)), some (aI (1 : Int32)), some (aI (nI (k + 1)))], [], M)) (by rw [nI_succ]) (K _ h0)
theorem lw_k2 {xs : Nat → Int32} {L : Nat} {r : AV} {P : Mem → Prop} {z : Nat → Int32} {G : Nat} {M : Mem} (hVz : Vs z G) {e h k : Nat} (hk : k < 4) (h1 : ¬ chV z h 0 < 0) (h2 : ((chV z h 0) >>> ((nI k) &&& 31)) &&& (1 : Int32) = 0) (h0 : Wd z [] M) (K : ∀ M', Wd z [] M' → Fn xs L m_L_law (121, [some (aR 0 41), some (aR 0 16), some (aI (nI e)), none, none, none, some (aI (chV z h 0)), some (aI (1 : Int32)), some (aI (nI (k + 1)))], [], M') r P) : Fn xs L m_L_law (121, [some (aR 0 41), some (aR 0 16), some (aI (nI e)), none, none, none, some (aI (chV z h 0)), some (aI (1 : Int32)), some (aI (nI k))], [], M) r P := by
  refine Fn_blk 3 (c' := ((if (4 : Int32) ≤ (nI k) then 171 else 127), [some (aR 0 41), some (aR 0 16), some (aI (nI e)), none, none, none, some (aI (chV z h 0)), some (aI (1 : Int32)), some (aI (nI k))], [], M)) rfl trivial ?_
  refine Fn_else (nI_ge (b := 4) hk (by decide)) ?_
  refine Fn_blk 2 (c' := ((if (1 : Int32) = 0 then 162 else 132), [some (aR 0 41), some (aR 0 16), some (aI (nI e)), none, none, none, some (aI (chV z h 0)), some (aI (1 : Int32)), some (aI (nI k))], [], M)) rfl trivial ?_
  refine Fn_else (by decide) ?_
  refine Fn_blk 2 (c' := ((if (chV z h 0) < 0 then 158 else 137), [some (aR 0 41), some (aR 0 16), some (aI (nI e)), none, none, none, some (aI (chV z h 0)), some (aI (1 : Int32)), some (aI (nI k))], [], M)) rfl trivial ?_
  refine Fn_else (h1) ?_
  refine Fn_blk 6 (c' := ((if (((chV z h 0) >>> ((nI k) &&& 31)) &&& (1 : Int32)) = 0 then 158 else 147), [some (aR 0 41), some (aR 0 16), some (aI (nI e)), none, none, none, some (aI (chV z h 0)), some (aI (1 : Int32)), some (aI (nI k))], [], M)) rfl trivial ?_
  refine Fn_if (h2) ?_
  refine Fn_blk 5 (c' := (121, [some (aR 0 41), some (aR 0 16), some (aI (nI e)), none, none, none, some (aI (chV z h 0)), some (aI (1 : Int32)), some (aI ((nI k) + (1 : Int32)))], [], M)) rfl trivial ?_
  exact Fn_eq (c := (121, [some (aR 0 41), some (aR 0 16), some (aI (nI e)), none, none, none, some (aI (chV z h 0)), some (aI (1 : Int32)), some (aI ((nI k) + (1 : Int32)))], [], M)) (c' := (121, [some (aR 0 41), some (aR 0 16), some (aI (nI e)), none, none, none, some (aI (chV z h 0)), some (aI (1 : Int32)), some (aI (nI (k + 1)))], [], M)) (by rw [nI_succ]) (K _ h0)
theorem lw_k3 {xs : Nat → Int32} {L : Nat} {r : AV} {P : Mem → Prop} {z : Nat → Int32} {G : Nat} {M : Mem} (hVz : Vs z G) {e h k : Nat} (hk : k < 4) (h1 : ¬ chV z h 0 < 0) (h2 : ¬ ((chV z h 0) >>> ((nI k) &&& 31)) &&& (1 : Int32) = 0) (h0 : Wd z [] M) (K : ∀ M', Wd z [] M' → Fn xs L m_L_law (121, [some (aR 0 41), some (aR 0 16), some (aI (nI e)), none, none, none, some (aI (chV z h 0)), some (aI (1 : Int32)), some (aI (nI (k + 1)))], [], M') r P) : Fn xs L m_L_law (121, [some (aR 0 41), some (aR 0 16), some (aI (nI e)), none, none, none, some (aI (chV z h 0)), some (aI (1 : Int32)), some (aI (nI k))], [], M) r P := by
  refine Fn_blk 3 (c' := ((if (4 : Int32) ≤ (nI k) then 171 else 127), [some (aR 0 41), some (aR 0 16), some (aI (nI e)), none, none, none, some (aI (chV z h 0)), some (aI (1 : Int32)), some (aI (nI k))], [], M)) rfl trivial ?_
  refine Fn_else (nI_ge (b := 4) hk (by decide)) ?_
  refine Fn_blk 2 (c' := ((if (1 : Int32) = 0 then 162 else 132), [some (aR 0 41), some (aR 0 16), some (aI (nI e)), none, none, none, some (aI (chV z h 0)), some (aI (1 : Int32)), some (aI (nI k))], [], M)) rfl trivial ?_
  refine Fn_else (by decide) ?_
  refine Fn_blk 2 (c' := ((if (chV z h 0) < 0 then 158 else 137), [some (aR 0 41), some (aR 0 16), some (aI (nI e)), none, none, none, some (aI (chV z h 0)), some (aI (1 : Int32)), some (aI (nI k))], [], M)) rfl trivial ?_
  refine Fn_else (h1) ?_
  refine Fn_blk 6 (c' := ((if (((chV z h 0) >>> ((nI k) &&& 31)) &&& (1 : Int32)) = 0 then 158 else 147), [some (aR 0 41), some (aR 0 16), some (aI (nI e)), none, none, none, some (aI (chV z h 0)), some (aI (1 : Int32)), some (aI (nI k))], [], M)) rfl trivial ?_
  refine Fn_else (h2) ?_
  refine Fn_blk 3 (c' := (151, [some (aR 0 41), some (aR 0 16), some (aI (nI e)), none, none, none, some (aI (chV z h 0)), some (aI (1 : Int32)), some (aI (nI k))], [aI (4 : Int32), aI (nI k), aR 0 16], M)) rfl trivial ?_
  refine Fn_call (m' := m_X4_setOf) (as := [aR 0 16, aI (nI k), aI (4 : Int32)]) (rr := []) (q_setOf_4 hVz hk) h0 rfl rfl (fun M1 w1 => ?_)
  refine Fn_blk 2 (c' := ((if (z (16 + k)) = (3 : Int32) then 162 else 158), [some (aR 0 41), some (aR 0 16), some (aI (nI e)), none, none, none, some (aI (chV z h 0)), some (aI (1 : Int32)), some (aI (nI k))], [], M1)) rfl trivial ?_
  refine Fn_else (ch_bit hk h1 h2) ?_
  refine Fn_blk 5 (c' := (121, [some (aR 0 41), some (aR 0 16), some (aI (nI e)), none, none, none, some (aI (chV z h 0)), some (aI (1 : Int32)), some (aI ((nI k) + (1 : Int32)))], [], M1)) rfl trivial ?_
  exact Fn_eq (c := (121, [some (aR 0 41), some (aR 0 16), some (aI (nI e)), none, none, none, some (aI (chV z h 0)), some (aI (1 : Int32)), some (aI ((nI k) + (1 : Int32)))], [], M1)) (c' := (121, [some (aR 0 41), some (aR 0 16), some (aI (nI e)), none, none, none, some (aI (chV z h 0)), some (aI (1 : Int32)), some (aI (nI (k + 1)))], [], M1)) (by rw [nI_succ]) (K _ w1)
theorem lw_k {xs : Nat → Int32} {L : Nat} {r : AV} {P : Mem → Prop} {z : Nat → Int32} {G : Nat} {M : Mem} (hVz : Vs z G) {e h k : Nat} (hk : k < 4) (h0 : Wd z [] M) (K : ∀ M', Wd z [] M' → Fn xs L m_L_law (121, [some (aR 0 41), some (aR 0 16), some (aI (nI e)), none, none, none, some (aI (chV z h 0)), some (aI (1 : Int32)), some (aI (nI (k + 1)))], [], M') r P) : Fn xs L m_L_law (121, [some (aR 0 41), some (aR 0 16), some (aI (nI e)), none, none, none, some (aI (chV z h 0)), some (aI (1 : Int32)), some (aI (nI k))], [], M) r P := by
  by_cases h1 : chV z h 0 < 0
  · exact lw_k1 hVz hk h1 h0 K
  · by_cases h2 : ((chV z h 0) >>> ((nI k) &&& 31)) &&& (1 : Int32) = 0
    · exact lw_k2 hVz hk h1 h2 h0 K
    · exact lw_k3 hVz hk h1 h2 h0 K
theorem lw_b {xs : Nat → Int32} {L : Nat} {r : AV} {P : Mem → Prop} {z : Nat → Int32} {G : Nat} {M : Mem} (hVz : Vs z G) (hX : Xs z G) {e h : Nat}  (h0 : Wd z [] M) (K : ∀ M', Wd z [] M' → Fn xs L m_L_law (183, [some (aR 0 41), some (aR 0 16), some (aI (nI e)), none, none, none, none, none, none], [], M') r P) : Fn xs L m_L_law (121, [some (aR 0 41), some (aR 0 16), some (aI (nI e)), none, none, none, some (aI (chV z h 0)), some (aI (1 : Int32)), some (aI (nI 4))], [], M) r P := by
  refine Fn_blk 3 (c' := ((if (4 : Int32) ≤ (nI 4) then 171 else 127), [some (aR 0 41), some (aR 0 16), some (aI (nI e)), none, none, none, some (aI (chV z h 0)), some (aI (1 : Int32)), some (aI (nI 4))], [], M)) rfl trivial ?_
  refine Fn_if (by decide) ?_
  refine Fn_blk 2 (c' := ((if (1 : Int32) = 0 then 212 else 176), [some (aR 0 41), some (aR 0 16), some (aI (nI e)), none, none, none, some (aI (chV z h 0)), some (aI (1 : Int32)), some (aI (nI 4))], [], M)) rfl trivial ?_
  refine Fn_else (by decide) ?_
  refine Fn_blk 1 (c' := (177, [some (aR 0 41), some (aR 0 16), some (aI (nI e)), none, none, none, some (aI (chV z h 0)), some (aI (1 : Int32)), some (aI (nI 4))], [aR 0 16], M)) rfl trivial ?_
  refine Fn_call (m' := m_L_areSetsSo) (as := [aR 0 16]) (rr := []) (q_sets hVz hX) h0 rfl rfl (fun M1 w1 => ?_)
  refine Fn_blk 1 (c' := ((if (1 : Int32) = 0 then 212 else 183), [some (aR 0 41), some (aR 0 16), some (aI (nI e)), none, none, none, some (aI (chV z h 0)), some (aI (1 : Int32)), some (aI (nI 4))], [], M1)) rfl trivial ?_
  refine Fn_else (by decide) ?_
  refine Fn_fgt [true, true, true, false, false, false, false, false, false] ?_
  exact K _ w1
theorem lw_c1 {xs : Nat → Int32} {L : Nat} {r : AV} {P : Mem → Prop} {z : Nat → Int32} {G : Nat} {M : Mem} (hVz : Vs z G) (hX : Xs z G) {e : Nat} (h3 : (nI e) - (nI e) / (3 : Int32) * (3 : Int32) = 1) (h0 : Wd z [] M) (K : ∀ M', Wd z [] M' → Fn xs L m_L_law (197, [some (aR 0 41), some (aR 0 16), some (aI (nI e)), none, none, none, none, none, none], [], M') r P) : Fn xs L m_L_law (183, [some (aR 0 41), some (aR 0 16), some (aI (nI e)), none, none, none, none, none, none], [], M) r P := by
  refine Fn_blk 5 (c' := ((if ((nI e) - (nI e) / (3 : Int32) * (3 : Int32)) = (1 : Int32) then 190 else 197), [some (aR 0 41), some (aR 0 16), some (aI (nI e)), none, none, none, none, none, none], [], M)) rfl ⟨by decide, trivial⟩ ?_
  refine Fn_if (h3) ?_
  refine Fn_blk 1 (c' := (191, [some (aR 0 41), some (aR 0 16), some (aI (nI e)), none, none, none, none, none, none], [aR 0 16], M)) rfl trivial ?_
  refine Fn_call (m' := m_L_areHoursSo) (as := [aR 0 16]) (rr := []) (q_hours hVz hX) h0 rfl rfl (fun M1 w1 => ?_)
  refine Fn_blk 1 (c' := ((if (1 : Int32) = 0 then 212 else 197), [some (aR 0 41), some (aR 0 16), some (aI (nI e)), none, none, none, none, none, none], [], M1)) rfl trivial ?_
  refine Fn_else (by decide) ?_
  exact K _ w1
theorem lw_c2 {xs : Nat → Int32} {L : Nat} {r : AV} {P : Mem → Prop} {z : Nat → Int32} {G : Nat} {M : Mem} {e : Nat} (h3 : ¬ (nI e) - (nI e) / (3 : Int32) * (3 : Int32) = 1) (h0 : Wd z [] M) (K : ∀ M', Wd z [] M' → Fn xs L m_L_law (197, [some (aR 0 41), some (aR 0 16), some (aI (nI e)), none, none, none, none, none, none], [], M') r P) : Fn xs L m_L_law (183, [some (aR 0 41), some (aR 0 16), some (aI (nI e)), none, none, none, none, none, none], [], M) r P := by
  refine Fn_blk 5 (c' := ((if ((nI e) - (nI e) / (3 : Int32) * (3 : Int32)) = (1 : Int32) then 190 else 197), [some (aR 0 41), some (aR 0 16), some (aI (nI e)), none, none, none, none, none, none], [], M)) rfl ⟨by decide, trivial⟩ ?_
  refine Fn_else (h3) ?_
  exact K _ h0
theorem lw_d1 {xs : Nat → Int32} {L : Nat} {r : AV} {P : Mem → Prop} {z : Nat → Int32} {G : Nat} {M : Mem} (hVz : Vs z G) (hX : Xs z G) (hG : G < 48) {e : Nat} (h7 : (nI e) - (nI e) / (7 : Int32) * (7 : Int32) = 4) (h0 : Wd z [] M) (K : ∀ M', Wd z [] M' → Fn xs L m_L_law (10, [some (aR 0 41), some (aR 0 16), some (aI (nI (e + 1))), none, none, none, none, none, none], [], M') r P) : Fn xs L m_L_law (197, [some (aR 0 41), some (aR 0 16), some (aI (nI e)), none, none, none, none, none, none], [], M) r P := by
  refine Fn_blk 5 (c' := ((if ((nI e) - (nI e) / (7 : Int32) * (7 : Int32)) = (4 : Int32) then 205 else 214), [some (aR 0 41), some (aR 0 16), some (aI (nI e)), none, none, none, none, none, none], [], M)) rfl ⟨by decide, trivial⟩ ?_
  refine Fn_if (h7) ?_
  refine Fn_blk 1 (c' := (206, [some (aR 0 41), some (aR 0 16), some (aI (nI e)), none, none, none, none, none, none], [aR 0 16], M)) rfl trivial ?_
  refine Fn_call (m' := m_L_areIfsSo) (as := [aR 0 16]) (rr := []) (q_ifs hVz hX hG) h0 rfl rfl (fun M1 w1 => ?_)
  refine Fn_blk 1 (c' := ((if (1 : Int32) = 0 then 212 else 214), [some (aR 0 41), some (aR 0 16), some (aI (nI e)), none, none, none, none, none, none], [], M1)) rfl trivial ?_
  refine Fn_else (by decide) ?_
  refine Fn_blk 2 (c' := (10, [some (aR 0 41), some (aR 0 16), some (aI ((nI e) + (1 : Int32))), none, none, none, none, none, none], [], M1)) rfl trivial ?_
  exact Fn_eq (c := (10, [some (aR 0 41), some (aR 0 16), some (aI ((nI e) + (1 : Int32))), none, none, none, none, none, none], [], M1)) (c' := (10, [some (aR 0 41), some (aR 0 16), some (aI (nI (e + 1))), none, none, none, none, none, none], [], M1)) (by rw [nI_succ]) (K _ w1)
theorem lw_d2 {xs : Nat → Int32} {L : Nat} {r : AV} {P : Mem → Prop} {z : Nat → Int32} {G : Nat} {M : Mem} {e : Nat} (h7 : ¬ (nI e) - (nI e) / (7 : Int32) * (7 : Int32) = 4) (h0 : Wd z [] M) (K : ∀ M', Wd z [] M' → Fn xs L m_L_law (10, [some (aR 0 41), some (aR 0 16), some (aI (nI (e + 1))), none, none, none, none, none, none], [], M') r P) : Fn xs L m_L_law (197, [some (aR 0 41), some (aR 0 16), some (aI (nI e)), none, none, none, none, none, none], [], M) r P := by
  refine Fn_blk 5 (c' := ((if ((nI e) - (nI e) / (7 : Int32) * (7 : Int32)) = (4 : Int32) then 205 else 214), [some (aR 0 41), some (aR 0 16), some (aI (nI e)), none, none, none, none, none, none], [], M)) rfl ⟨by decide, trivial⟩ ?_
  refine Fn_else (h7) ?_
  refine Fn_blk 2 (c' := (10, [some (aR 0 41), some (aR 0 16), some (aI ((nI e) + (1 : Int32))), none, none, none, none, none, none], [], M)) rfl trivial ?_
  exact Fn_eq (c := (10, [some (aR 0 41), some (aR 0 16), some (aI ((nI e) + (1 : Int32))), none, none, none, none, none, none], [], M)) (c' := (10, [some (aR 0 41), some (aR 0 16), some (aI (nI (e + 1))), none, none, none, none, none, none], [], M)) (by rw [nI_succ]) (K _ h0)
theorem lw_e {xs : Nat → Int32} {L : Nat} {M : Mem} : Fn xs L m_L_law (10, [some (aR 0 41), some (aR 0 16), some (aI (nI 56)), none, none, none, none, none, none], [], M) (aI (1 : Int32)) (fun _ => True) := by
  refine Fn_blk 3 (c' := ((if (56 : Int32) ≤ (nI 56) then 220 else 16), [some (aR 0 41), some (aR 0 16), some (aI (nI 56)), none, none, none, none, none, none], [], M)) rfl trivial ?_
  refine Fn_if (by decide) ?_
  refine Fn_blk 1 (c' := (221, [some (aR 0 41), some (aR 0 16), some (aI (nI 56)), none, none, none, none, none, none], [aI (1 : Int32)], M)) rfl trivial ?_
  exact Fn_zret rfl rfl rfl (by rfl) trivial
/-- the law's loop: every check of every round comes out true -/
theorem law_loop {xs : Nat → Int32} {L : Nat} (hL : L < 2 ^ 31) : ∀ (d e : Nat) (s : Nat → Int32) (H : Nat) (M : Mem), e + d = 56 → Vs s H → Xs s H → H < 48 → Wd s [] M → Fn xs L m_L_law (10, [some (aR 0 41), some (aR 0 16), some (aI (nI e)), none, none, none, none, none, none], [], M) (aI (1 : Int32)) (fun _ => True)
  | 0, e, s, H, M, hd, _, _, _, _ => by
    have h : e = 56 := hd
    subst h
    exact lw_e
  | d + 1, e, s, H, M, hd, hV, hX, hH, h0 => by
    obtain ⟨x, hx⟩ : ∃ x : Int32, ∀ M : Mem, z_Mt xs L m_L_cell [aR 0 41, aI (nI e)] M (.inl (some (aI x))) M 0 := e_cellA e hL (by omega)
    obtain ⟨rv, z, G, hD, hr, hVz, hXz, hG, h36⟩ := q_does (xs := xs) (L := L) (v := x) hV hX hH
    obtain ⟨h, eh, hh⟩ := low_b (x >>> ((5 : Int32) &&& 31)) (N := 48) (by decide) (by decide)
    refine lw_a hV hVz (show e < 56 by omega) hx hD hr h36 hh eh h0 (fun M0 w0 => ?_)
    have K10 : ∀ M', Wd z [] M' → Fn xs L m_L_law (10, [some (aR 0 41), some (aR 0 16), some (aI (nI (e + 1))), none, none, none, none, none, none], [], M') (aI (1 : Int32)) (fun _ => True) := fun M' w => law_loop hL d (e + 1) z G M' (by omega) hVz hXz hG w
    refine Fn_fgt [true, true, true, false, true, true, true, true, true] ?_
    refine lw_k hVz (k := 0) (by decide) w0 (fun M1 w1 => ?_)
    refine lw_k hVz (k := 1) (by decide) w1 (fun M2 w2 => ?_)
    refine lw_k hVz (k := 2) (by decide) w2 (fun M3 w3 => ?_)
    refine lw_k hVz (k := 3) (by decide) w3 (fun M4 w4 => ?_)
    refine lw_b hVz hXz w4 (fun M5 w5 => ?_)
    have K197 : ∀ M', Wd z [] M' → Fn xs L m_L_law (197, [some (aR 0 41), some (aR 0 16), some (aI (nI e)), none, none, none, none, none, none], [], M') (aI (1 : Int32)) (fun _ => True) := by
      intro M6 w6
      by_cases h7 : (nI e) - (nI e) / (7 : Int32) * (7 : Int32) = 4
      · exact lw_d1 hVz hXz hG h7 w6 K10
      · exact lw_d2 (z := z) (G := G) h7 w6 K10
    by_cases h3 : (nI e) - (nI e) / (3 : Int32) * (3 : Int32) = 1
    · exact lw_c1 hVz hXz h3 w5 K197
    · exact lw_c2 (z := z) (G := G) h3 w5 K197
theorem law_all {xs : Nat → Int32} {L : Nat} (hL : L < 2 ^ 31) {s : Nat → Int32} {H : Nat} {M : Mem} (hV : Vs s H) (hX : Xs s H) (hH : H < 48) (h0 : Wd s [] M) : Fn xs L m_L_law (8, [some (aR 0 41), some (aR 0 16), none, none, none, none, none, none, none], [], M) (aI (1 : Int32)) (fun _ => True) := by
  refine Fn_blk 2 (c' := (10, [some (aR 0 41), some (aR 0 16), some (aI (nI 0)), none, none, none, none, none, none], [], M)) rfl trivial ?_
  exact law_loop hL 56 0 s H M rfl hV hX hH h0
