/-! THE START: what it knows -/
theorem rOK_i {m : Nat} {i : Instr} {x : Int32} {st : List AV} (h : z_rOK m i (.inl (some (.inl x))) st) : i = .ireturn ∧ st = [.inl x] := by
  unfold z_rOK at h
  split at h
  · obtain ⟨-, -, h3⟩ := h; cases h3
  · obtain ⟨y, h1, h2, -⟩ := h; cases h2; exact ⟨rfl, h1⟩
  · obtain ⟨y, h1, h2, -⟩ := h; cases h2
  · obtain ⟨y, h1, h2, -⟩ := h; cases h2
  · exact absurd h (fun q => q)
set_option maxHeartbeats 4000000 in
set_option maxRecDepth 100000 in
/-- what the start knows -/
theorem start_cx {s : State} {b L : Nat} {xs : Nat → Int32} (hts : ∀ w ∈ lw_tbl, w.before #[Value.ref b] s = true) (hX : va_X b L xs s s.heap) (hbl : b < s.heap.size) (hgv : (Jvm.Cond.and given_1 narrow_1).before #[Value.ref b] s = true) : ∃ (dC : Nat → ClassId) (dI : Nat → Nat → Nat) (cs : Nat → ClassId) (sa : Nat → Nat), z_KC (dC, dI) cs s ∧ z_cx (dC, dI) cs (fun q => s.heap.size ≤ q) b L xs sa s := by
  obtain ⟨c0, i0, g0⟩ := u_known (C := RX0) (T := TX0) (N := 8) (n := 8) hts (by decide +kernel) (hts (.instantiable RX0 8) (by decide +kernel))
  obtain ⟨c1, i1, g1⟩ := u_known (C := RX1) (T := TX1) (N := 7) (n := 7) hts (by decide +kernel) (hts (.instantiable RX1 7) (by decide +kernel))
  obtain ⟨c2, i2, g2⟩ := u_known (C := RX2) (T := TX2) (N := 5) (n := 5) hts (by decide +kernel) (hts (.instantiable RX2 5) (by decide +kernel))
  obtain ⟨c3, i3, g3⟩ := u_known (C := RX3) (T := TX3) (N := 5) (n := 5) hts (by decide +kernel) (hts (.instantiable RX3 5) (by decide +kernel))
  obtain ⟨c4, i4, g4⟩ := u_known (C := RX4) (T := TX4) (N := 9) (n := 9) hts (by decide +kernel) (hts (.instantiable RX4 9) (by decide +kernel))
  have hKc : ∀ (k : Nat) (q : vw_C), vwCl[k]? = some q → u_Kn s q.1 q.2.1 q.2.2 ([c0, c1, c2, c3, c4].getD k 0) ([i0, i1, i2, i3, i4].getD k (fun _ => 0)) := by
    intro k q hq
    match k, hq with
    | 0, hq => cases hq; exact g0
    | 1, hq => cases hq; exact g1
    | 2, hq => cases hq; exact g2
    | 3, hq => cases hq; exact g3
    | 4, hq => cases hq; exact g4
    | k + 5, hq => cases hq
  obtain ⟨ci, ki, pi, f1, f2, f3⟩ := Cond.arrayClass_spec (hts (.arrayClass .int) (by decide +kernel))
  have hAO : va_AO RX1 s := va_AO.of (hts (.arrayOver (.object RX1)) (by decide +kernel))
  obtain ⟨pq, cq, kq, q1, q2, q3, q4, q5⟩ := Cond.arrayOver_spec (va_AO.use (A := #[]) hAO)
  have hAA : va_AOA .int s := va_AOA.of (hts (.arrayOver (.array .int)) (by decide +kernel))
  obtain ⟨pj, cj, kj, j1, j2, j3, j4, j5⟩ := ao_spec hAA
  have hK : va_K (fun k => [c0, c1, c2, c3, c4].getD k 0, fun k => [i0, i1, i2, i3, i4].getD k (fun _ => 0)) vwCl (z_tys (fun k => [ci, ci, cq, cj].getD k 0)) s := by
    refine ⟨hKc, fun k q hk => ?_⟩
    match k, hk with
    | 0, hk => cases hk; exact ⟨fun n z => ⟨(fun k h => by cases h), ki, f2, pi, f3⟩, f1⟩
    | 1, hk => cases hk; exact ⟨fun n z => ⟨(fun k h => by cases h), kq, q3, pq, q4⟩, kq, pq, q3, q4, q1, q5⟩
    | 2, hk => cases hk; exact ⟨fun n z => ⟨(fun k h => by cases h), kj, j3, pj, j4⟩, j5⟩
    | k + 3, hk => cases hk
  have hM : ∀ w ∈ z_misc, va_Nw w s := fun w hw => va_tabs (z_M_tab (List.mem_filter.mp hw).2) rfl (hts w (List.mem_filter.mp hw).1)
  have hq := flat_of_before _ hgv
  have s0 := hts (.stringRef RX4 273 "out of range, or the buffer is no plan") (by decide +kernel)
  have s1 := hts (.stringRef RX4 280 "the state does not allow this") (by decide +kernel)
  have s2 := hts (.stringRef RX4 285 "there is no such setting") (by decide +kernel)
  obtain ⟨-, -, -, a0, -, -, -, -, -, e0⟩ := Cond.stringRef_spec g4.2.1 s0
  obtain ⟨-, -, -, a1, -, -, -, -, -, e1⟩ := Cond.stringRef_spec g4.2.1 s1
  obtain ⟨-, -, -, a2, -, -, -, -, -, e2⟩ := Cond.stringRef_spec g4.2.1 s2
  refine ⟨_, _, _, fun k => [a0, a1, a2].getD k 0, ⟨hK, hM, hAO, hAA⟩, hK, ?_, ?_, hM, vk_R.of s0 e0, vk_R.of s1 e1, vk_R.of s2 e2, trivial, trivial, hX, hbl, Nat.not_le.mpr hbl⟩
  · exact vx_Zqof (hts (.laysStatic Bundle.tN "UNASSIGNED_STACK" Bundle.steD) (by decide +kernel)) (hts (.initialized Bundle.tN) (by decide +kernel)) (hq (.isRef (.static Bundle.tN "UNASSIGNED_STACK" Bundle.steD)) (by decide +kernel)) (fun a ha => Nat.not_le.mpr ha)
  · exact vx_Zqof (hts (.laysStatic Bundle.tN "SUPPRESSED_SENTINEL" Bundle.listD) (by decide +kernel)) (hts (.initialized Bundle.tN) (by decide +kernel)) (hq (.isRef (.static Bundle.tN "SUPPRESSED_SENTINEL" Bundle.listD)) (by decide +kernel)) (fun a ha => Nat.not_le.mpr ha)
