/-! THE MODEL: what would be, in words of the island -/
theorem oa_k {s ld ob : Nat → Int32} {all mask : Int32} {k : Nat} (h : k < 8) : sOb (md g0 s) all mask ld ob k = ob k := oa_o h
theorem goN_hi {s : Nat → Int32} {H j : Nat} (h34 : s 34 = nI H) (hH : H < 48) (hj : 376 ≤ j) : goN s j = s j := by
  rw [gN_o h34 hH (by omega) (by omega) (by omega) (by omega) (by omega), wuF_o (by omega)]
theorem goM_hi : ∀ (n : Nat) {s : Nat → Int32} {H j : Nat}, Vs s H → H + n ≤ 48 → 376 ≤ j → goM n s j = s j
  | 0, s, H, j, _, _, _ => rfl
  | n + 1, s, H, j, hV, hn, hj => by
    rw [goM_s, goM_hi n (Vs_go hV (by omega)) (by omega) hj, goN_hi hV.2.1.1 (by omega) hj]
theorem goM_row : ∀ (n : Nat) {s : Nat → Int32} {H h i : Nat}, Vs s H → H + n ≤ 48 → h < H → i < 6 → goM n s (88 + 6 * h + i) = s (88 + 6 * h + i)
  | 0, s, H, h, i, _, _, _, _ => rfl
  | n + 1, s, H, h, i, hV, hn, hh, hi => by
    rw [goM_s, goM_row n (Vs_go hV (by omega)) (by omega) (by omega) hi, gN_row hV.2.1.1 (by omega) (by omega) hi]
theorem cp_back {f s a : Nat → Int32} (h : ∀ j, 376 ≤ j → f j = s j) : cpN f (cpN a s 376) 376 = s := by
  funext j
  unfold cpN
  by_cases e : j < 376
  · rw [if_pos e, if_pos e]
  · rw [if_neg e]; exact h j (by omega)
theorem goI_ob : ∀ (n : Nat) (x : S3) (k : Nat), k < 8 → (goI n x).2.2 k = x.2.2 k
  | 0, x, k, _ => rfl
  | n + 1, x, k, hk => by
    rw [goI_s, goI_ob n (goT x) k hk, goT_3]
    exact oa_o hk
theorem gOb_8 {s ld ob : Nat → Int32} {H : Nat} (h34 : s 34 = nI H) (hH : H < 48) : gOb g0 s ld ob 8 = goN s (88 + 6 * H + 1) := by
  rw [gN_r1 h34 hH]
  exact sOb_8
theorem gOb_o {s ld ob : Nat → Int32} {k : Nat} (h : k < 8) : gOb g0 s ld ob k = ob k := by
  unfold gOb
  exact oa_o h
/-- calls of the model that leave its island as it was -/
def KM (xs : Nat → Int32) (L : Nat) (C : Nat → Nat → Nat → Int32) (s v t : Nat → Int32) (E : Nat → Int64) (x : Int32) (m : Nat) (as : List AV) (r : AV) : Prop := ∀ a ld ob : Nat → Int32, ob 4 = x → ∃ a' ld' ob' : Nat → Int32, (∀ k, k < 8 → ob' k = ob k) ∧ z_Mt xs L m as (C, dm s a v t ld ob, E) (.inl (some r)) (C, dm s a' v t ld' ob', E) 0
theorem n_go {xs : Nat → Int32} {L : Nat} (C : Nat → Nat → Nat → Int32) (s a v t ld ob : Nat → Int32) (E : Nat → Int64) {H : Nat} (hV : Vs s H) (hH : H < 48) : ∃ LD OB : Nat → Int32, (∀ k, k < 8 → OB k = ob k) ∧ OB 8 = goN s (88 + 6 * H + 1) ∧ z_Mt xs L m_X5_goOn [aR 0 32] (C, dm s a v t ld ob, E) (.inl none) (C, dm (goN s) a v t LD OB, E) 0 := by
  have q := E_goOn (xs := xs) (L := L) C s a v t ld ob E hV.2.1.1 hH
  rw [goF_can] at q
  exact ⟨gLd g0 s ld, gOb g0 s ld ob, fun k hk => gOb_o hk, gOb_8 hV.2.1.1 hH, q⟩
theorem n_passes {xs : Nat → Int32} {L : Nat} (C : Nat → Nat → Nat → Int32) (s a v t ld ob : Nat → Int32) (E : Nat → Int64) {H : Nat} (n : Nat) (hV : Vs s H) (hn : H + n ≤ 48) : ∃ LD OB : Nat → Int32, (∀ k, k < 8 → OB k = ob k) ∧ z_Mt xs L m_X5_passes [aR 0 32, aI (nI n)] (C, dm s a v t ld ob, E) (.inl (some (aI (goM n s 38 - s 38)))) (C, dm (goM n s) a v t LD OB, E) 0 := by
  have q := m_passes (xs := xs) (L := L) n H C s a v t ld ob E hV.2.1.1 hn
  have e : (goI n (s, ld, ob)).1 = goM n s := goI_M n (s, ld, ob)
  rw [e] at q
  exact ⟨_, _, fun k hk => goI_ob n (s, ld, ob) k hk, q⟩
theorem n_toEnd {xs : Nat → Int32} {L : Nat} (C : Nat → Nat → Nat → Int32) (s a v t ld ob : Nat → Int32) (E : Nat → Int64) {H : Nat} (hV : Vs s H) : ∃ LD OB : Nat → Int32, (∀ k, k < 8 → OB k = ob k) ∧ z_Mt xs L m_X5_darkToTheEnd [aR 0 32] (C, dm s a v t ld ob, E) (.inl (some (aI (goM (48 - H) s 38 - s 38)))) (C, dm (goM (48 - H) s) a v t LD OB, E) 0 := by
  have q := m_toEnd (xs := xs) (L := L) C s a v t ld ob E hV.2.1.1 hV.2.1.2 (goI (48 - H) (s, ld, ob)) rfl
  have e : (goI (48 - H) (s, ld, ob)).1 = goM (48 - H) s := goI_M _ (s, ld, ob)
  rw [e] at q
  exact ⟨_, _, fun k hk => goI_ob _ (s, ld, ob) k hk, q⟩

theorem mf_1 {xs : Nat → Int32} {L : Nat} {o : z_Rs} {M' : Mem} {kk : Nat} (H : Nat) (Z LD OB : Nat → Int32) (C : Nat → Nat → Nat → Int32) (s a v t ld ob : Nat → Int32) (E : Nat → Int64) (hs : s 34 = nI H) (hH : H < 48) (hG : z_Mt xs L m_X5_goOn [aR 0 32] (C, dm s a v t ld ob, E) (.inl none) (C, dm Z a v t LD OB, E) 0) (K : z_Ev xs L m_X5_darkFirst (6, [some (aR 0 32), some (aI (if 0 < OB 8 then nI H else -1)), none], [], (C, dm Z a v t LD OB, E)) o M' kk) : z_Ev xs L m_X5_darkFirst (6, [some (aR 0 32), some (aI (-1 : Int32)), none], [], (C, dm s a v t ld ob, E)) o M' kk := by
  refine z_Ev_blk 4 (c' := (13, [some (aR 0 32), some (aI (-1 : Int32)), none], [aI (s 34)], (C, dm s a v t ld ob, E))) rfl ⟨rfl, trivial⟩ ?_
  rw [hs]
  refine z_Ev_blk 2 (c' := ((if (48 : Int32) ≤ (nI H) then 51 else 18), [some (aR 0 32), some (aI (-1 : Int32)), none], [], (C, dm s a v t ld ob, E))) rfl trivial ?_
  refine z_Ev_else (nI_ge (b := 48) hH (by decide)) ?_
  refine z_Ev_blk 3 (c' := ((if (-1 : Int32) = (-1 : Int32) then 23 else 51), [some (aR 0 32), some (aI (-1 : Int32)), none], [], (C, dm s a v t ld ob, E))) rfl trivial ?_
  refine z_Ev_if (by decide) ?_
  refine z_Ev_blk 4 (c' := (30, [some (aR 0 32), some (aI (-1 : Int32)), none], [aI (s 34)], (C, dm s a v t ld ob, E))) rfl ⟨rfl, trivial⟩ ?_
  rw [hs]
  refine z_Ev_blk 2 (c' := (32, [some (aR 0 32), some (aI (-1 : Int32)), some (aI (nI H))], [aR 0 32], (C, dm s a v t ld ob, E))) rfl trivial ?_
  refine z_Ev_call0 (m' := m_X5_goOn) (as := [aR 0 32]) (r := []) (hG) rfl rfl ?_
  refine z_Ev_blk 3 (c' := ((if (OB 8) ≤ 0 then 46 else 42), [some (aR 0 32), some (aI (-1 : Int32)), some (aI (nI H))], [], (C, dm Z a v t LD OB, E))) rfl trivial ?_
  refine z_Ev_ite (fun h1 => ?_) (fun h1 => ?_)
  · skip
    refine z_Ev_blk 3 (c' := (6, [some (aR 0 32), some (aI (-1 : Int32)), some (aI (nI H))], [], (C, dm Z a v t LD OB, E))) rfl trivial ?_
    refine z_Ev_fgt [true, true, false] ?_
    exact z_Ev_eq (c := (6, [some (aR 0 32), some (aI (-1 : Int32)), none], [], (C, dm Z a v t LD OB, E))) (c' := (6, [some (aR 0 32), some (aI (if 0 < OB 8 then nI H else -1)), none], [], (C, dm Z a v t LD OB, E))) (by first | (rw [if_pos (Int32.not_le.mp h1)]; done) | (rw [if_neg (Int32.not_lt.mpr h1)]; done)) K
  · skip
    refine z_Ev_blk 4 (c' := (6, [some (aR 0 32), some (aI (nI H)), some (aI (nI H))], [], (C, dm Z a v t LD OB, E))) rfl trivial ?_
    refine z_Ev_fgt [true, true, false] ?_
    exact z_Ev_eq (c := (6, [some (aR 0 32), some (aI (nI H)), none], [], (C, dm Z a v t LD OB, E))) (c' := (6, [some (aR 0 32), some (aI (if 0 < OB 8 then nI H else -1)), none], [], (C, dm Z a v t LD OB, E))) (by first | (rw [if_pos (Int32.not_le.mp h1)]; done) | (rw [if_neg (Int32.not_lt.mpr h1)]; done)) K
theorem mf_e {xs : Nat → Int32} {L : Nat} (f : Int32) (C : Nat → Nat → Nat → Int32) (s a v t ld ob : Nat → Int32) (E : Nat → Int64) (hs : s 34 = nI 48) : z_Ev xs L m_X5_darkFirst (6, [some (aR 0 32), some (aI f), none], [], (C, dm s a v t ld ob, E)) (.inl (some (aI f))) (C, dm (cpN s a 376) a v t ld ob, E) 0 := by
  refine z_Ev_blk 4 (c' := (13, [some (aR 0 32), some (aI f), none], [aI (s 34)], (C, dm s a v t ld ob, E))) rfl ⟨rfl, trivial⟩ ?_
  rw [hs]
  refine z_Ev_blk 2 (c' := ((if (48 : Int32) ≤ (nI 48) then 51 else 18), [some (aR 0 32), some (aI f), none], [], (C, dm s a v t ld ob, E))) rfl trivial ?_
  refine z_Ev_if (by decide) ?_
  refine z_Ev_blk 1 (c' := (52, [some (aR 0 32), some (aI f), none], [aR 0 32], (C, dm s a v t ld ob, E))) rfl trivial ?_
  refine z_Ev_call0 (m' := m_X5_putBack) (as := [aR 0 32]) (r := []) (m_putBack C s a v t ld ob E) rfl rfl ?_
  refine z_Ev_blk 1 (c' := (56, [some (aR 0 32), some (aI f), none], [aI f], (C, dm (cpN s a 376) a v t ld ob, E))) rfl trivial ?_
  exact z_Ev_iretE rfl rfl (by rfl) (by rfl)
theorem mf_f {xs : Nat → Int32} {L : Nat} (f : Int32) (H : Nat) (C : Nat → Nat → Nat → Int32) (s a v t ld ob : Nat → Int32) (E : Nat → Int64) (hs : s 34 = nI H) (hH : H < 48) (hf : ¬ f = -1) : z_Ev xs L m_X5_darkFirst (6, [some (aR 0 32), some (aI f), none], [], (C, dm s a v t ld ob, E)) (.inl (some (aI f))) (C, dm (cpN s a 376) a v t ld ob, E) 0 := by
  refine z_Ev_blk 4 (c' := (13, [some (aR 0 32), some (aI f), none], [aI (s 34)], (C, dm s a v t ld ob, E))) rfl ⟨rfl, trivial⟩ ?_
  rw [hs]
  refine z_Ev_blk 2 (c' := ((if (48 : Int32) ≤ (nI H) then 51 else 18), [some (aR 0 32), some (aI f), none], [], (C, dm s a v t ld ob, E))) rfl trivial ?_
  refine z_Ev_else (nI_ge (b := 48) hH (by decide)) ?_
  refine z_Ev_blk 3 (c' := ((if f = (-1 : Int32) then 23 else 51), [some (aR 0 32), some (aI f), none], [], (C, dm s a v t ld ob, E))) rfl trivial ?_
  refine z_Ev_else (hf) ?_
  refine z_Ev_blk 1 (c' := (52, [some (aR 0 32), some (aI f), none], [aR 0 32], (C, dm s a v t ld ob, E))) rfl trivial ?_
  refine z_Ev_call0 (m' := m_X5_putBack) (as := [aR 0 32]) (r := []) (m_putBack C s a v t ld ob E) rfl rfl ?_
  refine z_Ev_blk 1 (c' := (56, [some (aR 0 32), some (aI f), none], [aI f], (C, dm (cpN s a 376) a v t ld ob, E))) rfl trivial ?_
  exact z_Ev_iretE rfl rfl (by rfl) (by rfl)
def fdM : Nat → (Nat → Int32) → Nat → Int32
  | 0, _, _ => -1
  | d + 1, s, H => if 0 < goN s (88 + 6 * H + 1) then nI H else fdM d (goN s) (H + 1)
theorem mf_all {xs : Nat → Int32} {L : Nat} (C : Nat → Nat → Nat → Int32) (a v t : Nat → Int32) (E : Nat → Int64) : ∀ (d H : Nat) (s ld ob : Nat → Int32), Vs s H → H + d = 48 → ∃ s' ld' ob' : Nat → Int32, (∀ j, 376 ≤ j → s' j = s j) ∧ (∀ k, k < 8 → ob' k = ob k) ∧ z_Ev xs L m_X5_darkFirst (6, [some (aR 0 32), some (aI (-1 : Int32)), none], [], (C, dm s a v t ld ob, E)) (.inl (some (aI (fdM d s H)))) (C, dm (cpN s' a 376) a v t ld' ob', E) 0 := by
  intro d
  induction d with
  | zero =>
    intro H s ld ob hV hd
    have e : H = 48 := by omega
    subst e
    exact ⟨s, ld, ob, fun _ _ => rfl, fun _ _ => rfl, mf_e (-1) C s a v t ld ob E hV.2.1.1⟩
  | succ d ih =>
    intro H s ld ob hV hd
    obtain ⟨LD, OB, h0, h8, hG⟩ := n_go (xs := xs) (L := L) C s a v t ld ob E hV (by omega)
    have hV2 := Vs_go hV (show H < 48 by omega)
    unfold fdM
    by_cases q : 0 < goN s (88 + 6 * H + 1)
    · rw [if_pos q]
      refine ⟨goN s, LD, OB, fun j hj => goN_hi hV.2.1.1 (by omega) hj, h0, ?_⟩
      refine mf_1 H (goN s) LD OB C s a v t ld ob E hV.2.1.1 (by omega) hG ?_
      rw [h8, if_pos q]
      by_cases e : H + 1 = 48
      · exact mf_e _ C _ a v t _ _ E (by rw [← e]; exact hV2.2.1.1)
      · refine mf_f _ (H + 1) C _ a v t _ _ E hV2.2.1.1 (by omega) ?_
        intro z
        have q2 := nI_toInt (n := H) (by omega)
        rw [z] at q2
        have : (-1 : Int32).toInt = -1 := rfl
        omega
    · rw [if_neg q]
      obtain ⟨s', ld', ob', g1, g2, K⟩ := ih (H + 1) (goN s) LD OB hV2 (by omega)
      refine ⟨s', ld', ob', fun j hj => (g1 j hj).trans (goN_hi hV.2.1.1 (by omega) hj), fun k hk => (g2 k hk).trans (h0 k hk), ?_⟩
      refine mf_1 H (goN s) LD OB C s a v t ld ob E hV.2.1.1 (by omega) hG ?_
      rw [h8, if_neg q]
      exact K
theorem fdM_n : ∀ (d : Nat) (s : Nat → Int32) (H : Nat), Vs s H → H + d = 48 → fdM d s H = fdN (goM d s) d H
  | 0, _, _, _, _ => rfl
  | d + 1, s, H, hV, hd => by
    unfold fdM fdN
    have hV2 := Vs_go hV (show H < 48 by omega)
    rw [goM_s, goM_row d hV2 (by omega) (by omega) (by decide), fdM_n d (goN s) (H + 1) hV2 (by omega)]
theorem n_darkFirst {xs : Nat → Int32} {L : Nat} (H : Nat) (C : Nat → Nat → Nat → Int32) (s v t : Nat → Int32) (E : Nat → Int64) (x : Int32) (hV : Vs s H) : KM xs L C s v t E x m_X5_darkFirst [aR 0 32] (aI (fdV s H)) := by
  intro a ld ob _
  obtain ⟨s', ld', ob', g1, g2, K⟩ := mf_all (xs := xs) (L := L) C (cpN a s 376) v t E (48 - H) H s ld ob hV (by have := hV.2.1.2; omega)
  refine ⟨cpN a s 376, ld', ob', g2, ?_⟩
  rw [cp_back g1, fdM_n _ _ _ hV (by have := hV.2.1.2; omega)] at K
  refine z_Ev_blk 1 (c' := (1, [some (aR 0 32), none, none], [aR 0 32], (C, dm s a v t ld ob, E))) rfl trivial ?_
  refine z_Ev_call0 (m' := m_X5_putAside) (as := [aR 0 32]) (r := []) (m_putAside C s a v t ld ob E) rfl rfl ?_
  refine z_Ev_blk 2 (c' := (6, [some (aR 0 32), some (aI (-1)), none], [], (C, dm s (cpN a s 376) v t ld ob, E))) rfl trivial ?_
  exact K
theorem m_fewer0 {xs : Nat → Int32} {L : Nat} (d1 d2 : Int32) (Z1 LD1 OB1 Z2 LD2 OB2 : Nat → Int32) (C : Nat → Nat → Nat → Int32) (s a v t ld ob : Nat → Int32) (E : Nat → Int64) (hE1 : z_Mt xs L m_X5_darkToTheEnd [aR 0 32] (C, dm s ((cpN a s 376)) v t ld ob, E) (.inl (some (aI d1))) (C, dm Z1 ((cpN a s 376)) v t LD1 OB1, E) 0) (hB1 : cpN Z1 (cpN a s 376) 376 = s) (hE2 : z_Mt xs L m_X5_darkToTheEnd [aR 0 32] (C, dm (upd s 37 (1 - s 37)) ((cpN a s 376)) v t LD1 OB1, E) (.inl (some (aI d2))) (C, dm Z2 ((cpN a s 376)) v t LD2 OB2, E) 0) (hB2 : cpN Z2 (cpN a s 376) 376 = s) : z_Mt xs L m_X5_fewerIfShed [aR 0 32] (C, dm s a v t ld ob, E) (.inl (some (aI (d1 - d2 + 100)))) (C, dm s (cpN a s 376) v t LD2 OB2, E) 0 := by
  refine z_Ev_blk 1 (c' := (1, [some (aR 0 32), none, none, none], [aR 0 32], (C, dm s a v t ld ob, E))) rfl trivial ?_
  refine z_Ev_call0 (m' := m_X5_putAside) (as := [aR 0 32]) (r := []) (m_putAside C s a v t ld ob E) rfl rfl ?_
  refine z_Ev_blk 1 (c' := (5, [some (aR 0 32), none, none, none], [aR 0 32], (C, dm s (cpN a s 376) v t ld ob, E))) rfl trivial ?_
  refine z_Ev_call0 (m' := m_X5_darkToTheEnd) (as := [aR 0 32]) (r := []) (hE1) rfl rfl ?_
  refine z_Ev_blk 2 (c' := (10, [some (aR 0 32), some (aI d1), none, none], [aR 0 32], (C, dm Z1 (cpN a s 376) v t LD1 OB1, E))) rfl trivial ?_
  refine z_Ev_call0 (m' := m_X5_putBack) (as := [aR 0 32]) (r := []) (m_putBack C Z1 (cpN a s 376) v t LD1 OB1 E) rfl rfl ?_
  rw [hB1]
  refine z_Ev_blk 1 (c' := (14, [some (aR 0 32), some (aI d1), none, none], [aR 0 32], (C, dm s (cpN a s 376) v t LD1 OB1, E))) rfl trivial ?_
  refine z_Ev_call0 (m' := m_X5_sheds) (as := [aR 0 32]) (r := []) (m_sheds C s (cpN a s 376) v t LD1 OB1 E) rfl rfl ?_
  refine z_Ev_blk 2 (c' := (19, [some (aR 0 32), some (aI d1), some (aI (1 - s 37)), none], [aR 0 32], (C, dm (upd s 37 (1 - s 37)) (cpN a s 376) v t LD1 OB1, E))) rfl trivial ?_
  refine z_Ev_call0 (m' := m_X5_darkToTheEnd) (as := [aR 0 32]) (r := []) (hE2) rfl rfl ?_
  refine z_Ev_blk 2 (c' := (24, [some (aR 0 32), some (aI d1), some (aI (1 - s 37)), some (aI d2)], [aR 0 32], (C, dm Z2 (cpN a s 376) v t LD2 OB2, E))) rfl trivial ?_
  refine z_Ev_call0 (m' := m_X5_putBack) (as := [aR 0 32]) (r := []) (m_putBack C Z2 (cpN a s 376) v t LD2 OB2 E) rfl rfl ?_
  rw [hB2]
  refine z_Ev_blk 5 (c' := (33, [some (aR 0 32), some (aI d1), some (aI (1 - s 37)), some (aI d2)], [aI ((d1 - d2) + (100 : Int32))], (C, dm s (cpN a s 376) v t LD2 OB2, E))) rfl trivial ?_
  exact z_Ev_iretE rfl rfl (by rfl) (by rfl)
theorem n_fewer {xs : Nat → Int32} {L : Nat} (H : Nat) (C : Nat → Nat → Nat → Int32) (s v t : Nat → Int32) (E : Nat → Int64) (x : Int32) (hV : Vs s H) : KM xs L C s v t E x m_X5_fewerIfShed [aR 0 32] (aI (ifsV s H)) := by
  intro a ld ob _
  have hle := hV.2.1.2
  have hV2 := Vs_shed hV
  obtain ⟨LD1, OB1, o1, hE1⟩ := n_toEnd (xs := xs) (L := L) C s (cpN a s 376) v t ld ob E hV
  obtain ⟨LD2, OB2, o2, hE2⟩ := n_toEnd (xs := xs) (L := L) C (upd s 37 (1 - s 37)) (cpN a s 376) v t LD1 OB1 E hV2
  refine ⟨cpN a s 376, LD2, OB2, fun k hk => (o2 k hk).trans (o1 k hk), ?_⟩
  have K := m_fewer0 (xs := xs) (L := L) _ _ _ LD1 OB1 _ LD2 OB2 C s a v t ld ob E hE1 (cp_back (fun j hj => goM_hi _ hV (by omega) hj)) hE2 (cp_back (fun j hj => (goM_hi _ hV2 (by omega) hj).trans (upd_ne (by omega))))
  rw [show upd s 37 (1 - s 37) 38 = s 38 from upd_ne (by decide)] at K
  unfold ifsV
  rw [show goM (48 - H) s 38 - goM (48 - H) (upd s 37 (1 - s 37)) 38 + 100 = goM (48 - H) s 38 - s 38 - (goM (48 - H) (upd s 37 (1 - s 37)) 38 - s 38) + 100 from by grind]
  exact K
theorem mb_skip_0 {xs : Nat → Int32} {L : Nat} {o : z_Rs} {M' : Mem} {kk : Nat} (few found least : Int32) (C : Nat → Nat → Nat → Int32) (s a v t ld ob : Nat → Int32) (E : Nat → Int64) (hp : ¬ s 16 = 0) (K : z_Ev xs L m_X5_startBest (20, [some (aR 0 32), some (aI few), some (aI found), some (aI least), some (aI (1 : Int32)), none, none, none, none], [], (C, dm s a v t ld ob, E)) o M' kk) : z_Ev xs L m_X5_startBest (20, [some (aR 0 32), some (aI few), some (aI found), some (aI least), some (aI (0 : Int32)), none, none, none, none], [], (C, dm s a v t ld ob, E)) o M' kk := by
  refine z_Ev_blk 3 (c' := ((if (4 : Int32) ≤ (0 : Int32) then 135 else 26), [some (aR 0 32), some (aI few), some (aI found), some (aI least), some (aI (0 : Int32)), none, none, none, none], [], (C, dm s a v t ld ob, E))) rfl trivial ?_
  refine z_Ev_else (by decide) ?_
  refine z_Ev_blk 7 (c' := ((if (s 16) = 0 then 39 else 129), [some (aR 0 32), some (aI few), some (aI found), some (aI least), some (aI (0 : Int32)), none, none, none, none], [], (C, dm s a v t ld ob, E))) rfl ⟨rfl, trivial⟩ ?_
  refine z_Ev_else (hp) ?_
  refine z_Ev_blk 2 (c' := (20, [some (aR 0 32), some (aI few), some (aI found), some (aI least), some (aI (1 : Int32)), none, none, none, none], [], (C, dm s a v t ld ob, E))) rfl trivial ?_
  refine z_Ev_fgt [true, true, true, true, true, false, false, false, false] ?_
  exact z_Ev_eq (c := (20, [some (aR 0 32), some (aI few), some (aI found), some (aI least), some (aI (1 : Int32)), none, none, none, none], [], (C, dm s a v t ld ob, E))) (c' := (20, [some (aR 0 32), some (aI few), some (aI found), some (aI least), some (aI (1 : Int32)), none, none, none, none], [], (C, dm s a v t ld ob, E))) (by first | rfl | simp [*]) K
theorem mb_do_0 {xs : Nat → Int32} {L : Nat} {o : z_Rs} {M' : Mem} {kk : Nat} (few found least d : Int32) (Z LD OB : Nat → Int32) (C : Nat → Nat → Nat → Int32) (s a v t ld ob : Nat → Int32) (E : Nat → Int64) (hp : s 16 = 0) (hE : z_Mt xs L m_X5_darkToTheEnd [aR 0 32] (C, dm (bgF s 0) a v t ld ob, E) (.inl (some (aI d))) (C, dm Z a v t LD OB, E) 0) (hB : cpN Z a 376 = s) (K : z_Ev xs L m_X5_startBest (20, [some (aR 0 32), some (aI (if d < few ∨ (¬ found = -1 ∧ d = few ∧ fulF Z < least) then d else few)), some (aI (if d < few ∨ (¬ found = -1 ∧ d = few ∧ fulF Z < least) then 0 else found)), some (aI (if d < few ∨ (¬ found = -1 ∧ d = few ∧ fulF Z < least) then fulF Z else least)), some (aI (1 : Int32)), none, none, none, none], [], (C, dm s a v t LD OB, E)) o M' kk) : z_Ev xs L m_X5_startBest (20, [some (aR 0 32), some (aI few), some (aI found), some (aI least), some (aI (0 : Int32)), none, none, none, none], [], (C, dm s a v t ld ob, E)) o M' kk := by
  refine z_Ev_blk 3 (c' := ((if (4 : Int32) ≤ (0 : Int32) then 135 else 26), [some (aR 0 32), some (aI few), some (aI found), some (aI least), some (aI (0 : Int32)), none, none, none, none], [], (C, dm s a v t ld ob, E))) rfl trivial ?_
  refine z_Ev_else (by decide) ?_
  refine z_Ev_blk 7 (c' := ((if (s 16) = 0 then 39 else 129), [some (aR 0 32), some (aI few), some (aI found), some (aI least), some (aI (0 : Int32)), none, none, none, none], [], (C, dm s a v t ld ob, E))) rfl ⟨rfl, trivial⟩ ?_
  refine z_Ev_if (hp) ?_
  refine z_Ev_blk 2 (c' := (42, [some (aR 0 32), some (aI few), some (aI found), some (aI least), some (aI (0 : Int32)), none, none, none, none], [aI (0 : Int32), aR 0 32], (C, dm s a v t ld ob, E))) rfl trivial ?_
  refine z_Ev_call0 (m' := m_X5_starts) (as := [aR 0 32, aI (0 : Int32)]) (r := []) (m_starts_0 C s a v t ld ob E) rfl rfl ?_
  refine z_Ev_blk 2 (c' := (48, [some (aR 0 32), some (aI few), some (aI found), some (aI least), some (aI (0 : Int32)), some (aI (s 12)), none, none, none], [aR 0 32], (C, dm (bgF s 0) a v t ld ob, E))) rfl trivial ?_
  refine z_Ev_call0 (m' := m_X5_darkToTheEnd) (as := [aR 0 32]) (r := []) (hE) rfl rfl ?_
  refine z_Ev_blk 2 (c' := (54, [some (aR 0 32), some (aI few), some (aI found), some (aI least), some (aI (0 : Int32)), some (aI (s 12)), some (aI d), none, none], [aR 0 32], (C, dm Z a v t LD OB, E))) rfl trivial ?_
  refine z_Ev_call0 (m' := m_X5_allFuel) (as := [aR 0 32]) (r := []) (m_allFuel C Z a v t LD OB E) rfl rfl ?_
  refine z_Ev_blk 2 (c' := (60, [some (aR 0 32), some (aI few), some (aI found), some (aI least), some (aI (0 : Int32)), some (aI (s 12)), some (aI d), some (aI (fulF Z)), none], [aR 0 32], (C, dm Z a v t LD OB, E))) rfl trivial ?_
  refine z_Ev_call0 (m' := m_X5_putBack) (as := [aR 0 32]) (r := []) (m_putBack C Z a v t LD OB E) rfl rfl ?_
  rw [hB]
  refine z_Ev_blk 3 (c' := ((if d < few then 86 else 69), [some (aR 0 32), some (aI few), some (aI found), some (aI least), some (aI (0 : Int32)), some (aI (s 12)), some (aI d), some (aI (fulF Z)), none], [], (C, dm s a v t LD OB, E))) rfl trivial ?_
  refine z_Ev_ite (fun h1 => ?_) (fun h1 => ?_)
  · skip
    refine z_Ev_blk 5 (c' := ((if (1 : Int32) = 0 then 103 else 98), [some (aR 0 32), some (aI few), some (aI found), some (aI least), some (aI (0 : Int32)), some (aI (s 12)), some (aI d), some (aI (fulF Z)), some (aI (1 : Int32))], [], (C, dm s a v t LD OB, E))) rfl trivial ?_
    refine z_Ev_else (by decide) ?_
    refine z_Ev_blk 5 (c' := ((if (1 : Int32) = 0 then 115 else 110), [some (aR 0 32), some (aI few), some (aI (0 : Int32)), some (aI least), some (aI (0 : Int32)), some (aI (s 12)), some (aI d), some (aI (fulF Z)), some (aI (1 : Int32))], [], (C, dm s a v t LD OB, E))) rfl trivial ?_
    refine z_Ev_else (by decide) ?_
    refine z_Ev_blk 5 (c' := ((if (1 : Int32) = 0 then 127 else 122), [some (aR 0 32), some (aI few), some (aI (0 : Int32)), some (aI (fulF Z)), some (aI (0 : Int32)), some (aI (s 12)), some (aI d), some (aI (fulF Z)), some (aI (1 : Int32))], [], (C, dm s a v t LD OB, E))) rfl trivial ?_
    refine z_Ev_else (by decide) ?_
    refine z_Ev_blk 5 (c' := (20, [some (aR 0 32), some (aI d), some (aI (0 : Int32)), some (aI (fulF Z)), some (aI (1 : Int32)), some (aI (s 12)), some (aI d), some (aI (fulF Z)), some (aI (1 : Int32))], [], (C, dm s a v t LD OB, E))) rfl trivial ?_
    refine z_Ev_fgt [true, true, true, true, true, false, false, false, false] ?_
    exact z_Ev_eq (c := (20, [some (aR 0 32), some (aI d), some (aI (0 : Int32)), some (aI (fulF Z)), some (aI (1 : Int32)), none, none, none, none], [], (C, dm s a v t LD OB, E))) (c' := (20, [some (aR 0 32), some (aI (if d < few ∨ (¬ found = -1 ∧ d = few ∧ fulF Z < least) then d else few)), some (aI (if d < few ∨ (¬ found = -1 ∧ d = few ∧ fulF Z < least) then 0 else found)), some (aI (if d < few ∨ (¬ found = -1 ∧ d = few ∧ fulF Z < least) then fulF Z else least)), some (aI (1 : Int32)), none, none, none, none], [], (C, dm s a v t LD OB, E))) (by (try simp only [← Int32.not_le] at *); first | (simp [*]; done) | (exfalso; simp_all; done)) K
  · skip
    refine z_Ev_blk 3 (c' := ((if found = (-1 : Int32) then 90 else 74), [some (aR 0 32), some (aI few), some (aI found), some (aI least), some (aI (0 : Int32)), some (aI (s 12)), some (aI d), some (aI (fulF Z)), none], [], (C, dm s a v t LD OB, E))) rfl trivial ?_
    refine z_Ev_ite (fun h2 => ?_) (fun h2 => ?_)
    · skip
      refine z_Ev_blk 4 (c' := ((if (0 : Int32) = 0 then 103 else 98), [some (aR 0 32), some (aI few), some (aI found), some (aI least), some (aI (0 : Int32)), some (aI (s 12)), some (aI d), some (aI (fulF Z)), some (aI (0 : Int32))], [], (C, dm s a v t LD OB, E))) rfl trivial ?_
      refine z_Ev_if (by decide) ?_
      refine z_Ev_blk 4 (c' := ((if (0 : Int32) = 0 then 115 else 110), [some (aR 0 32), some (aI few), some (aI found), some (aI least), some (aI (0 : Int32)), some (aI (s 12)), some (aI d), some (aI (fulF Z)), some (aI (0 : Int32))], [], (C, dm s a v t LD OB, E))) rfl trivial ?_
      refine z_Ev_if (by decide) ?_
      refine z_Ev_blk 4 (c' := ((if (0 : Int32) = 0 then 127 else 122), [some (aR 0 32), some (aI few), some (aI found), some (aI least), some (aI (0 : Int32)), some (aI (s 12)), some (aI d), some (aI (fulF Z)), some (aI (0 : Int32))], [], (C, dm s a v t LD OB, E))) rfl trivial ?_
      refine z_Ev_if (by decide) ?_
      refine z_Ev_blk 4 (c' := (20, [some (aR 0 32), some (aI few), some (aI found), some (aI least), some (aI (1 : Int32)), some (aI (s 12)), some (aI d), some (aI (fulF Z)), some (aI (0 : Int32))], [], (C, dm s a v t LD OB, E))) rfl trivial ?_
      refine z_Ev_fgt [true, true, true, true, true, false, false, false, false] ?_
      exact z_Ev_eq (c := (20, [some (aR 0 32), some (aI few), some (aI found), some (aI least), some (aI (1 : Int32)), none, none, none, none], [], (C, dm s a v t LD OB, E))) (c' := (20, [some (aR 0 32), some (aI (if d < few ∨ (¬ found = -1 ∧ d = few ∧ fulF Z < least) then d else few)), some (aI (if d < few ∨ (¬ found = -1 ∧ d = few ∧ fulF Z < least) then 0 else found)), some (aI (if d < few ∨ (¬ found = -1 ∧ d = few ∧ fulF Z < least) then fulF Z else least)), some (aI (1 : Int32)), none, none, none, none], [], (C, dm s a v t LD OB, E))) (by (try simp only [← Int32.not_le] at *); first | (simp [*]; done) | (exfalso; simp_all; done)) K
    · skip
      refine z_Ev_blk 3 (c' := ((if d = few then 80 else 90), [some (aR 0 32), some (aI few), some (aI found), some (aI least), some (aI (0 : Int32)), some (aI (s 12)), some (aI d), some (aI (fulF Z)), none], [], (C, dm s a v t LD OB, E))) rfl trivial ?_
      refine z_Ev_ite (fun h3 => ?_) (fun h3 => ?_)
      · skip
        refine z_Ev_blk 3 (c' := ((if least ≤ (fulF Z) then 90 else 86), [some (aR 0 32), some (aI few), some (aI found), some (aI least), some (aI (0 : Int32)), some (aI (s 12)), some (aI d), some (aI (fulF Z)), none], [], (C, dm s a v t LD OB, E))) rfl trivial ?_
        refine z_Ev_ite (fun h4 => ?_) (fun h4 => ?_)
        · skip
          refine z_Ev_blk 4 (c' := ((if (0 : Int32) = 0 then 103 else 98), [some (aR 0 32), some (aI few), some (aI found), some (aI least), some (aI (0 : Int32)), some (aI (s 12)), some (aI d), some (aI (fulF Z)), some (aI (0 : Int32))], [], (C, dm s a v t LD OB, E))) rfl trivial ?_
          refine z_Ev_if (by decide) ?_
          refine z_Ev_blk 4 (c' := ((if (0 : Int32) = 0 then 115 else 110), [some (aR 0 32), some (aI few), some (aI found), some (aI least), some (aI (0 : Int32)), some (aI (s 12)), some (aI d), some (aI (fulF Z)), some (aI (0 : Int32))], [], (C, dm s a v t LD OB, E))) rfl trivial ?_
          refine z_Ev_if (by decide) ?_
          refine z_Ev_blk 4 (c' := ((if (0 : Int32) = 0 then 127 else 122), [some (aR 0 32), some (aI few), some (aI found), some (aI least), some (aI (0 : Int32)), some (aI (s 12)), some (aI d), some (aI (fulF Z)), some (aI (0 : Int32))], [], (C, dm s a v t LD OB, E))) rfl trivial ?_
          refine z_Ev_if (by decide) ?_
          refine z_Ev_blk 4 (c' := (20, [some (aR 0 32), some (aI few), some (aI found), some (aI least), some (aI (1 : Int32)), some (aI (s 12)), some (aI d), some (aI (fulF Z)), some (aI (0 : Int32))], [], (C, dm s a v t LD OB, E))) rfl trivial ?_
          refine z_Ev_fgt [true, true, true, true, true, false, false, false, false] ?_
          exact z_Ev_eq (c := (20, [some (aR 0 32), some (aI few), some (aI found), some (aI least), some (aI (1 : Int32)), none, none, none, none], [], (C, dm s a v t LD OB, E))) (c' := (20, [some (aR 0 32), some (aI (if d < few ∨ (¬ found = -1 ∧ d = few ∧ fulF Z < least) then d else few)), some (aI (if d < few ∨ (¬ found = -1 ∧ d = few ∧ fulF Z < least) then 0 else found)), some (aI (if d < few ∨ (¬ found = -1 ∧ d = few ∧ fulF Z < least) then fulF Z else least)), some (aI (1 : Int32)), none, none, none, none], [], (C, dm s a v t LD OB, E))) (by (try simp only [← Int32.not_le] at *); first | (simp [*]; done) | (exfalso; simp_all; done)) K
        · skip
          refine z_Ev_blk 5 (c' := ((if (1 : Int32) = 0 then 103 else 98), [some (aR 0 32), some (aI few), some (aI found), some (aI least), some (aI (0 : Int32)), some (aI (s 12)), some (aI d), some (aI (fulF Z)), some (aI (1 : Int32))], [], (C, dm s a v t LD OB, E))) rfl trivial ?_
          refine z_Ev_else (by decide) ?_
          refine z_Ev_blk 5 (c' := ((if (1 : Int32) = 0 then 115 else 110), [some (aR 0 32), some (aI few), some (aI (0 : Int32)), some (aI least), some (aI (0 : Int32)), some (aI (s 12)), some (aI d), some (aI (fulF Z)), some (aI (1 : Int32))], [], (C, dm s a v t LD OB, E))) rfl trivial ?_
          refine z_Ev_else (by decide) ?_
          refine z_Ev_blk 5 (c' := ((if (1 : Int32) = 0 then 127 else 122), [some (aR 0 32), some (aI few), some (aI (0 : Int32)), some (aI (fulF Z)), some (aI (0 : Int32)), some (aI (s 12)), some (aI d), some (aI (fulF Z)), some (aI (1 : Int32))], [], (C, dm s a v t LD OB, E))) rfl trivial ?_
          refine z_Ev_else (by decide) ?_
          refine z_Ev_blk 5 (c' := (20, [some (aR 0 32), some (aI d), some (aI (0 : Int32)), some (aI (fulF Z)), some (aI (1 : Int32)), some (aI (s 12)), some (aI d), some (aI (fulF Z)), some (aI (1 : Int32))], [], (C, dm s a v t LD OB, E))) rfl trivial ?_
          refine z_Ev_fgt [true, true, true, true, true, false, false, false, false] ?_
          exact z_Ev_eq (c := (20, [some (aR 0 32), some (aI d), some (aI (0 : Int32)), some (aI (fulF Z)), some (aI (1 : Int32)), none, none, none, none], [], (C, dm s a v t LD OB, E))) (c' := (20, [some (aR 0 32), some (aI (if d < few ∨ (¬ found = -1 ∧ d = few ∧ fulF Z < least) then d else few)), some (aI (if d < few ∨ (¬ found = -1 ∧ d = few ∧ fulF Z < least) then 0 else found)), some (aI (if d < few ∨ (¬ found = -1 ∧ d = few ∧ fulF Z < least) then fulF Z else least)), some (aI (1 : Int32)), none, none, none, none], [], (C, dm s a v t LD OB, E))) (by (try simp only [← Int32.not_le] at *); first | (simp [*]; done) | (exfalso; simp_all; done)) K
      · skip
        refine z_Ev_blk 4 (c' := ((if (0 : Int32) = 0 then 103 else 98), [some (aR 0 32), some (aI few), some (aI found), some (aI least), some (aI (0 : Int32)), some (aI (s 12)), some (aI d), some (aI (fulF Z)), some (aI (0 : Int32))], [], (C, dm s a v t LD OB, E))) rfl trivial ?_
        refine z_Ev_if (by decide) ?_
        refine z_Ev_blk 4 (c' := ((if (0 : Int32) = 0 then 115 else 110), [some (aR 0 32), some (aI few), some (aI found), some (aI least), some (aI (0 : Int32)), some (aI (s 12)), some (aI d), some (aI (fulF Z)), some (aI (0 : Int32))], [], (C, dm s a v t LD OB, E))) rfl trivial ?_
        refine z_Ev_if (by decide) ?_
        refine z_Ev_blk 4 (c' := ((if (0 : Int32) = 0 then 127 else 122), [some (aR 0 32), some (aI few), some (aI found), some (aI least), some (aI (0 : Int32)), some (aI (s 12)), some (aI d), some (aI (fulF Z)), some (aI (0 : Int32))], [], (C, dm s a v t LD OB, E))) rfl trivial ?_
        refine z_Ev_if (by decide) ?_
        refine z_Ev_blk 4 (c' := (20, [some (aR 0 32), some (aI few), some (aI found), some (aI least), some (aI (1 : Int32)), some (aI (s 12)), some (aI d), some (aI (fulF Z)), some (aI (0 : Int32))], [], (C, dm s a v t LD OB, E))) rfl trivial ?_
        refine z_Ev_fgt [true, true, true, true, true, false, false, false, false] ?_
        exact z_Ev_eq (c := (20, [some (aR 0 32), some (aI few), some (aI found), some (aI least), some (aI (1 : Int32)), none, none, none, none], [], (C, dm s a v t LD OB, E))) (c' := (20, [some (aR 0 32), some (aI (if d < few ∨ (¬ found = -1 ∧ d = few ∧ fulF Z < least) then d else few)), some (aI (if d < few ∨ (¬ found = -1 ∧ d = few ∧ fulF Z < least) then 0 else found)), some (aI (if d < few ∨ (¬ found = -1 ∧ d = few ∧ fulF Z < least) then fulF Z else least)), some (aI (1 : Int32)), none, none, none, none], [], (C, dm s a v t LD OB, E))) (by (try simp only [← Int32.not_le] at *); first | (simp [*]; done) | (exfalso; simp_all; done)) K
theorem mb_skip_1 {xs : Nat → Int32} {L : Nat} {o : z_Rs} {M' : Mem} {kk : Nat} (few found least : Int32) (C : Nat → Nat → Nat → Int32) (s a v t ld ob : Nat → Int32) (E : Nat → Int64) (hp : ¬ s 17 = 0) (K : z_Ev xs L m_X5_startBest (20, [some (aR 0 32), some (aI few), some (aI found), some (aI least), some (aI (2 : Int32)), none, none, none, none], [], (C, dm s a v t ld ob, E)) o M' kk) : z_Ev xs L m_X5_startBest (20, [some (aR 0 32), some (aI few), some (aI found), some (aI least), some (aI (1 : Int32)), none, none, none, none], [], (C, dm s a v t ld ob, E)) o M' kk := by
  refine z_Ev_blk 3 (c' := ((if (4 : Int32) ≤ (1 : Int32) then 135 else 26), [some (aR 0 32), some (aI few), some (aI found), some (aI least), some (aI (1 : Int32)), none, none, none, none], [], (C, dm s a v t ld ob, E))) rfl trivial ?_
  refine z_Ev_else (by decide) ?_
  refine z_Ev_blk 7 (c' := ((if (s 17) = 0 then 39 else 129), [some (aR 0 32), some (aI few), some (aI found), some (aI least), some (aI (1 : Int32)), none, none, none, none], [], (C, dm s a v t ld ob, E))) rfl ⟨rfl, trivial⟩ ?_
  refine z_Ev_else (hp) ?_
  refine z_Ev_blk 2 (c' := (20, [some (aR 0 32), some (aI few), some (aI found), some (aI least), some (aI (2 : Int32)), none, none, none, none], [], (C, dm s a v t ld ob, E))) rfl trivial ?_
  refine z_Ev_fgt [true, true, true, true, true, false, false, false, false] ?_
  exact z_Ev_eq (c := (20, [some (aR 0 32), some (aI few), some (aI found), some (aI least), some (aI (2 : Int32)), none, none, none, none], [], (C, dm s a v t ld ob, E))) (c' := (20, [some (aR 0 32), some (aI few), some (aI found), some (aI least), some (aI (2 : Int32)), none, none, none, none], [], (C, dm s a v t ld ob, E))) (by first | rfl | simp [*]) K
theorem mb_do_1 {xs : Nat → Int32} {L : Nat} {o : z_Rs} {M' : Mem} {kk : Nat} (few found least d : Int32) (Z LD OB : Nat → Int32) (C : Nat → Nat → Nat → Int32) (s a v t ld ob : Nat → Int32) (E : Nat → Int64) (hp : s 17 = 0) (hE : z_Mt xs L m_X5_darkToTheEnd [aR 0 32] (C, dm (bgF s 1) a v t ld ob, E) (.inl (some (aI d))) (C, dm Z a v t LD OB, E) 0) (hB : cpN Z a 376 = s) (K : z_Ev xs L m_X5_startBest (20, [some (aR 0 32), some (aI (if d < few ∨ (¬ found = -1 ∧ d = few ∧ fulF Z < least) then d else few)), some (aI (if d < few ∨ (¬ found = -1 ∧ d = few ∧ fulF Z < least) then 1 else found)), some (aI (if d < few ∨ (¬ found = -1 ∧ d = few ∧ fulF Z < least) then fulF Z else least)), some (aI (2 : Int32)), none, none, none, none], [], (C, dm s a v t LD OB, E)) o M' kk) : z_Ev xs L m_X5_startBest (20, [some (aR 0 32), some (aI few), some (aI found), some (aI least), some (aI (1 : Int32)), none, none, none, none], [], (C, dm s a v t ld ob, E)) o M' kk := by
  refine z_Ev_blk 3 (c' := ((if (4 : Int32) ≤ (1 : Int32) then 135 else 26), [some (aR 0 32), some (aI few), some (aI found), some (aI least), some (aI (1 : Int32)), none, none, none, none], [], (C, dm s a v t ld ob, E))) rfl trivial ?_
  refine z_Ev_else (by decide) ?_
  refine z_Ev_blk 7 (c' := ((if (s 17) = 0 then 39 else 129), [some (aR 0 32), some (aI few), some (aI found), some (aI least), some (aI (1 : Int32)), none, none, none, none], [], (C, dm s a v t ld ob, E))) rfl ⟨rfl, trivial⟩ ?_
  refine z_Ev_if (hp) ?_
  refine z_Ev_blk 2 (c' := (42, [some (aR 0 32), some (aI few), some (aI found), some (aI least), some (aI (1 : Int32)), none, none, none, none], [aI (1 : Int32), aR 0 32], (C, dm s a v t ld ob, E))) rfl trivial ?_
  refine z_Ev_call0 (m' := m_X5_starts) (as := [aR 0 32, aI (1 : Int32)]) (r := []) (m_starts_1 C s a v t ld ob E) rfl rfl ?_
  refine z_Ev_blk 2 (c' := (48, [some (aR 0 32), some (aI few), some (aI found), some (aI least), some (aI (1 : Int32)), some (aI (s 13)), none, none, none], [aR 0 32], (C, dm (bgF s 1) a v t ld ob, E))) rfl trivial ?_
  refine z_Ev_call0 (m' := m_X5_darkToTheEnd) (as := [aR 0 32]) (r := []) (hE) rfl rfl ?_
  refine z_Ev_blk 2 (c' := (54, [some (aR 0 32), some (aI few), some (aI found), some (aI least), some (aI (1 : Int32)), some (aI (s 13)), some (aI d), none, none], [aR 0 32], (C, dm Z a v t LD OB, E))) rfl trivial ?_
  refine z_Ev_call0 (m' := m_X5_allFuel) (as := [aR 0 32]) (r := []) (m_allFuel C Z a v t LD OB E) rfl rfl ?_
  refine z_Ev_blk 2 (c' := (60, [some (aR 0 32), some (aI few), some (aI found), some (aI least), some (aI (1 : Int32)), some (aI (s 13)), some (aI d), some (aI (fulF Z)), none], [aR 0 32], (C, dm Z a v t LD OB, E))) rfl trivial ?_
  refine z_Ev_call0 (m' := m_X5_putBack) (as := [aR 0 32]) (r := []) (m_putBack C Z a v t LD OB E) rfl rfl ?_
  rw [hB]
  refine z_Ev_blk 3 (c' := ((if d < few then 86 else 69), [some (aR 0 32), some (aI few), some (aI found), some (aI least), some (aI (1 : Int32)), some (aI (s 13)), some (aI d), some (aI (fulF Z)), none], [], (C, dm s a v t LD OB, E))) rfl trivial ?_
  refine z_Ev_ite (fun h1 => ?_) (fun h1 => ?_)
  · skip
    refine z_Ev_blk 5 (c' := ((if (1 : Int32) = 0 then 103 else 98), [some (aR 0 32), some (aI few), some (aI found), some (aI least), some (aI (1 : Int32)), some (aI (s 13)), some (aI d), some (aI (fulF Z)), some (aI (1 : Int32))], [], (C, dm s a v t LD OB, E))) rfl trivial ?_
    refine z_Ev_else (by decide) ?_
    refine z_Ev_blk 5 (c' := ((if (1 : Int32) = 0 then 115 else 110), [some (aR 0 32), some (aI few), some (aI (1 : Int32)), some (aI least), some (aI (1 : Int32)), some (aI (s 13)), some (aI d), some (aI (fulF Z)), some (aI (1 : Int32))], [], (C, dm s a v t LD OB, E))) rfl trivial ?_
    refine z_Ev_else (by decide) ?_
    refine z_Ev_blk 5 (c' := ((if (1 : Int32) = 0 then 127 else 122), [some (aR 0 32), some (aI few), some (aI (1 : Int32)), some (aI (fulF Z)), some (aI (1 : Int32)), some (aI (s 13)), some (aI d), some (aI (fulF Z)), some (aI (1 : Int32))], [], (C, dm s a v t LD OB, E))) rfl trivial ?_
    refine z_Ev_else (by decide) ?_
    refine z_Ev_blk 5 (c' := (20, [some (aR 0 32), some (aI d), some (aI (1 : Int32)), some (aI (fulF Z)), some (aI (2 : Int32)), some (aI (s 13)), some (aI d), some (aI (fulF Z)), some (aI (1 : Int32))], [], (C, dm s a v t LD OB, E))) rfl trivial ?_
    refine z_Ev_fgt [true, true, true, true, true, false, false, false, false] ?_
    exact z_Ev_eq (c := (20, [some (aR 0 32), some (aI d), some (aI (1 : Int32)), some (aI (fulF Z)), some (aI (2 : Int32)), none, none, none, none], [], (C, dm s a v t LD OB, E))) (c' := (20, [some (aR 0 32), some (aI (if d < few ∨ (¬ found = -1 ∧ d = few ∧ fulF Z < least) then d else few)), some (aI (if d < few ∨ (¬ found = -1 ∧ d = few ∧ fulF Z < least) then 1 else found)), some (aI (if d < few ∨ (¬ found = -1 ∧ d = few ∧ fulF Z < least) then fulF Z else least)), some (aI (2 : Int32)), none, none, none, none], [], (C, dm s a v t LD OB, E))) (by (try simp only [← Int32.not_le] at *); first | (simp [*]; done) | (exfalso; simp_all; done)) K
  · skip
    refine z_Ev_blk 3 (c' := ((if found = (-1 : Int32) then 90 else 74), [some (aR 0 32), some (aI few), some (aI found), some (aI least), some (aI (1 : Int32)), some (aI (s 13)), some (aI d), some (aI (fulF Z)), none], [], (C, dm s a v t LD OB, E))) rfl trivial ?_
    refine z_Ev_ite (fun h2 => ?_) (fun h2 => ?_)
    · skip
      refine z_Ev_blk 4 (c' := ((if (0 : Int32) = 0 then 103 else 98), [some (aR 0 32), some (aI few), some (aI found), some (aI least), some (aI (1 : Int32)), some (aI (s 13)), some (aI d), some (aI (fulF Z)), some (aI (0 : Int32))], [], (C, dm s a v t LD OB, E))) rfl trivial ?_
      refine z_Ev_if (by decide) ?_
      refine z_Ev_blk 4 (c' := ((if (0 : Int32) = 0 then 115 else 110), [some (aR 0 32), some (aI few), some (aI found), some (aI least), some (aI (1 : Int32)), some (aI (s 13)), some (aI d), some (aI (fulF Z)), some (aI (0 : Int32))], [], (C, dm s a v t LD OB, E))) rfl trivial ?_
      refine z_Ev_if (by decide) ?_
      refine z_Ev_blk 4 (c' := ((if (0 : Int32) = 0 then 127 else 122), [some (aR 0 32), some (aI few), some (aI found), some (aI least), some (aI (1 : Int32)), some (aI (s 13)), some (aI d), some (aI (fulF Z)), some (aI (0 : Int32))], [], (C, dm s a v t LD OB, E))) rfl trivial ?_
      refine z_Ev_if (by decide) ?_
      refine z_Ev_blk 4 (c' := (20, [some (aR 0 32), some (aI few), some (aI found), some (aI least), some (aI (2 : Int32)), some (aI (s 13)), some (aI d), some (aI (fulF Z)), some (aI (0 : Int32))], [], (C, dm s a v t LD OB, E))) rfl trivial ?_
      refine z_Ev_fgt [true, true, true, true, true, false, false, false, false] ?_
      exact z_Ev_eq (c := (20, [some (aR 0 32), some (aI few), some (aI found), some (aI least), some (aI (2 : Int32)), none, none, none, none], [], (C, dm s a v t LD OB, E))) (c' := (20, [some (aR 0 32), some (aI (if d < few ∨ (¬ found = -1 ∧ d = few ∧ fulF Z < least) then d else few)), some (aI (if d < few ∨ (¬ found = -1 ∧ d = few ∧ fulF Z < least) then 1 else found)), some (aI (if d < few ∨ (¬ found = -1 ∧ d = few ∧ fulF Z < least) then fulF Z else least)), some (aI (2 : Int32)), none, none, none, none], [], (C, dm s a v t LD OB, E))) (by (try simp only [← Int32.not_le] at *); first | (simp [*]; done) | (exfalso; simp_all; done)) K
    · skip
      refine z_Ev_blk 3 (c' := ((if d = few then 80 else 90), [some (aR 0 32), some (aI few), some (aI found), some (aI least), some (aI (1 : Int32)), some (aI (s 13)), some (aI d), some (aI (fulF Z)), none], [], (C, dm s a v t LD OB, E))) rfl trivial ?_
      refine z_Ev_ite (fun h3 => ?_) (fun h3 => ?_)
      · skip
        refine z_Ev_blk 3 (c' := ((if least ≤ (fulF Z) then 90 else 86), [some (aR 0 32), some (aI few), some (aI found), some (aI least), some (aI (1 : Int32)), some (aI (s 13)), some (aI d), some (aI (fulF Z)), none], [], (C, dm s a v t LD OB, E))) rfl trivial ?_
        refine z_Ev_ite (fun h4 => ?_) (fun h4 => ?_)
        · skip
          refine z_Ev_blk 4 (c' := ((if (0 : Int32) = 0 then 103 else 98), [some (aR 0 32), some (aI few), some (aI found), some (aI least), some (aI (1 : Int32)), some (aI (s 13)), some (aI d), some (aI (fulF Z)), some (aI (0 : Int32))], [], (C, dm s a v t LD OB, E))) rfl trivial ?_
          refine z_Ev_if (by decide) ?_
          refine z_Ev_blk 4 (c' := ((if (0 : Int32) = 0 then 115 else 110), [some (aR 0 32), some (aI few), some (aI found), some (aI least), some (aI (1 : Int32)), some (aI (s 13)), some (aI d), some (aI (fulF Z)), some (aI (0 : Int32))], [], (C, dm s a v t LD OB, E))) rfl trivial ?_
          refine z_Ev_if (by decide) ?_
          refine z_Ev_blk 4 (c' := ((if (0 : Int32) = 0 then 127 else 122), [some (aR 0 32), some (aI few), some (aI found), some (aI least), some (aI (1 : Int32)), some (aI (s 13)), some (aI d), some (aI (fulF Z)), some (aI (0 : Int32))], [], (C, dm s a v t LD OB, E))) rfl trivial ?_
          refine z_Ev_if (by decide) ?_
          refine z_Ev_blk 4 (c' := (20, [some (aR 0 32), some (aI few), some (aI found), some (aI least), some (aI (2 : Int32)), some (aI (s 13)), some (aI d), some (aI (fulF Z)), some (aI (0 : Int32))], [], (C, dm s a v t LD OB, E))) rfl trivial ?_
          refine z_Ev_fgt [true, true, true, true, true, false, false, false, false] ?_
          exact z_Ev_eq (c := (20, [some (aR 0 32), some (aI few), some (aI found), some (aI least), some (aI (2 : Int32)), none, none, none, none], [], (C, dm s a v t LD OB, E))) (c' := (20, [some (aR 0 32), some (aI (if d < few ∨ (¬ found = -1 ∧ d = few ∧ fulF Z < least) then d else few)), some (aI (if d < few ∨ (¬ found = -1 ∧ d = few ∧ fulF Z < least) then 1 else found)), some (aI (if d < few ∨ (¬ found = -1 ∧ d = few ∧ fulF Z < least) then fulF Z else least)), some (aI (2 : Int32)), none, none, none, none], [], (C, dm s a v t LD OB, E))) (by (try simp only [← Int32.not_le] at *); first | (simp [*]; done) | (exfalso; simp_all; done)) K
        · skip
          refine z_Ev_blk 5 (c' := ((if (1 : Int32) = 0 then 103 else 98), [some (aR 0 32), some (aI few), some (aI found), some (aI least), some (aI (1 : Int32)), some (aI (s 13)), some (aI d), some (aI (fulF Z)), some (aI (1 : Int32))], [], (C, dm s a v t LD OB, E))) rfl trivial ?_
          refine z_Ev_else (by decide) ?_
          refine z_Ev_blk 5 (c' := ((if (1 : Int32) = 0 then 115 else 110), [some (aR 0 32), some (aI few), some (aI (1 : Int32)), some (aI least), some (aI (1 : Int32)), some (aI (s 13)), some (aI d), some (aI (fulF Z)), some (aI (1 : Int32))], [], (C, dm s a v t LD OB, E))) rfl trivial ?_
          refine z_Ev_else (by decide) ?_
          refine z_Ev_blk 5 (c' := ((if (1 : Int32) = 0 then 127 else 122), [some (aR 0 32), some (aI few), some (aI (1 : Int32)), some (aI (fulF Z)), some (aI (1 : Int32)), some (aI (s 13)), some (aI d), some (aI (fulF Z)), some (aI (1 : Int32))], [], (C, dm s a v t LD OB, E))) rfl trivial ?_
          refine z_Ev_else (by decide) ?_
          refine z_Ev_blk 5 (c' := (20, [some (aR 0 32), some (aI d), some (aI (1 : Int32)), some (aI (fulF Z)), some (aI (2 : Int32)), some (aI (s 13)), some (aI d), some (aI (fulF Z)), some (aI (1 : Int32))], [], (C, dm s a v t LD OB, E))) rfl trivial ?_
          refine z_Ev_fgt [true, true, true, true, true, false, false, false, false] ?_
          exact z_Ev_eq (c := (20, [some (aR 0 32), some (aI d), some (aI (1 : Int32)), some (aI (fulF Z)), some (aI (2 : Int32)), none, none, none, none], [], (C, dm s a v t LD OB, E))) (c' := (20, [some (aR 0 32), some (aI (if d < few ∨ (¬ found = -1 ∧ d = few ∧ fulF Z < least) then d else few)), some (aI (if d < few ∨ (¬ found = -1 ∧ d = few ∧ fulF Z < least) then 1 else found)), some (aI (if d < few ∨ (¬ found = -1 ∧ d = few ∧ fulF Z < least) then fulF Z else least)), some (aI (2 : Int32)), none, none, none, none], [], (C, dm s a v t LD OB, E))) (by (try simp only [← Int32.not_le] at *); first | (simp [*]; done) | (exfalso; simp_all; done)) K
      · skip
        refine z_Ev_blk 4 (c' := ((if (0 : Int32) = 0 then 103 else 98), [some (aR 0 32), some (aI few), some (aI found), some (aI least), some (aI (1 : Int32)), some (aI (s 13)), some (aI d), some (aI (fulF Z)), some (aI (0 : Int32))], [], (C, dm s a v t LD OB, E))) rfl trivial ?_
        refine z_Ev_if (by decide) ?_
        refine z_Ev_blk 4 (c' := ((if (0 : Int32) = 0 then 115 else 110), [some (aR 0 32), some (aI few), some (aI found), some (aI least), some (aI (1 : Int32)), some (aI (s 13)), some (aI d), some (aI (fulF Z)), some (aI (0 : Int32))], [], (C, dm s a v t LD OB, E))) rfl trivial ?_
        refine z_Ev_if (by decide) ?_
        refine z_Ev_blk 4 (c' := ((if (0 : Int32) = 0 then 127 else 122), [some (aR 0 32), some (aI few), some (aI found), some (aI least), some (aI (1 : Int32)), some (aI (s 13)), some (aI d), some (aI (fulF Z)), some (aI (0 : Int32))], [], (C, dm s a v t LD OB, E))) rfl trivial ?_
        refine z_Ev_if (by decide) ?_
        refine z_Ev_blk 4 (c' := (20, [some (aR 0 32), some (aI few), some (aI found), some (aI least), some (aI (2 : Int32)), some (aI (s 13)), some (aI d), some (aI (fulF Z)), some (aI (0 : Int32))], [], (C, dm s a v t LD OB, E))) rfl trivial ?_
        refine z_Ev_fgt [true, true, true, true, true, false, false, false, false] ?_
        exact z_Ev_eq (c := (20, [some (aR 0 32), some (aI few), some (aI found), some (aI least), some (aI (2 : Int32)), none, none, none, none], [], (C, dm s a v t LD OB, E))) (c' := (20, [some (aR 0 32), some (aI (if d < few ∨ (¬ found = -1 ∧ d = few ∧ fulF Z < least) then d else few)), some (aI (if d < few ∨ (¬ found = -1 ∧ d = few ∧ fulF Z < least) then 1 else found)), some (aI (if d < few ∨ (¬ found = -1 ∧ d = few ∧ fulF Z < least) then fulF Z else least)), some (aI (2 : Int32)), none, none, none, none], [], (C, dm s a v t LD OB, E))) (by (try simp only [← Int32.not_le] at *); first | (simp [*]; done) | (exfalso; simp_all; done)) K
theorem mb_skip_2 {xs : Nat → Int32} {L : Nat} {o : z_Rs} {M' : Mem} {kk : Nat} (few found least : Int32) (C : Nat → Nat → Nat → Int32) (s a v t ld ob : Nat → Int32) (E : Nat → Int64) (hp : ¬ s 18 = 0) (K : z_Ev xs L m_X5_startBest (20, [some (aR 0 32), some (aI few), some (aI found), some (aI least), some (aI (3 : Int32)), none, none, none, none], [], (C, dm s a v t ld ob, E)) o M' kk) : z_Ev xs L m_X5_startBest (20, [some (aR 0 32), some (aI few), some (aI found), some (aI least), some (aI (2 : Int32)), none, none, none, none], [], (C, dm s a v t ld ob, E)) o M' kk := by
  refine z_Ev_blk 3 (c' := ((if (4 : Int32) ≤ (2 : Int32) then 135 else 26), [some (aR 0 32), some (aI few), some (aI found), some (aI least), some (aI (2 : Int32)), none, none, none, none], [], (C, dm s a v t ld ob, E))) rfl trivial ?_
  refine z_Ev_else (by decide) ?_
  refine z_Ev_blk 7 (c' := ((if (s 18) = 0 then 39 else 129), [some (aR 0 32), some (aI few), some (aI found), some (aI least), some (aI (2 : Int32)), none, none, none, none], [], (C, dm s a v t ld ob, E))) rfl ⟨rfl, trivial⟩ ?_
  refine z_Ev_else (hp) ?_
  refine z_Ev_blk 2 (c' := (20, [some (aR 0 32), some (aI few), some (aI found), some (aI least), some (aI (3 : Int32)), none, none, none, none], [], (C, dm s a v t ld ob, E))) rfl trivial ?_
  refine z_Ev_fgt [true, true, true, true, true, false, false, false, false] ?_
  exact z_Ev_eq (c := (20, [some (aR 0 32), some (aI few), some (aI found), some (aI least), some (aI (3 : Int32)), none, none, none, none], [], (C, dm s a v t ld ob, E))) (c' := (20, [some (aR 0 32), some (aI few), some (aI found), some (aI least), some (aI (3 : Int32)), none, none, none, none], [], (C, dm s a v t ld ob, E))) (by first | rfl | simp [*]) K
theorem mb_do_2 {xs : Nat → Int32} {L : Nat} {o : z_Rs} {M' : Mem} {kk : Nat} (few found least d : Int32) (Z LD OB : Nat → Int32) (C : Nat → Nat → Nat → Int32) (s a v t ld ob : Nat → Int32) (E : Nat → Int64) (hp : s 18 = 0) (hE : z_Mt xs L m_X5_darkToTheEnd [aR 0 32] (C, dm (bgF s 2) a v t ld ob, E) (.inl (some (aI d))) (C, dm Z a v t LD OB, E) 0) (hB : cpN Z a 376 = s) (K : z_Ev xs L m_X5_startBest (20, [some (aR 0 32), some (aI (if d < few ∨ (¬ found = -1 ∧ d = few ∧ fulF Z < least) then d else few)), some (aI (if d < few ∨ (¬ found = -1 ∧ d = few ∧ fulF Z < least) then 2 else found)), some (aI (if d < few ∨ (¬ found = -1 ∧ d = few ∧ fulF Z < least) then fulF Z else least)), some (aI (3 : Int32)), none, none, none, none], [], (C, dm s a v t LD OB, E)) o M' kk) : z_Ev xs L m_X5_startBest (20, [some (aR 0 32), some (aI few), some (aI found), some (aI least), some (aI (2 : Int32)), none, none, none, none], [], (C, dm s a v t ld ob, E)) o M' kk := by
  refine z_Ev_blk 3 (c' := ((if (4 : Int32) ≤ (2 : Int32) then 135 else 26), [some (aR 0 32), some (aI few), some (aI found), some (aI least), some (aI (2 : Int32)), none, none, none, none], [], (C, dm s a v t ld ob, E))) rfl trivial ?_
  refine z_Ev_else (by decide) ?_
  refine z_Ev_blk 7 (c' := ((if (s 18) = 0 then 39 else 129), [some (aR 0 32), some (aI few), some (aI found), some (aI least), some (aI (2 : Int32)), none, none, none, none], [], (C, dm s a v t ld ob, E))) rfl ⟨rfl, trivial⟩ ?_
  refine z_Ev_if (hp) ?_
  refine z_Ev_blk 2 (c' := (42, [some (aR 0 32), some (aI few), some (aI found), some (aI least), some (aI (2 : Int32)), none, none, none, none], [aI (2 : Int32), aR 0 32], (C, dm s a v t ld ob, E))) rfl trivial ?_
  refine z_Ev_call0 (m' := m_X5_starts) (as := [aR 0 32, aI (2 : Int32)]) (r := []) (m_starts_2 C s a v t ld ob E) rfl rfl ?_
  refine z_Ev_blk 2 (c' := (48, [some (aR 0 32), some (aI few), some (aI found), some (aI least), some (aI (2 : Int32)), some (aI (s 14)), none, none, none], [aR 0 32], (C, dm (bgF s 2) a v t ld ob, E))) rfl trivial ?_
  refine z_Ev_call0 (m' := m_X5_darkToTheEnd) (as := [aR 0 32]) (r := []) (hE) rfl rfl ?_
  refine z_Ev_blk 2 (c' := (54, [some (aR 0 32), some (aI few), some (aI found), some (aI least), some (aI (2 : Int32)), some (aI (s 14)), some (aI d), none, none], [aR 0 32], (C, dm Z a v t LD OB, E))) rfl trivial ?_
  refine z_Ev_call0 (m' := m_X5_allFuel) (as := [aR 0 32]) (r := []) (m_allFuel C Z a v t LD OB E) rfl rfl ?_
  refine z_Ev_blk 2 (c' := (60, [some (aR 0 32), some (aI few), some (aI found), some (aI least), some (aI (2 : Int32)), some (aI (s 14)), some (aI d), some (aI (fulF Z)), none], [aR 0 32], (C, dm Z a v t LD OB, E))) rfl trivial ?_
  refine z_Ev_call0 (m' := m_X5_putBack) (as := [aR 0 32]) (r := []) (m_putBack C Z a v t LD OB E) rfl rfl ?_
  rw [hB]
  refine z_Ev_blk 3 (c' := ((if d < few then 86 else 69), [some (aR 0 32), some (aI few), some (aI found), some (aI least), some (aI (2 : Int32)), some (aI (s 14)), some (aI d), some (aI (fulF Z)), none], [], (C, dm s a v t LD OB, E))) rfl trivial ?_
  refine z_Ev_ite (fun h1 => ?_) (fun h1 => ?_)
  · skip
    refine z_Ev_blk 5 (c' := ((if (1 : Int32) = 0 then 103 else 98), [some (aR 0 32), some (aI few), some (aI found), some (aI least), some (aI (2 : Int32)), some (aI (s 14)), some (aI d), some (aI (fulF Z)), some (aI (1 : Int32))], [], (C, dm s a v t LD OB, E))) rfl trivial ?_
    refine z_Ev_else (by decide) ?_
    refine z_Ev_blk 5 (c' := ((if (1 : Int32) = 0 then 115 else 110), [some (aR 0 32), some (aI few), some (aI (2 : Int32)), some (aI least), some (aI (2 : Int32)), some (aI (s 14)), some (aI d), some (aI (fulF Z)), some (aI (1 : Int32))], [], (C, dm s a v t LD OB, E))) rfl trivial ?_
    refine z_Ev_else (by decide) ?_
    refine z_Ev_blk 5 (c' := ((if (1 : Int32) = 0 then 127 else 122), [some (aR 0 32), some (aI few), some (aI (2 : Int32)), some (aI (fulF Z)), some (aI (2 : Int32)), some (aI (s 14)), some (aI d), some (aI (fulF Z)), some (aI (1 : Int32))], [], (C, dm s a v t LD OB, E))) rfl trivial ?_
    refine z_Ev_else (by decide) ?_
    refine z_Ev_blk 5 (c' := (20, [some (aR 0 32), some (aI d), some (aI (2 : Int32)), some (aI (fulF Z)), some (aI (3 : Int32)), some (aI (s 14)), some (aI d), some (aI (fulF Z)), some (aI (1 : Int32))], [], (C, dm s a v t LD OB, E))) rfl trivial ?_
    refine z_Ev_fgt [true, true, true, true, true, false, false, false, false] ?_
    exact z_Ev_eq (c := (20, [some (aR 0 32), some (aI d), some (aI (2 : Int32)), some (aI (fulF Z)), some (aI (3 : Int32)), none, none, none, none], [], (C, dm s a v t LD OB, E))) (c' := (20, [some (aR 0 32), some (aI (if d < few ∨ (¬ found = -1 ∧ d = few ∧ fulF Z < least) then d else few)), some (aI (if d < few ∨ (¬ found = -1 ∧ d = few ∧ fulF Z < least) then 2 else found)), some (aI (if d < few ∨ (¬ found = -1 ∧ d = few ∧ fulF Z < least) then fulF Z else least)), some (aI (3 : Int32)), none, none, none, none], [], (C, dm s a v t LD OB, E))) (by (try simp only [← Int32.not_le] at *); first | (simp [*]; done) | (exfalso; simp_all; done)) K
  · skip
    refine z_Ev_blk 3 (c' := ((if found = (-1 : Int32) then 90 else 74), [some (aR 0 32), some (aI few), some (aI found), some (aI least), some (aI (2 : Int32)), some (aI (s 14)), some (aI d), some (aI (fulF Z)), none], [], (C, dm s a v t LD OB, E))) rfl trivial ?_
    refine z_Ev_ite (fun h2 => ?_) (fun h2 => ?_)
    · skip
      refine z_Ev_blk 4 (c' := ((if (0 : Int32) = 0 then 103 else 98), [some (aR 0 32), some (aI few), some (aI found), some (aI least), some (aI (2 : Int32)), some (aI (s 14)), some (aI d), some (aI (fulF Z)), some (aI (0 : Int32))], [], (C, dm s a v t LD OB, E))) rfl trivial ?_
      refine z_Ev_if (by decide) ?_
      refine z_Ev_blk 4 (c' := ((if (0 : Int32) = 0 then 115 else 110), [some (aR 0 32), some (aI few), some (aI found), some (aI least), some (aI (2 : Int32)), some (aI (s 14)), some (aI d), some (aI (fulF Z)), some (aI (0 : Int32))], [], (C, dm s a v t LD OB, E))) rfl trivial ?_
      refine z_Ev_if (by decide) ?_
      refine z_Ev_blk 4 (c' := ((if (0 : Int32) = 0 then 127 else 122), [some (aR 0 32), some (aI few), some (aI found), some (aI least), some (aI (2 : Int32)), some (aI (s 14)), some (aI d), some (aI (fulF Z)), some (aI (0 : Int32))], [], (C, dm s a v t LD OB, E))) rfl trivial ?_
      refine z_Ev_if (by decide) ?_
      refine z_Ev_blk 4 (c' := (20, [some (aR 0 32), some (aI few), some (aI found), some (aI least), some (aI (3 : Int32)), some (aI (s 14)), some (aI d), some (aI (fulF Z)), some (aI (0 : Int32))], [], (C, dm s a v t LD OB, E))) rfl trivial ?_
      refine z_Ev_fgt [true, true, true, true, true, false, false, false, false] ?_
      exact z_Ev_eq (c := (20, [some (aR 0 32), some (aI few), some (aI found), some (aI least), some (aI (3 : Int32)), none, none, none, none], [], (C, dm s a v t LD OB, E))) (c' := (20, [some (aR 0 32), some (aI (if d < few ∨ (¬ found = -1 ∧ d = few ∧ fulF Z < least) then d else few)), some (aI (if d < few ∨ (¬ found = -1 ∧ d = few ∧ fulF Z < least) then 2 else found)), some (aI (if d < few ∨ (¬ found = -1 ∧ d = few ∧ fulF Z < least) then fulF Z else least)), some (aI (3 : Int32)), none, none, none, none], [], (C, dm s a v t LD OB, E))) (by (try simp only [← Int32.not_le] at *); first | (simp [*]; done) | (exfalso; simp_all; done)) K
    · skip
      refine z_Ev_blk 3 (c' := ((if d = few then 80 else 90), [some (aR 0 32), some (aI few), some (aI found), some (aI least), some (aI (2 : Int32)), some (aI (s 14)), some (aI d), some (aI (fulF Z)), none], [], (C, dm s a v t LD OB, E))) rfl trivial ?_
      refine z_Ev_ite (fun h3 => ?_) (fun h3 => ?_)
      · skip
        refine z_Ev_blk 3 (c' := ((if least ≤ (fulF Z) then 90 else 86), [some (aR 0 32), some (aI few), some (aI found), some (aI least), some (aI (2 : Int32)), some (aI (s 14)), some (aI d), some (aI (fulF Z)), none], [], (C, dm s a v t LD OB, E))) rfl trivial ?_
        refine z_Ev_ite (fun h4 => ?_) (fun h4 => ?_)
        · skip
          refine z_Ev_blk 4 (c' := ((if (0 : Int32) = 0 then 103 else 98), [some (aR 0 32), some (aI few), some (aI found), some (aI least), some (aI (2 : Int32)), some (aI (s 14)), some (aI d), some (aI (fulF Z)), some (aI (0 : Int32))], [], (C, dm s a v t LD OB, E))) rfl trivial ?_
          refine z_Ev_if (by decide) ?_
          refine z_Ev_blk 4 (c' := ((if (0 : Int32) = 0 then 115 else 110), [some (aR 0 32), some (aI few), some (aI found), some (aI least), some (aI (2 : Int32)), some (aI (s 14)), some (aI d), some (aI (fulF Z)), some (aI (0 : Int32))], [], (C, dm s a v t LD OB, E))) rfl trivial ?_
          refine z_Ev_if (by decide) ?_
          refine z_Ev_blk 4 (c' := ((if (0 : Int32) = 0 then 127 else 122), [some (aR 0 32), some (aI few), some (aI found), some (aI least), some (aI (2 : Int32)), some (aI (s 14)), some (aI d), some (aI (fulF Z)), some (aI (0 : Int32))], [], (C, dm s a v t LD OB, E))) rfl trivial ?_
          refine z_Ev_if (by decide) ?_
          refine z_Ev_blk 4 (c' := (20, [some (aR 0 32), some (aI few), some (aI found), some (aI least), some (aI (3 : Int32)), some (aI (s 14)), some (aI d), some (aI (fulF Z)), some (aI (0 : Int32))], [], (C, dm s a v t LD OB, E))) rfl trivial ?_
          refine z_Ev_fgt [true, true, true, true, true, false, false, false, false] ?_
          exact z_Ev_eq (c := (20, [some (aR 0 32), some (aI few), some (aI found), some (aI least), some (aI (3 : Int32)), none, none, none, none], [], (C, dm s a v t LD OB, E))) (c' := (20, [some (aR 0 32), some (aI (if d < few ∨ (¬ found = -1 ∧ d = few ∧ fulF Z < least) then d else few)), some (aI (if d < few ∨ (¬ found = -1 ∧ d = few ∧ fulF Z < least) then 2 else found)), some (aI (if d < few ∨ (¬ found = -1 ∧ d = few ∧ fulF Z < least) then fulF Z else least)), some (aI (3 : Int32)), none, none, none, none], [], (C, dm s a v t LD OB, E))) (by (try simp only [← Int32.not_le] at *); first | (simp [*]; done) | (exfalso; simp_all; done)) K
        · skip
          refine z_Ev_blk 5 (c' := ((if (1 : Int32) = 0 then 103 else 98), [some (aR 0 32), some (aI few), some (aI found), some (aI least), some (aI (2 : Int32)), some (aI (s 14)), some (aI d), some (aI (fulF Z)), some (aI (1 : Int32))], [], (C, dm s a v t LD OB, E))) rfl trivial ?_
          refine z_Ev_else (by decide) ?_
          refine z_Ev_blk 5 (c' := ((if (1 : Int32) = 0 then 115 else 110), [some (aR 0 32), some (aI few), some (aI (2 : Int32)), some (aI least), some (aI (2 : Int32)), some (aI (s 14)), some (aI d), some (aI (fulF Z)), some (aI (1 : Int32))], [], (C, dm s a v t LD OB, E))) rfl trivial ?_
          refine z_Ev_else (by decide) ?_
          refine z_Ev_blk 5 (c' := ((if (1 : Int32) = 0 then 127 else 122), [some (aR 0 32), some (aI few), some (aI (2 : Int32)), some (aI (fulF Z)), some (aI (2 : Int32)), some (aI (s 14)), some (aI d), some (aI (fulF Z)), some (aI (1 : Int32))], [], (C, dm s a v t LD OB, E))) rfl trivial ?_
          refine z_Ev_else (by decide) ?_
          refine z_Ev_blk 5 (c' := (20, [some (aR 0 32), some (aI d), some (aI (2 : Int32)), some (aI (fulF Z)), some (aI (3 : Int32)), some (aI (s 14)), some (aI d), some (aI (fulF Z)), some (aI (1 : Int32))], [], (C, dm s a v t LD OB, E))) rfl trivial ?_
          refine z_Ev_fgt [true, true, true, true, true, false, false, false, false] ?_
          exact z_Ev_eq (c := (20, [some (aR 0 32), some (aI d), some (aI (2 : Int32)), some (aI (fulF Z)), some (aI (3 : Int32)), none, none, none, none], [], (C, dm s a v t LD OB, E))) (c' := (20, [some (aR 0 32), some (aI (if d < few ∨ (¬ found = -1 ∧ d = few ∧ fulF Z < least) then d else few)), some (aI (if d < few ∨ (¬ found = -1 ∧ d = few ∧ fulF Z < least) then 2 else found)), some (aI (if d < few ∨ (¬ found = -1 ∧ d = few ∧ fulF Z < least) then fulF Z else least)), some (aI (3 : Int32)), none, none, none, none], [], (C, dm s a v t LD OB, E))) (by (try simp only [← Int32.not_le] at *); first | (simp [*]; done) | (exfalso; simp_all; done)) K
      · skip
        refine z_Ev_blk 4 (c' := ((if (0 : Int32) = 0 then 103 else 98), [some (aR 0 32), some (aI few), some (aI found), some (aI least), some (aI (2 : Int32)), some (aI (s 14)), some (aI d), some (aI (fulF Z)), some (aI (0 : Int32))], [], (C, dm s a v t LD OB, E))) rfl trivial ?_
        refine z_Ev_if (by decide) ?_
        refine z_Ev_blk 4 (c' := ((if (0 : Int32) = 0 then 115 else 110), [some (aR 0 32), some (aI few), some (aI found), some (aI least), some (aI (2 : Int32)), some (aI (s 14)), some (aI d), some (aI (fulF Z)), some (aI (0 : Int32))], [], (C, dm s a v t LD OB, E))) rfl trivial ?_
        refine z_Ev_if (by decide) ?_
        refine z_Ev_blk 4 (c' := ((if (0 : Int32) = 0 then 127 else 122), [some (aR 0 32), some (aI few), some (aI found), some (aI least), some (aI (2 : Int32)), some (aI (s 14)), some (aI d), some (aI (fulF Z)), some (aI (0 : Int32))], [], (C, dm s a v t LD OB, E))) rfl trivial ?_
        refine z_Ev_if (by decide) ?_
        refine z_Ev_blk 4 (c' := (20, [some (aR 0 32), some (aI few), some (aI found), some (aI least), some (aI (3 : Int32)), some (aI (s 14)), some (aI d), some (aI (fulF Z)), some (aI (0 : Int32))], [], (C, dm s a v t LD OB, E))) rfl trivial ?_
        refine z_Ev_fgt [true, true, true, true, true, false, false, false, false] ?_
        exact z_Ev_eq (c := (20, [some (aR 0 32), some (aI few), some (aI found), some (aI least), some (aI (3 : Int32)), none, none, none, none], [], (C, dm s a v t LD OB, E))) (c' := (20, [some (aR 0 32), some (aI (if d < few ∨ (¬ found = -1 ∧ d = few ∧ fulF Z < least) then d else few)), some (aI (if d < few ∨ (¬ found = -1 ∧ d = few ∧ fulF Z < least) then 2 else found)), some (aI (if d < few ∨ (¬ found = -1 ∧ d = few ∧ fulF Z < least) then fulF Z else least)), some (aI (3 : Int32)), none, none, none, none], [], (C, dm s a v t LD OB, E))) (by (try simp only [← Int32.not_le] at *); first | (simp [*]; done) | (exfalso; simp_all; done)) K
theorem mb_skip_3 {xs : Nat → Int32} {L : Nat} {o : z_Rs} {M' : Mem} {kk : Nat} (few found least : Int32) (C : Nat → Nat → Nat → Int32) (s a v t ld ob : Nat → Int32) (E : Nat → Int64) (hp : ¬ s 19 = 0) (K : z_Ev xs L m_X5_startBest (20, [some (aR 0 32), some (aI few), some (aI found), some (aI least), some (aI (4 : Int32)), none, none, none, none], [], (C, dm s a v t ld ob, E)) o M' kk) : z_Ev xs L m_X5_startBest (20, [some (aR 0 32), some (aI few), some (aI found), some (aI least), some (aI (3 : Int32)), none, none, none, none], [], (C, dm s a v t ld ob, E)) o M' kk := by
  refine z_Ev_blk 3 (c' := ((if (4 : Int32) ≤ (3 : Int32) then 135 else 26), [some (aR 0 32), some (aI few), some (aI found), some (aI least), some (aI (3 : Int32)), none, none, none, none], [], (C, dm s a v t ld ob, E))) rfl trivial ?_
  refine z_Ev_else (by decide) ?_
  refine z_Ev_blk 7 (c' := ((if (s 19) = 0 then 39 else 129), [some (aR 0 32), some (aI few), some (aI found), some (aI least), some (aI (3 : Int32)), none, none, none, none], [], (C, dm s a v t ld ob, E))) rfl ⟨rfl, trivial⟩ ?_
  refine z_Ev_else (hp) ?_
  refine z_Ev_blk 2 (c' := (20, [some (aR 0 32), some (aI few), some (aI found), some (aI least), some (aI (4 : Int32)), none, none, none, none], [], (C, dm s a v t ld ob, E))) rfl trivial ?_
  refine z_Ev_fgt [true, true, true, true, true, false, false, false, false] ?_
  exact z_Ev_eq (c := (20, [some (aR 0 32), some (aI few), some (aI found), some (aI least), some (aI (4 : Int32)), none, none, none, none], [], (C, dm s a v t ld ob, E))) (c' := (20, [some (aR 0 32), some (aI few), some (aI found), some (aI least), some (aI (4 : Int32)), none, none, none, none], [], (C, dm s a v t ld ob, E))) (by first | rfl | simp [*]) K
theorem mb_do_3 {xs : Nat → Int32} {L : Nat} {o : z_Rs} {M' : Mem} {kk : Nat} (few found least d : Int32) (Z LD OB : Nat → Int32) (C : Nat → Nat → Nat → Int32) (s a v t ld ob : Nat → Int32) (E : Nat → Int64) (hp : s 19 = 0) (hE : z_Mt xs L m_X5_darkToTheEnd [aR 0 32] (C, dm (bgF s 3) a v t ld ob, E) (.inl (some (aI d))) (C, dm Z a v t LD OB, E) 0) (hB : cpN Z a 376 = s) (K : z_Ev xs L m_X5_startBest (20, [some (aR 0 32), some (aI (if d < few ∨ (¬ found = -1 ∧ d = few ∧ fulF Z < least) then d else few)), some (aI (if d < few ∨ (¬ found = -1 ∧ d = few ∧ fulF Z < least) then 3 else found)), some (aI (if d < few ∨ (¬ found = -1 ∧ d = few ∧ fulF Z < least) then fulF Z else least)), some (aI (4 : Int32)), none, none, none, none], [], (C, dm s a v t LD OB, E)) o M' kk) : z_Ev xs L m_X5_startBest (20, [some (aR 0 32), some (aI few), some (aI found), some (aI least), some (aI (3 : Int32)), none, none, none, none], [], (C, dm s a v t ld ob, E)) o M' kk := by
  refine z_Ev_blk 3 (c' := ((if (4 : Int32) ≤ (3 : Int32) then 135 else 26), [some (aR 0 32), some (aI few), some (aI found), some (aI least), some (aI (3 : Int32)), none, none, none, none], [], (C, dm s a v t ld ob, E))) rfl trivial ?_
  refine z_Ev_else (by decide) ?_
  refine z_Ev_blk 7 (c' := ((if (s 19) = 0 then 39 else 129), [some (aR 0 32), some (aI few), some (aI found), some (aI least), some (aI (3 : Int32)), none, none, none, none], [], (C, dm s a v t ld ob, E))) rfl ⟨rfl, trivial⟩ ?_
  refine z_Ev_if (hp) ?_
  refine z_Ev_blk 2 (c' := (42, [some (aR 0 32), some (aI few), some (aI found), some (aI least), some (aI (3 : Int32)), none, none, none, none], [aI (3 : Int32), aR 0 32], (C, dm s a v t ld ob, E))) rfl trivial ?_
  refine z_Ev_call0 (m' := m_X5_starts) (as := [aR 0 32, aI (3 : Int32)]) (r := []) (m_starts_3 C s a v t ld ob E) rfl rfl ?_
  refine z_Ev_blk 2 (c' := (48, [some (aR 0 32), some (aI few), some (aI found), some (aI least), some (aI (3 : Int32)), some (aI (s 15)), none, none, none], [aR 0 32], (C, dm (bgF s 3) a v t ld ob, E))) rfl trivial ?_
  refine z_Ev_call0 (m' := m_X5_darkToTheEnd) (as := [aR 0 32]) (r := []) (hE) rfl rfl ?_
  refine z_Ev_blk 2 (c' := (54, [some (aR 0 32), some (aI few), some (aI found), some (aI least), some (aI (3 : Int32)), some (aI (s 15)), some (aI d), none, none], [aR 0 32], (C, dm Z a v t LD OB, E))) rfl trivial ?_
  refine z_Ev_call0 (m' := m_X5_allFuel) (as := [aR 0 32]) (r := []) (m_allFuel C Z a v t LD OB E) rfl rfl ?_
  refine z_Ev_blk 2 (c' := (60, [some (aR 0 32), some (aI few), some (aI found), some (aI least), some (aI (3 : Int32)), some (aI (s 15)), some (aI d), some (aI (fulF Z)), none], [aR 0 32], (C, dm Z a v t LD OB, E))) rfl trivial ?_
  refine z_Ev_call0 (m' := m_X5_putBack) (as := [aR 0 32]) (r := []) (m_putBack C Z a v t LD OB E) rfl rfl ?_
  rw [hB]
  refine z_Ev_blk 3 (c' := ((if d < few then 86 else 69), [some (aR 0 32), some (aI few), some (aI found), some (aI least), some (aI (3 : Int32)), some (aI (s 15)), some (aI d), some (aI (fulF Z)), none], [], (C, dm s a v t LD OB, E))) rfl trivial ?_
  refine z_Ev_ite (fun h1 => ?_) (fun h1 => ?_)
  · skip
    refine z_Ev_blk 5 (c' := ((if (1 : Int32) = 0 then 103 else 98), [some (aR 0 32), some (aI few), some (aI found), some (aI least), some (aI (3 : Int32)), some (aI (s 15)), some (aI d), some (aI (fulF Z)), some (aI (1 : Int32))], [], (C, dm s a v t LD OB, E))) rfl trivial ?_
    refine z_Ev_else (by decide) ?_
    refine z_Ev_blk 5 (c' := ((if (1 : Int32) = 0 then 115 else 110), [some (aR 0 32), some (aI few), some (aI (3 : Int32)), some (aI least), some (aI (3 : Int32)), some (aI (s 15)), some (aI d), some (aI (fulF Z)), some (aI (1 : Int32))], [], (C, dm s a v t LD OB, E))) rfl trivial ?_
    refine z_Ev_else (by decide) ?_
    refine z_Ev_blk 5 (c' := ((if (1 : Int32) = 0 then 127 else 122), [some (aR 0 32), some (aI few), some (aI (3 : Int32)), some (aI (fulF Z)), some (aI (3 : Int32)), some (aI (s 15)), some (aI d), some (aI (fulF Z)), some (aI (1 : Int32))], [], (C, dm s a v t LD OB, E))) rfl trivial ?_
    refine z_Ev_else (by decide) ?_
    refine z_Ev_blk 5 (c' := (20, [some (aR 0 32), some (aI d), some (aI (3 : Int32)), some (aI (fulF Z)), some (aI (4 : Int32)), some (aI (s 15)), some (aI d), some (aI (fulF Z)), some (aI (1 : Int32))], [], (C, dm s a v t LD OB, E))) rfl trivial ?_
    refine z_Ev_fgt [true, true, true, true, true, false, false, false, false] ?_
    exact z_Ev_eq (c := (20, [some (aR 0 32), some (aI d), some (aI (3 : Int32)), some (aI (fulF Z)), some (aI (4 : Int32)), none, none, none, none], [], (C, dm s a v t LD OB, E))) (c' := (20, [some (aR 0 32), some (aI (if d < few ∨ (¬ found = -1 ∧ d = few ∧ fulF Z < least) then d else few)), some (aI (if d < few ∨ (¬ found = -1 ∧ d = few ∧ fulF Z < least) then 3 else found)), some (aI (if d < few ∨ (¬ found = -1 ∧ d = few ∧ fulF Z < least) then fulF Z else least)), some (aI (4 : Int32)), none, none, none, none], [], (C, dm s a v t LD OB, E))) (by (try simp only [← Int32.not_le] at *); first | (simp [*]; done) | (exfalso; simp_all; done)) K
  · skip
    refine z_Ev_blk 3 (c' := ((if found = (-1 : Int32) then 90 else 74), [some (aR 0 32), some (aI few), some (aI found), some (aI least), some (aI (3 : Int32)), some (aI (s 15)), some (aI d), some (aI (fulF Z)), none], [], (C, dm s a v t LD OB, E))) rfl trivial ?_
    refine z_Ev_ite (fun h2 => ?_) (fun h2 => ?_)
    · skip
      refine z_Ev_blk 4 (c' := ((if (0 : Int32) = 0 then 103 else 98), [some (aR 0 32), some (aI few), some (aI found), some (aI least), some (aI (3 : Int32)), some (aI (s 15)), some (aI d), some (aI (fulF Z)), some (aI (0 : Int32))], [], (C, dm s a v t LD OB, E))) rfl trivial ?_
      refine z_Ev_if (by decide) ?_
      refine z_Ev_blk 4 (c' := ((if (0 : Int32) = 0 then 115 else 110), [some (aR 0 32), some (aI few), some (aI found), some (aI least), some (aI (3 : Int32)), some (aI (s 15)), some (aI d), some (aI (fulF Z)), some (aI (0 : Int32))], [], (C, dm s a v t LD OB, E))) rfl trivial ?_
      refine z_Ev_if (by decide) ?_
      refine z_Ev_blk 4 (c' := ((if (0 : Int32) = 0 then 127 else 122), [some (aR 0 32), some (aI few), some (aI found), some (aI least), some (aI (3 : Int32)), some (aI (s 15)), some (aI d), some (aI (fulF Z)), some (aI (0 : Int32))], [], (C, dm s a v t LD OB, E))) rfl trivial ?_
      refine z_Ev_if (by decide) ?_
      refine z_Ev_blk 4 (c' := (20, [some (aR 0 32), some (aI few), some (aI found), some (aI least), some (aI (4 : Int32)), some (aI (s 15)), some (aI d), some (aI (fulF Z)), some (aI (0 : Int32))], [], (C, dm s a v t LD OB, E))) rfl trivial ?_
      refine z_Ev_fgt [true, true, true, true, true, false, false, false, false] ?_
      exact z_Ev_eq (c := (20, [some (aR 0 32), some (aI few), some (aI found), some (aI least), some (aI (4 : Int32)), none, none, none, none], [], (C, dm s a v t LD OB, E))) (c' := (20, [some (aR 0 32), some (aI (if d < few ∨ (¬ found = -1 ∧ d = few ∧ fulF Z < least) then d else few)), some (aI (if d < few ∨ (¬ found = -1 ∧ d = few ∧ fulF Z < least) then 3 else found)), some (aI (if d < few ∨ (¬ found = -1 ∧ d = few ∧ fulF Z < least) then fulF Z else least)), some (aI (4 : Int32)), none, none, none, none], [], (C, dm s a v t LD OB, E))) (by (try simp only [← Int32.not_le] at *); first | (simp [*]; done) | (exfalso; simp_all; done)) K
    · skip
      refine z_Ev_blk 3 (c' := ((if d = few then 80 else 90), [some (aR 0 32), some (aI few), some (aI found), some (aI least), some (aI (3 : Int32)), some (aI (s 15)), some (aI d), some (aI (fulF Z)), none], [], (C, dm s a v t LD OB, E))) rfl trivial ?_
      refine z_Ev_ite (fun h3 => ?_) (fun h3 => ?_)
      · skip
        refine z_Ev_blk 3 (c' := ((if least ≤ (fulF Z) then 90 else 86), [some (aR 0 32), some (aI few), some (aI found), some (aI least), some (aI (3 : Int32)), some (aI (s 15)), some (aI d), some (aI (fulF Z)), none], [], (C, dm s a v t LD OB, E))) rfl trivial ?_
        refine z_Ev_ite (fun h4 => ?_) (fun h4 => ?_)
        · skip
          refine z_Ev_blk 4 (c' := ((if (0 : Int32) = 0 then 103 else 98), [some (aR 0 32), some (aI few), some (aI found), some (aI least), some (aI (3 : Int32)), some (aI (s 15)), some (aI d), some (aI (fulF Z)), some (aI (0 : Int32))], [], (C, dm s a v t LD OB, E))) rfl trivial ?_
          refine z_Ev_if (by decide) ?_
          refine z_Ev_blk 4 (c' := ((if (0 : Int32) = 0 then 115 else 110), [some (aR 0 32), some (aI few), some (aI found), some (aI least), some (aI (3 : Int32)), some (aI (s 15)), some (aI d), some (aI (fulF Z)), some (aI (0 : Int32))], [], (C, dm s a v t LD OB, E))) rfl trivial ?_
          refine z_Ev_if (by decide) ?_
          refine z_Ev_blk 4 (c' := ((if (0 : Int32) = 0 then 127 else 122), [some (aR 0 32), some (aI few), some (aI found), some (aI least), some (aI (3 : Int32)), some (aI (s 15)), some (aI d), some (aI (fulF Z)), some (aI (0 : Int32))], [], (C, dm s a v t LD OB, E))) rfl trivial ?_
          refine z_Ev_if (by decide) ?_
          refine z_Ev_blk 4 (c' := (20, [some (aR 0 32), some (aI few), some (aI found), some (aI least), some (aI (4 : Int32)), some (aI (s 15)), some (aI d), some (aI (fulF Z)), some (aI (0 : Int32))], [], (C, dm s a v t LD OB, E))) rfl trivial ?_
          refine z_Ev_fgt [true, true, true, true, true, false, false, false, false] ?_
          exact z_Ev_eq (c := (20, [some (aR 0 32), some (aI few), some (aI found), some (aI least), some (aI (4 : Int32)), none, none, none, none], [], (C, dm s a v t LD OB, E))) (c' := (20, [some (aR 0 32), some (aI (if d < few ∨ (¬ found = -1 ∧ d = few ∧ fulF Z < least) then d else few)), some (aI (if d < few ∨ (¬ found = -1 ∧ d = few ∧ fulF Z < least) then 3 else found)), some (aI (if d < few ∨ (¬ found = -1 ∧ d = few ∧ fulF Z < least) then fulF Z else least)), some (aI (4 : Int32)), none, none, none, none], [], (C, dm s a v t LD OB, E))) (by (try simp only [← Int32.not_le] at *); first | (simp [*]; done) | (exfalso; simp_all; done)) K
        · skip
          refine z_Ev_blk 5 (c' := ((if (1 : Int32) = 0 then 103 else 98), [some (aR 0 32), some (aI few), some (aI found), some (aI least), some (aI (3 : Int32)), some (aI (s 15)), some (aI d), some (aI (fulF Z)), some (aI (1 : Int32))], [], (C, dm s a v t LD OB, E))) rfl trivial ?_
          refine z_Ev_else (by decide) ?_
          refine z_Ev_blk 5 (c' := ((if (1 : Int32) = 0 then 115 else 110), [some (aR 0 32), some (aI few), some (aI (3 : Int32)), some (aI least), some (aI (3 : Int32)), some (aI (s 15)), some (aI d), some (aI (fulF Z)), some (aI (1 : Int32))], [], (C, dm s a v t LD OB, E))) rfl trivial ?_
          refine z_Ev_else (by decide) ?_
          refine z_Ev_blk 5 (c' := ((if (1 : Int32) = 0 then 127 else 122), [some (aR 0 32), some (aI few), some (aI (3 : Int32)), some (aI (fulF Z)), some (aI (3 : Int32)), some (aI (s 15)), some (aI d), some (aI (fulF Z)), some (aI (1 : Int32))], [], (C, dm s a v t LD OB, E))) rfl trivial ?_
          refine z_Ev_else (by decide) ?_
          refine z_Ev_blk 5 (c' := (20, [some (aR 0 32), some (aI d), some (aI (3 : Int32)), some (aI (fulF Z)), some (aI (4 : Int32)), some (aI (s 15)), some (aI d), some (aI (fulF Z)), some (aI (1 : Int32))], [], (C, dm s a v t LD OB, E))) rfl trivial ?_
          refine z_Ev_fgt [true, true, true, true, true, false, false, false, false] ?_
          exact z_Ev_eq (c := (20, [some (aR 0 32), some (aI d), some (aI (3 : Int32)), some (aI (fulF Z)), some (aI (4 : Int32)), none, none, none, none], [], (C, dm s a v t LD OB, E))) (c' := (20, [some (aR 0 32), some (aI (if d < few ∨ (¬ found = -1 ∧ d = few ∧ fulF Z < least) then d else few)), some (aI (if d < few ∨ (¬ found = -1 ∧ d = few ∧ fulF Z < least) then 3 else found)), some (aI (if d < few ∨ (¬ found = -1 ∧ d = few ∧ fulF Z < least) then fulF Z else least)), some (aI (4 : Int32)), none, none, none, none], [], (C, dm s a v t LD OB, E))) (by (try simp only [← Int32.not_le] at *); first | (simp [*]; done) | (exfalso; simp_all; done)) K
      · skip
        refine z_Ev_blk 4 (c' := ((if (0 : Int32) = 0 then 103 else 98), [some (aR 0 32), some (aI few), some (aI found), some (aI least), some (aI (3 : Int32)), some (aI (s 15)), some (aI d), some (aI (fulF Z)), some (aI (0 : Int32))], [], (C, dm s a v t LD OB, E))) rfl trivial ?_
        refine z_Ev_if (by decide) ?_
        refine z_Ev_blk 4 (c' := ((if (0 : Int32) = 0 then 115 else 110), [some (aR 0 32), some (aI few), some (aI found), some (aI least), some (aI (3 : Int32)), some (aI (s 15)), some (aI d), some (aI (fulF Z)), some (aI (0 : Int32))], [], (C, dm s a v t LD OB, E))) rfl trivial ?_
        refine z_Ev_if (by decide) ?_
        refine z_Ev_blk 4 (c' := ((if (0 : Int32) = 0 then 127 else 122), [some (aR 0 32), some (aI few), some (aI found), some (aI least), some (aI (3 : Int32)), some (aI (s 15)), some (aI d), some (aI (fulF Z)), some (aI (0 : Int32))], [], (C, dm s a v t LD OB, E))) rfl trivial ?_
        refine z_Ev_if (by decide) ?_
        refine z_Ev_blk 4 (c' := (20, [some (aR 0 32), some (aI few), some (aI found), some (aI least), some (aI (4 : Int32)), some (aI (s 15)), some (aI d), some (aI (fulF Z)), some (aI (0 : Int32))], [], (C, dm s a v t LD OB, E))) rfl trivial ?_
        refine z_Ev_fgt [true, true, true, true, true, false, false, false, false] ?_
        exact z_Ev_eq (c := (20, [some (aR 0 32), some (aI few), some (aI found), some (aI least), some (aI (4 : Int32)), none, none, none, none], [], (C, dm s a v t LD OB, E))) (c' := (20, [some (aR 0 32), some (aI (if d < few ∨ (¬ found = -1 ∧ d = few ∧ fulF Z < least) then d else few)), some (aI (if d < few ∨ (¬ found = -1 ∧ d = few ∧ fulF Z < least) then 3 else found)), some (aI (if d < few ∨ (¬ found = -1 ∧ d = few ∧ fulF Z < least) then fulF Z else least)), some (aI (4 : Int32)), none, none, none, none], [], (C, dm s a v t LD OB, E))) (by (try simp only [← Int32.not_le] at *); first | (simp [*]; done) | (exfalso; simp_all; done)) K
theorem mb_end {xs : Nat → Int32} {L : Nat} (few found least : Int32) (C : Nat → Nat → Nat → Int32) (s a v t ld ob : Nat → Int32) (E : Nat → Int64)  : z_Ev xs L m_X5_startBest (20, [some (aR 0 32), some (aI few), some (aI found), some (aI least), some (aI (4 : Int32)), none, none, none, none], [], (C, dm s a v t ld ob, E)) (.inl (some (aI found))) (C, dm s a v t ld ob, E) 0 := by
  refine z_Ev_blk 3 (c' := ((if (4 : Int32) ≤ (4 : Int32) then 135 else 26), [some (aR 0 32), some (aI few), some (aI found), some (aI least), some (aI (4 : Int32)), none, none, none, none], [], (C, dm s a v t ld ob, E))) rfl trivial ?_
  refine z_Ev_if (by decide) ?_
  refine z_Ev_blk 1 (c' := (136, [some (aR 0 32), some (aI few), some (aI found), some (aI least), some (aI (4 : Int32)), none, none, none, none], [aI found], (C, dm s a v t ld ob, E))) rfl trivial ?_
  exact z_Ev_iretE rfl rfl (by rfl) (by rfl)
theorem dkN_n : ∀ (H : Nat) (s : Nat → Int32), ∃ a, a ≤ H ∧ dkN s H = nI a
  | 0, s => ⟨0, Nat.le_refl _, rfl⟩
  | H + 1, s => by
    obtain ⟨a, ha, e⟩ := dkN_n H s
    unfold dkN
    rw [e]
    by_cases q : 0 < s (88 + 6 * H + 1)
    · rw [if_pos q, nI_1]; exact ⟨a + 1, by omega, rfl⟩
    · rw [if_neg q, Int32.add_zero]; exact ⟨a, by omega, rfl⟩
theorem sfN_n : ∀ (H : Nat) (s : Nat → Int32), (∀ h, h < H → z_isB (s (88 + 6 * h + 4)) = true) → ∃ a, a ≤ H ∧ sfN s H = nI a
  | 0, s, _ => ⟨0, Nat.le_refl _, rfl⟩
  | H + 1, s, hb => by
    obtain ⟨a, ha, e⟩ := sfN_n H s (fun h hh => hb h (by omega))
    unfold sfN
    rw [e]
    rcases isB_or (hb H (by omega)) with q | q <;> rw [q]
    · rw [Int32.add_zero]; exact ⟨a, by omega, rfl⟩
    · rw [nI_1]; exact ⟨a + 1, by omega, rfl⟩
theorem d38 {s : Nat → Int32} {H : Nat} (hV : Vs s H) : ∃ a, a ≤ H ∧ s 38 = nI a := by
  rw [← Vs_dk hV]; exact dkN_n H s
theorem off_lt {p q c : Nat} (hp : p ≤ 48) (hq : q ≤ 48) (hc : c ≤ 48) : nI p - nI c < nI q - nI c ↔ nI p < nI q := by
  rw [i_lt, i_lt, pk_sub_toInt (by omega) (by omega), pk_sub_toInt (by omega) (by omega), nI_toInt (by omega), nI_toInt (by omega)]
  omega
/-- the loop of startBest, from the set k on; x: all dark hours, their fuel, the set -/
def MB (xs : Nat → Int32) (L : Nat) (C : Nat → Nat → Nat → Int32) (s a v t : Nat → Int32) (E : Nat → Int64) (k : Int32) (x : Int32 × (Int32 × Int32)) (r : Int32) : Prop := ∀ ld ob : Nat → Int32, ∃ ld' ob' : Nat → Int32, (∀ k, k < 8 → ob' k = ob k) ∧ z_Ev xs L m_X5_startBest (20, [some (aR 0 32), some (aI (x.1 - s 38)), some (aI x.2.2), some (aI x.2.1), some (aI k), none, none, none, none], [], (C, dm s a v t ld ob, E)) (.inl (some (aI r))) (C, dm s a v t ld' ob', E) 0
theorem bgF_hi {s : Nat → Int32} {k j : Nat} (hk : k < 4) (hj : 24 ≤ j) : bgF s k j = s j := bgF_o (by omega) (by omega)
theorem mb_0 {xs : Nat → Int32} {L : Nat} (H : Nat) (C : Nat → Nat → Nat → Int32) (s a v t : Nat → Int32) (E : Nat → Int64) (hV : Vs s H) (ha : ∀ j, j < 376 → a j = s j) (x : Int32 × (Int32 × Int32)) (hx : ∃ p, p ≤ 48 ∧ x.1 = nI p) (r : Int32) (K : MB xs L C s a v t E 1 (bsT s H 0 x) r) : MB xs L C s a v t E 0 x r := by
  intro ld ob
  by_cases hp : s 16 = 0
  · have hVb := Vs_bg (k := 0) hV (by decide)
    have hle := hV.2.1.2
    obtain ⟨LD, OB, o1, hE⟩ := n_toEnd (xs := xs) (L := L) C (bgF s 0) a v t ld ob E hVb
    obtain ⟨ld', ob', o2, Q⟩ := K LD OB
    have e38 : bgF s 0 38 = s 38 := bgF_hi (by decide) (by decide)
    rw [e38] at hE
    have hB : cpN (goM (48 - H) (bgF s 0)) a 376 = s := by
      funext j
      unfold cpN
      by_cases e : j < 376
      · rw [if_pos e]; exact ha j e
      · rw [if_neg e, goM_hi _ hVb (by omega) (by omega), bgF_hi (by decide) (by omega)]
    refine ⟨ld', ob', fun k hk => (o2 k hk).trans (o1 k hk), mb_do_0 (x.1 - s 38) x.2.2 x.2.1 (goM (48 - H) (bgF s 0) 38 - s 38) (goM (48 - H) (bgF s 0)) LD OB C s a v t ld ob E hp hE hB ?_⟩
    have e : bsT s H 0 x = (if goM (48 - H) (bgF s 0) 38 < x.1 ∨ (¬ x.2.2 = -1 ∧ goM (48 - H) (bgF s 0) 38 = x.1 ∧ fulF (goM (48 - H) (bgF s 0)) < x.2.1) then (goM (48 - H) (bgF s 0) 38, fulF (goM (48 - H) (bgF s 0)), nI 0) else x) := if_pos hp
    rw [e] at Q
    obtain ⟨p, hp48, ep⟩ := hx
    obtain ⟨q, hq48, eq⟩ := d38 (Vs_end hVb)
    obtain ⟨c, hc48, ec⟩ := d38 hV
    have hiff : (goM (48 - H) (bgF s 0) 38 - s 38 < x.1 - s 38 ∨ (¬ x.2.2 = -1 ∧ goM (48 - H) (bgF s 0) 38 - s 38 = x.1 - s 38 ∧ fulF (goM (48 - H) (bgF s 0)) < x.2.1)) ↔ (goM (48 - H) (bgF s 0) 38 < x.1 ∨ (¬ x.2.2 = -1 ∧ goM (48 - H) (bgF s 0) 38 = x.1 ∧ fulF (goM (48 - H) (bgF s 0)) < x.2.1)) := by
      rw [eq, ep, ec, off_lt hq48 hp48 (by omega), Int32.sub_left_inj]
    by_cases z : goM (48 - H) (bgF s 0) 38 < x.1 ∨ (¬ x.2.2 = -1 ∧ goM (48 - H) (bgF s 0) 38 = x.1 ∧ fulF (goM (48 - H) (bgF s 0)) < x.2.1)
    · have z2 := hiff.mpr z
      rw [if_pos z] at Q
      rw [if_pos z2, if_pos z2, if_pos z2]
      exact Q
    · have z2 := fun y => z (hiff.mp y)
      rw [if_neg z] at Q
      rw [if_neg z2, if_neg z2, if_neg z2]
      exact Q
  · obtain ⟨ld', ob', o2, Q⟩ := K ld ob
    have e : bsT s H 0 x = x := if_neg hp
    rw [e] at Q
    exact ⟨ld', ob', o2, mb_skip_0 (x.1 - s 38) x.2.2 x.2.1 C s a v t ld ob E hp Q⟩
theorem mb_1 {xs : Nat → Int32} {L : Nat} (H : Nat) (C : Nat → Nat → Nat → Int32) (s a v t : Nat → Int32) (E : Nat → Int64) (hV : Vs s H) (ha : ∀ j, j < 376 → a j = s j) (x : Int32 × (Int32 × Int32)) (hx : ∃ p, p ≤ 48 ∧ x.1 = nI p) (r : Int32) (K : MB xs L C s a v t E 2 (bsT s H 1 x) r) : MB xs L C s a v t E 1 x r := by
  intro ld ob
  by_cases hp : s 17 = 0
  · have hVb := Vs_bg (k := 1) hV (by decide)
    have hle := hV.2.1.2
    obtain ⟨LD, OB, o1, hE⟩ := n_toEnd (xs := xs) (L := L) C (bgF s 1) a v t ld ob E hVb
    obtain ⟨ld', ob', o2, Q⟩ := K LD OB
    have e38 : bgF s 1 38 = s 38 := bgF_hi (by decide) (by decide)
    rw [e38] at hE
    have hB : cpN (goM (48 - H) (bgF s 1)) a 376 = s := by
      funext j
      unfold cpN
      by_cases e : j < 376
      · rw [if_pos e]; exact ha j e
      · rw [if_neg e, goM_hi _ hVb (by omega) (by omega), bgF_hi (by decide) (by omega)]
    refine ⟨ld', ob', fun k hk => (o2 k hk).trans (o1 k hk), mb_do_1 (x.1 - s 38) x.2.2 x.2.1 (goM (48 - H) (bgF s 1) 38 - s 38) (goM (48 - H) (bgF s 1)) LD OB C s a v t ld ob E hp hE hB ?_⟩
    have e : bsT s H 1 x = (if goM (48 - H) (bgF s 1) 38 < x.1 ∨ (¬ x.2.2 = -1 ∧ goM (48 - H) (bgF s 1) 38 = x.1 ∧ fulF (goM (48 - H) (bgF s 1)) < x.2.1) then (goM (48 - H) (bgF s 1) 38, fulF (goM (48 - H) (bgF s 1)), nI 1) else x) := if_pos hp
    rw [e] at Q
    obtain ⟨p, hp48, ep⟩ := hx
    obtain ⟨q, hq48, eq⟩ := d38 (Vs_end hVb)
    obtain ⟨c, hc48, ec⟩ := d38 hV
    have hiff : (goM (48 - H) (bgF s 1) 38 - s 38 < x.1 - s 38 ∨ (¬ x.2.2 = -1 ∧ goM (48 - H) (bgF s 1) 38 - s 38 = x.1 - s 38 ∧ fulF (goM (48 - H) (bgF s 1)) < x.2.1)) ↔ (goM (48 - H) (bgF s 1) 38 < x.1 ∨ (¬ x.2.2 = -1 ∧ goM (48 - H) (bgF s 1) 38 = x.1 ∧ fulF (goM (48 - H) (bgF s 1)) < x.2.1)) := by
      rw [eq, ep, ec, off_lt hq48 hp48 (by omega), Int32.sub_left_inj]
    by_cases z : goM (48 - H) (bgF s 1) 38 < x.1 ∨ (¬ x.2.2 = -1 ∧ goM (48 - H) (bgF s 1) 38 = x.1 ∧ fulF (goM (48 - H) (bgF s 1)) < x.2.1)
    · have z2 := hiff.mpr z
      rw [if_pos z] at Q
      rw [if_pos z2, if_pos z2, if_pos z2]
      exact Q
    · have z2 := fun y => z (hiff.mp y)
      rw [if_neg z] at Q
      rw [if_neg z2, if_neg z2, if_neg z2]
      exact Q
  · obtain ⟨ld', ob', o2, Q⟩ := K ld ob
    have e : bsT s H 1 x = x := if_neg hp
    rw [e] at Q
    exact ⟨ld', ob', o2, mb_skip_1 (x.1 - s 38) x.2.2 x.2.1 C s a v t ld ob E hp Q⟩
theorem mb_2 {xs : Nat → Int32} {L : Nat} (H : Nat) (C : Nat → Nat → Nat → Int32) (s a v t : Nat → Int32) (E : Nat → Int64) (hV : Vs s H) (ha : ∀ j, j < 376 → a j = s j) (x : Int32 × (Int32 × Int32)) (hx : ∃ p, p ≤ 48 ∧ x.1 = nI p) (r : Int32) (K : MB xs L C s a v t E 3 (bsT s H 2 x) r) : MB xs L C s a v t E 2 x r := by
  intro ld ob
  by_cases hp : s 18 = 0
  · have hVb := Vs_bg (k := 2) hV (by decide)
    have hle := hV.2.1.2
    obtain ⟨LD, OB, o1, hE⟩ := n_toEnd (xs := xs) (L := L) C (bgF s 2) a v t ld ob E hVb
    obtain ⟨ld', ob', o2, Q⟩ := K LD OB
    have e38 : bgF s 2 38 = s 38 := bgF_hi (by decide) (by decide)
    rw [e38] at hE
    have hB : cpN (goM (48 - H) (bgF s 2)) a 376 = s := by
      funext j
      unfold cpN
      by_cases e : j < 376
      · rw [if_pos e]; exact ha j e
      · rw [if_neg e, goM_hi _ hVb (by omega) (by omega), bgF_hi (by decide) (by omega)]
    refine ⟨ld', ob', fun k hk => (o2 k hk).trans (o1 k hk), mb_do_2 (x.1 - s 38) x.2.2 x.2.1 (goM (48 - H) (bgF s 2) 38 - s 38) (goM (48 - H) (bgF s 2)) LD OB C s a v t ld ob E hp hE hB ?_⟩
    have e : bsT s H 2 x = (if goM (48 - H) (bgF s 2) 38 < x.1 ∨ (¬ x.2.2 = -1 ∧ goM (48 - H) (bgF s 2) 38 = x.1 ∧ fulF (goM (48 - H) (bgF s 2)) < x.2.1) then (goM (48 - H) (bgF s 2) 38, fulF (goM (48 - H) (bgF s 2)), nI 2) else x) := if_pos hp
    rw [e] at Q
    obtain ⟨p, hp48, ep⟩ := hx
    obtain ⟨q, hq48, eq⟩ := d38 (Vs_end hVb)
    obtain ⟨c, hc48, ec⟩ := d38 hV
    have hiff : (goM (48 - H) (bgF s 2) 38 - s 38 < x.1 - s 38 ∨ (¬ x.2.2 = -1 ∧ goM (48 - H) (bgF s 2) 38 - s 38 = x.1 - s 38 ∧ fulF (goM (48 - H) (bgF s 2)) < x.2.1)) ↔ (goM (48 - H) (bgF s 2) 38 < x.1 ∨ (¬ x.2.2 = -1 ∧ goM (48 - H) (bgF s 2) 38 = x.1 ∧ fulF (goM (48 - H) (bgF s 2)) < x.2.1)) := by
      rw [eq, ep, ec, off_lt hq48 hp48 (by omega), Int32.sub_left_inj]
    by_cases z : goM (48 - H) (bgF s 2) 38 < x.1 ∨ (¬ x.2.2 = -1 ∧ goM (48 - H) (bgF s 2) 38 = x.1 ∧ fulF (goM (48 - H) (bgF s 2)) < x.2.1)
    · have z2 := hiff.mpr z
      rw [if_pos z] at Q
      rw [if_pos z2, if_pos z2, if_pos z2]
      exact Q
    · have z2 := fun y => z (hiff.mp y)
      rw [if_neg z] at Q
      rw [if_neg z2, if_neg z2, if_neg z2]
      exact Q
  · obtain ⟨ld', ob', o2, Q⟩ := K ld ob
    have e : bsT s H 2 x = x := if_neg hp
    rw [e] at Q
    exact ⟨ld', ob', o2, mb_skip_2 (x.1 - s 38) x.2.2 x.2.1 C s a v t ld ob E hp Q⟩
theorem mb_3 {xs : Nat → Int32} {L : Nat} (H : Nat) (C : Nat → Nat → Nat → Int32) (s a v t : Nat → Int32) (E : Nat → Int64) (hV : Vs s H) (ha : ∀ j, j < 376 → a j = s j) (x : Int32 × (Int32 × Int32)) (hx : ∃ p, p ≤ 48 ∧ x.1 = nI p) (r : Int32) (K : MB xs L C s a v t E 4 (bsT s H 3 x) r) : MB xs L C s a v t E 3 x r := by
  intro ld ob
  by_cases hp : s 19 = 0
  · have hVb := Vs_bg (k := 3) hV (by decide)
    have hle := hV.2.1.2
    obtain ⟨LD, OB, o1, hE⟩ := n_toEnd (xs := xs) (L := L) C (bgF s 3) a v t ld ob E hVb
    obtain ⟨ld', ob', o2, Q⟩ := K LD OB
    have e38 : bgF s 3 38 = s 38 := bgF_hi (by decide) (by decide)
    rw [e38] at hE
    have hB : cpN (goM (48 - H) (bgF s 3)) a 376 = s := by
      funext j
      unfold cpN
      by_cases e : j < 376
      · rw [if_pos e]; exact ha j e
      · rw [if_neg e, goM_hi _ hVb (by omega) (by omega), bgF_hi (by decide) (by omega)]
    refine ⟨ld', ob', fun k hk => (o2 k hk).trans (o1 k hk), mb_do_3 (x.1 - s 38) x.2.2 x.2.1 (goM (48 - H) (bgF s 3) 38 - s 38) (goM (48 - H) (bgF s 3)) LD OB C s a v t ld ob E hp hE hB ?_⟩
    have e : bsT s H 3 x = (if goM (48 - H) (bgF s 3) 38 < x.1 ∨ (¬ x.2.2 = -1 ∧ goM (48 - H) (bgF s 3) 38 = x.1 ∧ fulF (goM (48 - H) (bgF s 3)) < x.2.1) then (goM (48 - H) (bgF s 3) 38, fulF (goM (48 - H) (bgF s 3)), nI 3) else x) := if_pos hp
    rw [e] at Q
    obtain ⟨p, hp48, ep⟩ := hx
    obtain ⟨q, hq48, eq⟩ := d38 (Vs_end hVb)
    obtain ⟨c, hc48, ec⟩ := d38 hV
    have hiff : (goM (48 - H) (bgF s 3) 38 - s 38 < x.1 - s 38 ∨ (¬ x.2.2 = -1 ∧ goM (48 - H) (bgF s 3) 38 - s 38 = x.1 - s 38 ∧ fulF (goM (48 - H) (bgF s 3)) < x.2.1)) ↔ (goM (48 - H) (bgF s 3) 38 < x.1 ∨ (¬ x.2.2 = -1 ∧ goM (48 - H) (bgF s 3) 38 = x.1 ∧ fulF (goM (48 - H) (bgF s 3)) < x.2.1)) := by
      rw [eq, ep, ec, off_lt hq48 hp48 (by omega), Int32.sub_left_inj]
    by_cases z : goM (48 - H) (bgF s 3) 38 < x.1 ∨ (¬ x.2.2 = -1 ∧ goM (48 - H) (bgF s 3) 38 = x.1 ∧ fulF (goM (48 - H) (bgF s 3)) < x.2.1)
    · have z2 := hiff.mpr z
      rw [if_pos z] at Q
      rw [if_pos z2, if_pos z2, if_pos z2]
      exact Q
    · have z2 := fun y => z (hiff.mp y)
      rw [if_neg z] at Q
      rw [if_neg z2, if_neg z2, if_neg z2]
      exact Q
  · obtain ⟨ld', ob', o2, Q⟩ := K ld ob
    have e : bsT s H 3 x = x := if_neg hp
    rw [e] at Q
    exact ⟨ld', ob', o2, mb_skip_3 (x.1 - s 38) x.2.2 x.2.1 C s a v t ld ob E hp Q⟩
theorem bsT_n {s : Nat → Int32} {H k : Nat} (hV : Vs s H) (hk : k < 4) {x : Int32 × (Int32 × Int32)} (hx : ∃ p, p ≤ 48 ∧ x.1 = nI p) : ∃ p, p ≤ 48 ∧ (bsT s H k x).1 = nI p := by
  unfold bsT
  by_cases q : s (16 + k) = 0
  · rw [if_pos q]
    by_cases z : goM (48 - H) (bgF s k) 38 < x.1 ∨ (¬ x.2.2 = -1 ∧ goM (48 - H) (bgF s k) 38 = x.1 ∧ fulF (goM (48 - H) (bgF s k)) < x.2.1)
    · rw [if_pos z]; exact d38 (Vs_end (Vs_bg hV hk))
    · rw [if_neg z]; exact hx
  · rw [if_neg q]; exact hx
theorem n_startBest {xs : Nat → Int32} {L : Nat} (H : Nat) (C : Nat → Nat → Nat → Int32) (s v t : Nat → Int32) (E : Nat → Int64) (x : Int32) (hV : Vs s H) : KM xs L C s v t E x m_X5_startBest [aR 0 32] (aI (bsV s H)) := by
  intro a ld ob _
  have hle := hV.2.1.2
  have ha : ∀ j, j < 376 → cpN a s 376 j = s j := fun j hj => if_pos hj
  obtain ⟨LD, OB, o1, hE⟩ := n_toEnd (xs := xs) (L := L) C s (cpN a s 376) v t ld ob E hV
  have x0 : ∃ p, p ≤ 48 ∧ (goM (48 - H) s 38, ((0 : Int32), (-1 : Int32))).1 = nI p := d38 (Vs_end hV)
  have Q : MB xs L C s (cpN a s 376) v t E 0 (goM (48 - H) s 38, 0, -1) (bsV s H) := by
    refine mb_0 H C s _ v t E hV ha _ x0 _ ?_
    refine mb_1 H C s _ v t E hV ha _ (bsT_n hV (by decide) x0) _ ?_
    refine mb_2 H C s _ v t E hV ha _ (bsT_n hV (by decide) (bsT_n hV (by decide) x0)) _ ?_
    refine mb_3 H C s _ v t E hV ha _ (bsT_n hV (by decide) (bsT_n hV (by decide) (bsT_n hV (by decide) x0))) _ ?_
    intro ld ob
    exact ⟨ld, ob, fun _ _ => rfl, mb_end _ _ _ C s _ v t ld ob E⟩
  obtain ⟨ld', ob', o2, K⟩ := Q LD OB
  refine ⟨cpN a s 376, ld', ob', fun k hk => (o2 k hk).trans (o1 k hk), ?_⟩
  refine z_Ev_blk 1 (c' := (1, [some (aR 0 32), none, none, none, none, none, none, none, none], [aR 0 32], (C, dm s a v t ld ob, E))) rfl trivial ?_
  refine z_Ev_call0 (m' := m_X5_putAside) (as := [aR 0 32]) (r := []) (m_putAside C s a v t ld ob E) rfl rfl ?_
  refine z_Ev_blk 1 (c' := (5, [some (aR 0 32), none, none, none, none, none, none, none, none], [aR 0 32], (C, dm s (cpN a s 376) v t ld ob, E))) rfl trivial ?_
  refine z_Ev_call0 (m' := m_X5_darkToTheEnd) (as := [aR 0 32]) (r := []) hE rfl rfl ?_
  generalize hd : goM (48 - H) s 38 - s 38 = d
  refine z_Ev_blk 2 (c' := (10, [some (aR 0 32), some (aI d), none, none, none, none, none, none, none], [aR 0 32], (C, dm (goM (48 - H) s) (cpN a s 376) v t LD OB, E))) rfl trivial ?_
  refine z_Ev_call0 (m' := m_X5_putBack) (as := [aR 0 32]) (r := []) (m_putBack C (goM (48 - H) s) (cpN a s 376) v t LD OB E) rfl rfl ?_
  rw [cp_back (fun j hj => goM_hi _ hV (by omega) hj)]
  refine z_Ev_blk 6 (c' := (20, [some (aR 0 32), some (aI d), some (aI (-1)), some (aI 0), some (aI 0), none, none, none, none], [], (C, dm s (cpN a s 376) v t LD OB, E))) rfl trivial ?_
  rw [← hd]
  exact K
