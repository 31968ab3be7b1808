/-! THE MODEL: signs, numbers -/
def nuF (t : Nat → Int32) (most : Int32) : Nat → Nat → Int32 → Int32 × Nat
  | 0, p, v => (v, p)
  | d + 1, p, v => if 0 < v ∧ (48 ≤ t p ∧ t p ≤ 57) ∧ 10 * v + t p - 48 ≤ most then nuF t most d (p + 1) (10 * v + t p - 48) else (v, p)
def nmF (t : Nat → Int32) (c : Nat) (least most : Int32) (p : Nat) : Option (Int32 × Nat) := if p < c ∧ 48 + least ≤ t p ∧ t p ≤ 57 then some (nuF t most (c - (p + 1)) (p + 1) (t p - 48)) else none
/-- an order as the model reads it: where it is wrong, or what it says and where it ends -/
def moF (t : Nat → Int32) (c p : Nat) : Nat ⊕ (Int32 × (Int32 × (Int32 × Nat))) :=
  if ¬ p < c then .inl p
  else if t p = 43 ∨ t p = 45 then (if p + 1 < c ∧ 48 ≤ t (p + 1) ∧ t (p + 1) ≤ 51 then .inr (t p, t (p + 1) - 48, 0, p + 2) else .inl (p + 1))
  else if t p = 115 then .inr (115, 0, 0, p + 1)
  else if t p = 104 then (match nmF t c 1 48 (p + 1) with
    | none => .inl (p + 1)
    | some r => .inr (104, r.1, 0, r.2))
  else if t p = 102 then (match nmF t c 0 47 (p + 1) with
    | none => .inl (p + 1)
    | some r => if r.2 < c ∧ t r.2 = 61 then (match nmF t c 0 1500 (r.2 + 1) with
        | none => .inl (r.2 + 1)
        | some q => .inr (102, r.1, q.1, q.2)) else .inl r.2)
  else .inl p
theorem nuF_le {t : Nat → Int32} {most : Int32} : ∀ (d p : Nat) (v : Int32), p ≤ (nuF t most d p v).2 ∧ (nuF t most d p v).2 ≤ p + d
  | 0, p, v => ⟨Nat.le_refl _, Nat.le_refl _⟩
  | d + 1, p, v => by
    unfold nuF
    split
    · have q := nuF_le (t := t) (most := most) d (p + 1) (10 * v + t p - 48)
      omega
    · exact ⟨Nat.le_refl _, by dsimp only; omega⟩

theorem g_sign_ok {xs : Nat → Int32} {L : Nat} (p c : Nat) (lo hi : Int32) (C : Nat → Nat → Nat → Int32) (s a v t ld ob : Nat → Int32) (E : Nat → Int64) (h6 : ob 6 = nI c) (h13 : ob 13 = nI p) (hc : c ≤ 60) (h14 : ob 14 = 0) (hp : p < c) (hin : lo ≤ t p ∧ t p ≤ hi) : z_Mt xs L m_X5_sign [aR 0 32, aI lo, aI hi] (C, dm s a v t ld ob, E) (.inl (some (aI (t p)))) (C, dm s a v t ld (upd (upd ob 14 0) 13 (nI (p + 1))), E) 0 := by
  refine z_Ev_blk 2 (c' := (4, [some (aR 0 32), some (aI lo), some (aI hi), none], [aI (ob 13)], (C, dm s a v t ld ob, E))) rfl trivial ?_
  rw [h13]
  refine z_Ev_blk 2 (c' := (8, [some (aR 0 32), some (aI lo), some (aI hi), none], [aI (ob 6), aI (nI p)], (C, dm s a v t ld ob, E))) rfl trivial ?_
  rw [h6]
  refine z_Ev_blk 1 (c' := ((if (nI c) ≤ (nI p) then 23 else 11), [some (aR 0 32), some (aI lo), some (aI hi), none], [], (C, dm s a v t ld ob, E))) rfl trivial ?_
  refine z_Ev_else (nI_ge hp (by omega)) ?_
  refine z_Ev_blk 4 (c' := (19, [some (aR 0 32), some (aI lo), some (aI hi), none], [aI (ob 13), aR 0 36], (C, dm s a v t ld ob, E))) rfl trivial ?_
  rw [h13]
  refine z_Ev_blk 1 (c' := (20, [some (aR 0 32), some (aI lo), some (aI hi), none], [aI (t ((nI p).toNatClampNeg))], (C, dm s a v t ld ob, E))) rfl ⟨(inb_nI (show p < 60 by omega) (by decide)), trivial⟩ ?_
  rw [nI_clamp (show p < 2 ^ 31 by omega)]
  refine z_Ev_blk 5 (c' := (30, [some (aR 0 32), some (aI lo), some (aI hi), some (aI (t p))], [aI (ob 14), aR 0 32], (C, dm s a v t ld ob, E))) rfl trivial ?_
  rw [h14]
  refine z_Ev_blk 1 (c' := ((if (0 : Int32) = 0 then 33 else 42), [some (aR 0 32), some (aI lo), some (aI hi), some (aI (t p))], [aR 0 32], (C, dm s a v t ld ob, E))) rfl trivial ?_
  refine z_Ev_if (by decide) ?_
  refine z_Ev_blk 3 (c' := (36, [some (aR 0 32), some (aI lo), some (aI hi), some (aI (t p))], [aI hi, aI lo, aI (t p), aR 0 32], (C, dm s a v t ld ob, E))) rfl trivial ?_
  refine z_Ev_call0 (m' := m_X5_in) (as := [aI (t p), aI lo, aI hi]) (r := [aR 0 32]) ((by have q := e_in (xs := xs) (L := L) (t p) lo hi C (dm s a v t ld ob) E; rw [f_b_t hin] at q; exact q)) rfl rfl ?_
  refine z_Ev_blk 1 (c' := ((if (1 : Int32) = 0 then 42 else 46), [some (aR 0 32), some (aI lo), some (aI hi), some (aI (t p))], [aR 0 32], (C, dm s a v t ld ob, E))) rfl trivial ?_
  refine z_Ev_else (by decide) ?_
  refine z_Ev_blk 2 (c' := (50, [some (aR 0 32), some (aI lo), some (aI hi), some (aI (t p))], [], (C, up2 (dm s a v t ld ob) 32 14 (0 : Int32), E))) rfl ⟨rfl, trivial⟩ ?_
  rw [dm_32]
  refine z_Ev_blk 3 (c' := (55, [some (aR 0 32), some (aI lo), some (aI hi), some (aI (t p))], [aI (ob 13), aR 0 32], (C, dm s a v t ld (upd ob 14 (0 : Int32)), E))) rfl trivial ?_
  rw [h13]
  refine z_Ev_blk 3 (c' := ((if (0 : Int32) = 0 then 66 else 62), [some (aR 0 32), some (aI lo), some (aI hi), some (aI (t p))], [aI (nI p), aR 0 32], (C, dm s a v t ld (upd ob 14 (0 : Int32)), E))) rfl trivial ?_
  refine z_Ev_if (by decide) ?_
  refine z_Ev_blk 3 (c' := (71, [some (aR 0 32), some (aI lo), some (aI hi), some (aI (t p))], [], (C, up2 (dm s a v t ld (upd ob 14 (0 : Int32))) 32 13 ((nI p) + (1 : Int32)), E))) rfl trivial ?_
  rw [dm_32]
  refine z_Ev_blk 1 (c' := (72, [some (aR 0 32), some (aI lo), some (aI hi), some (aI (t p))], [aI (t p)], (C, dm s a v t ld (upd (upd ob 14 (0 : Int32)) 13 ((nI p) + (1 : Int32))), E))) rfl trivial ?_
  exact z_Ev_iretE rfl rfl (by rfl) (by first | rfl | (rw [nI_1]; done) | (rw [Int32.add_zero]; done))
theorem g_sign_bad {xs : Nat → Int32} {L : Nat} (p c : Nat) (lo hi : Int32) (C : Nat → Nat → Nat → Int32) (s a v t ld ob : Nat → Int32) (E : Nat → Int64) (h6 : ob 6 = nI c) (h13 : ob 13 = nI p) (hc : c ≤ 60) (h14 : ob 14 = 0) (hp : p < c) (hin : ¬ (lo ≤ t p ∧ t p ≤ hi)) : z_Mt xs L m_X5_sign [aR 0 32, aI lo, aI hi] (C, dm s a v t ld ob, E) (.inl (some (aI (t p)))) (C, dm s a v t ld (upd (upd ob 14 1) 13 (nI p)), E) 0 := by
  refine z_Ev_blk 2 (c' := (4, [some (aR 0 32), some (aI lo), some (aI hi), none], [aI (ob 13)], (C, dm s a v t ld ob, E))) rfl trivial ?_
  rw [h13]
  refine z_Ev_blk 2 (c' := (8, [some (aR 0 32), some (aI lo), some (aI hi), none], [aI (ob 6), aI (nI p)], (C, dm s a v t ld ob, E))) rfl trivial ?_
  rw [h6]
  refine z_Ev_blk 1 (c' := ((if (nI c) ≤ (nI p) then 23 else 11), [some (aR 0 32), some (aI lo), some (aI hi), none], [], (C, dm s a v t ld ob, E))) rfl trivial ?_
  refine z_Ev_else (nI_ge hp (by omega)) ?_
  refine z_Ev_blk 4 (c' := (19, [some (aR 0 32), some (aI lo), some (aI hi), none], [aI (ob 13), aR 0 36], (C, dm s a v t ld ob, E))) rfl trivial ?_
  rw [h13]
  refine z_Ev_blk 1 (c' := (20, [some (aR 0 32), some (aI lo), some (aI hi), none], [aI (t ((nI p).toNatClampNeg))], (C, dm s a v t ld ob, E))) rfl ⟨(inb_nI (show p < 60 by omega) (by decide)), trivial⟩ ?_
  rw [nI_clamp (show p < 2 ^ 31 by omega)]
  refine z_Ev_blk 5 (c' := (30, [some (aR 0 32), some (aI lo), some (aI hi), some (aI (t p))], [aI (ob 14), aR 0 32], (C, dm s a v t ld ob, E))) rfl trivial ?_
  rw [h14]
  refine z_Ev_blk 1 (c' := ((if (0 : Int32) = 0 then 33 else 42), [some (aR 0 32), some (aI lo), some (aI hi), some (aI (t p))], [aR 0 32], (C, dm s a v t ld ob, E))) rfl trivial ?_
  refine z_Ev_if (by decide) ?_
  refine z_Ev_blk 3 (c' := (36, [some (aR 0 32), some (aI lo), some (aI hi), some (aI (t p))], [aI hi, aI lo, aI (t p), aR 0 32], (C, dm s a v t ld ob, E))) rfl trivial ?_
  refine z_Ev_call0 (m' := m_X5_in) (as := [aI (t p), aI lo, aI hi]) (r := [aR 0 32]) ((by have q := e_in (xs := xs) (L := L) (t p) lo hi C (dm s a v t ld ob) E; rw [f_b_f hin] at q; exact q)) rfl rfl ?_
  refine z_Ev_blk 1 (c' := ((if (0 : Int32) = 0 then 42 else 46), [some (aR 0 32), some (aI lo), some (aI hi), some (aI (t p))], [aR 0 32], (C, dm s a v t ld ob, E))) rfl trivial ?_
  refine z_Ev_if (by decide) ?_
  refine z_Ev_blk 3 (c' := (50, [some (aR 0 32), some (aI lo), some (aI hi), some (aI (t p))], [], (C, up2 (dm s a v t ld ob) 32 14 (1 : Int32), E))) rfl ⟨rfl, trivial⟩ ?_
  rw [dm_32]
  refine z_Ev_blk 3 (c' := (55, [some (aR 0 32), some (aI lo), some (aI hi), some (aI (t p))], [aI (ob 13), aR 0 32], (C, dm s a v t ld (upd ob 14 (1 : Int32)), E))) rfl trivial ?_
  rw [h13]
  refine z_Ev_blk 3 (c' := ((if (1 : Int32) = 0 then 66 else 62), [some (aR 0 32), some (aI lo), some (aI hi), some (aI (t p))], [aI (nI p), aR 0 32], (C, dm s a v t ld (upd ob 14 (1 : Int32)), E))) rfl trivial ?_
  refine z_Ev_else (by decide) ?_
  refine z_Ev_blk 4 (c' := (71, [some (aR 0 32), some (aI lo), some (aI hi), some (aI (t p))], [], (C, up2 (dm s a v t ld (upd ob 14 (1 : Int32))) 32 13 ((nI p) + (0 : Int32)), E))) rfl trivial ?_
  rw [dm_32]
  refine z_Ev_blk 1 (c' := (72, [some (aR 0 32), some (aI lo), some (aI hi), some (aI (t p))], [aI (t p)], (C, dm s a v t ld (upd (upd ob 14 (1 : Int32)) 13 ((nI p) + (0 : Int32))), E))) rfl trivial ?_
  exact z_Ev_iretE rfl rfl (by rfl) (by first | rfl | (rw [nI_1]; done) | (rw [Int32.add_zero]; done))
theorem g_sign_end {xs : Nat → Int32} {L : Nat} (p c : Nat) (lo hi : Int32) (C : Nat → Nat → Nat → Int32) (s a v t ld ob : Nat → Int32) (E : Nat → Int64) (h6 : ob 6 = nI c) (h13 : ob 13 = nI p) (hc : c ≤ 60) (h14 : ob 14 = 0) (hp : c ≤ p) (hp2 : p ≤ 60) (hin : ¬ (lo ≤ 0 ∧ 0 ≤ hi)) : z_Mt xs L m_X5_sign [aR 0 32, aI lo, aI hi] (C, dm s a v t ld ob, E) (.inl (some (aI (0)))) (C, dm s a v t ld (upd (upd ob 14 1) 13 (nI p)), E) 0 := by
  refine z_Ev_blk 2 (c' := (4, [some (aR 0 32), some (aI lo), some (aI hi), none], [aI (ob 13)], (C, dm s a v t ld ob, E))) rfl trivial ?_
  rw [h13]
  refine z_Ev_blk 2 (c' := (8, [some (aR 0 32), some (aI lo), some (aI hi), none], [aI (ob 6), aI (nI p)], (C, dm s a v t ld ob, E))) rfl trivial ?_
  rw [h6]
  refine z_Ev_blk 1 (c' := ((if (nI c) ≤ (nI p) then 23 else 11), [some (aR 0 32), some (aI lo), some (aI hi), none], [], (C, dm s a v t ld ob, E))) rfl trivial ?_
  refine z_Ev_if (nI_le hp (by omega)) ?_
  refine z_Ev_blk 5 (c' := (30, [some (aR 0 32), some (aI lo), some (aI hi), some (aI (0 : Int32))], [aI (ob 14), aR 0 32], (C, dm s a v t ld ob, E))) rfl trivial ?_
  rw [h14]
  refine z_Ev_blk 1 (c' := ((if (0 : Int32) = 0 then 33 else 42), [some (aR 0 32), some (aI lo), some (aI hi), some (aI (0 : Int32))], [aR 0 32], (C, dm s a v t ld ob, E))) rfl trivial ?_
  refine z_Ev_if (by decide) ?_
  refine z_Ev_blk 3 (c' := (36, [some (aR 0 32), some (aI lo), some (aI hi), some (aI (0 : Int32))], [aI hi, aI lo, aI (0 : Int32), aR 0 32], (C, dm s a v t ld ob, E))) rfl trivial ?_
  refine z_Ev_call0 (m' := m_X5_in) (as := [aI (0 : Int32), aI lo, aI hi]) (r := [aR 0 32]) ((by have q := e_in (xs := xs) (L := L) (0 : Int32) lo hi C (dm s a v t ld ob) E; rw [f_b_f hin] at q; exact q)) rfl rfl ?_
  refine z_Ev_blk 1 (c' := ((if (0 : Int32) = 0 then 42 else 46), [some (aR 0 32), some (aI lo), some (aI hi), some (aI (0 : Int32))], [aR 0 32], (C, dm s a v t ld ob, E))) rfl trivial ?_
  refine z_Ev_if (by decide) ?_
  refine z_Ev_blk 3 (c' := (50, [some (aR 0 32), some (aI lo), some (aI hi), some (aI (0 : Int32))], [], (C, up2 (dm s a v t ld ob) 32 14 (1 : Int32), E))) rfl ⟨rfl, trivial⟩ ?_
  rw [dm_32]
  refine z_Ev_blk 3 (c' := (55, [some (aR 0 32), some (aI lo), some (aI hi), some (aI (0 : Int32))], [aI (ob 13), aR 0 32], (C, dm s a v t ld (upd ob 14 (1 : Int32)), E))) rfl trivial ?_
  rw [h13]
  refine z_Ev_blk 3 (c' := ((if (1 : Int32) = 0 then 66 else 62), [some (aR 0 32), some (aI lo), some (aI hi), some (aI (0 : Int32))], [aI (nI p), aR 0 32], (C, dm s a v t ld (upd ob 14 (1 : Int32)), E))) rfl trivial ?_
  refine z_Ev_else (by decide) ?_
  refine z_Ev_blk 4 (c' := (71, [some (aR 0 32), some (aI lo), some (aI hi), some (aI (0 : Int32))], [], (C, up2 (dm s a v t ld (upd ob 14 (1 : Int32))) 32 13 ((nI p) + (0 : Int32)), E))) rfl trivial ?_
  rw [dm_32]
  refine z_Ev_blk 1 (c' := (72, [some (aR 0 32), some (aI lo), some (aI hi), some (aI (0 : Int32))], [aI (0 : Int32)], (C, dm s a v t ld (upd (upd ob 14 (1 : Int32)) 13 ((nI p) + (0 : Int32))), E))) rfl trivial ?_
  exact z_Ev_iretE rfl rfl (by rfl) (by first | rfl | (rw [nI_1]; done) | (rw [Int32.add_zero]; done))
theorem g_sign_wl {xs : Nat → Int32} {L : Nat} (p c : Nat) (lo hi : Int32) (C : Nat → Nat → Nat → Int32) (s a v t ld ob : Nat → Int32) (E : Nat → Int64) (h6 : ob 6 = nI c) (h13 : ob 13 = nI p) (hc : c ≤ 60) (h14 : ob 14 = 1) (hp : p < c) : z_Mt xs L m_X5_sign [aR 0 32, aI lo, aI hi] (C, dm s a v t ld ob, E) (.inl (some (aI (t p)))) (C, dm s a v t ld (upd (upd ob 14 1) 13 (nI p)), E) 0 := by
  refine z_Ev_blk 2 (c' := (4, [some (aR 0 32), some (aI lo), some (aI hi), none], [aI (ob 13)], (C, dm s a v t ld ob, E))) rfl trivial ?_
  rw [h13]
  refine z_Ev_blk 2 (c' := (8, [some (aR 0 32), some (aI lo), some (aI hi), none], [aI (ob 6), aI (nI p)], (C, dm s a v t ld ob, E))) rfl trivial ?_
  rw [h6]
  refine z_Ev_blk 1 (c' := ((if (nI c) ≤ (nI p) then 23 else 11), [some (aR 0 32), some (aI lo), some (aI hi), none], [], (C, dm s a v t ld ob, E))) rfl trivial ?_
  refine z_Ev_else (nI_ge hp (by omega)) ?_
  refine z_Ev_blk 4 (c' := (19, [some (aR 0 32), some (aI lo), some (aI hi), none], [aI (ob 13), aR 0 36], (C, dm s a v t ld ob, E))) rfl trivial ?_
  rw [h13]
  refine z_Ev_blk 1 (c' := (20, [some (aR 0 32), some (aI lo), some (aI hi), none], [aI (t ((nI p).toNatClampNeg))], (C, dm s a v t ld ob, E))) rfl ⟨(inb_nI (show p < 60 by omega) (by decide)), trivial⟩ ?_
  rw [nI_clamp (show p < 2 ^ 31 by omega)]
  refine z_Ev_blk 5 (c' := (30, [some (aR 0 32), some (aI lo), some (aI hi), some (aI (t p))], [aI (ob 14), aR 0 32], (C, dm s a v t ld ob, E))) rfl trivial ?_
  rw [h14]
  refine z_Ev_blk 1 (c' := ((if (1 : Int32) = 0 then 33 else 42), [some (aR 0 32), some (aI lo), some (aI hi), some (aI (t p))], [aR 0 32], (C, dm s a v t ld ob, E))) rfl trivial ?_
  refine z_Ev_else (by decide) ?_
  refine z_Ev_blk 3 (c' := (50, [some (aR 0 32), some (aI lo), some (aI hi), some (aI (t p))], [], (C, up2 (dm s a v t ld ob) 32 14 (1 : Int32), E))) rfl ⟨rfl, trivial⟩ ?_
  rw [dm_32]
  refine z_Ev_blk 3 (c' := (55, [some (aR 0 32), some (aI lo), some (aI hi), some (aI (t p))], [aI (ob 13), aR 0 32], (C, dm s a v t ld (upd ob 14 (1 : Int32)), E))) rfl trivial ?_
  rw [h13]
  refine z_Ev_blk 3 (c' := ((if (1 : Int32) = 0 then 66 else 62), [some (aR 0 32), some (aI lo), some (aI hi), some (aI (t p))], [aI (nI p), aR 0 32], (C, dm s a v t ld (upd ob 14 (1 : Int32)), E))) rfl trivial ?_
  refine z_Ev_else (by decide) ?_
  refine z_Ev_blk 4 (c' := (71, [some (aR 0 32), some (aI lo), some (aI hi), some (aI (t p))], [], (C, up2 (dm s a v t ld (upd ob 14 (1 : Int32))) 32 13 ((nI p) + (0 : Int32)), E))) rfl trivial ?_
  rw [dm_32]
  refine z_Ev_blk 1 (c' := (72, [some (aR 0 32), some (aI lo), some (aI hi), some (aI (t p))], [aI (t p)], (C, dm s a v t ld (upd (upd ob 14 (1 : Int32)) 13 ((nI p) + (0 : Int32))), E))) rfl trivial ?_
  exact z_Ev_iretE rfl rfl (by rfl) (by first | rfl | (rw [nI_1]; done) | (rw [Int32.add_zero]; done))
theorem g_sign_we {xs : Nat → Int32} {L : Nat} (p c : Nat) (lo hi : Int32) (C : Nat → Nat → Nat → Int32) (s a v t ld ob : Nat → Int32) (E : Nat → Int64) (h6 : ob 6 = nI c) (h13 : ob 13 = nI p) (hc : c ≤ 60) (h14 : ob 14 = 1) (hp : c ≤ p) (hp2 : p ≤ 60) : z_Mt xs L m_X5_sign [aR 0 32, aI lo, aI hi] (C, dm s a v t ld ob, E) (.inl (some (aI (0)))) (C, dm s a v t ld (upd (upd ob 14 1) 13 (nI p)), E) 0 := by
  refine z_Ev_blk 2 (c' := (4, [some (aR 0 32), some (aI lo), some (aI hi), none], [aI (ob 13)], (C, dm s a v t ld ob, E))) rfl trivial ?_
  rw [h13]
  refine z_Ev_blk 2 (c' := (8, [some (aR 0 32), some (aI lo), some (aI hi), none], [aI (ob 6), aI (nI p)], (C, dm s a v t ld ob, E))) rfl trivial ?_
  rw [h6]
  refine z_Ev_blk 1 (c' := ((if (nI c) ≤ (nI p) then 23 else 11), [some (aR 0 32), some (aI lo), some (aI hi), none], [], (C, dm s a v t ld ob, E))) rfl trivial ?_
  refine z_Ev_if (nI_le hp (by omega)) ?_
  refine z_Ev_blk 5 (c' := (30, [some (aR 0 32), some (aI lo), some (aI hi), some (aI (0 : Int32))], [aI (ob 14), aR 0 32], (C, dm s a v t ld ob, E))) rfl trivial ?_
  rw [h14]
  refine z_Ev_blk 1 (c' := ((if (1 : Int32) = 0 then 33 else 42), [some (aR 0 32), some (aI lo), some (aI hi), some (aI (0 : Int32))], [aR 0 32], (C, dm s a v t ld ob, E))) rfl trivial ?_
  refine z_Ev_else (by decide) ?_
  refine z_Ev_blk 3 (c' := (50, [some (aR 0 32), some (aI lo), some (aI hi), some (aI (0 : Int32))], [], (C, up2 (dm s a v t ld ob) 32 14 (1 : Int32), E))) rfl ⟨rfl, trivial⟩ ?_
  rw [dm_32]
  refine z_Ev_blk 3 (c' := (55, [some (aR 0 32), some (aI lo), some (aI hi), some (aI (0 : Int32))], [aI (ob 13), aR 0 32], (C, dm s a v t ld (upd ob 14 (1 : Int32)), E))) rfl trivial ?_
  rw [h13]
  refine z_Ev_blk 3 (c' := ((if (1 : Int32) = 0 then 66 else 62), [some (aR 0 32), some (aI lo), some (aI hi), some (aI (0 : Int32))], [aI (nI p), aR 0 32], (C, dm s a v t ld (upd ob 14 (1 : Int32)), E))) rfl trivial ?_
  refine z_Ev_else (by decide) ?_
  refine z_Ev_blk 4 (c' := (71, [some (aR 0 32), some (aI lo), some (aI hi), some (aI (0 : Int32))], [], (C, up2 (dm s a v t ld (upd ob 14 (1 : Int32))) 32 13 ((nI p) + (0 : Int32)), E))) rfl trivial ?_
  rw [dm_32]
  refine z_Ev_blk 1 (c' := (72, [some (aR 0 32), some (aI lo), some (aI hi), some (aI (0 : Int32))], [aI (0 : Int32)], (C, dm s a v t ld (upd (upd ob 14 (1 : Int32)) 13 ((nI p) + (0 : Int32))), E))) rfl trivial ?_
  exact z_Ev_iretE rfl rfl (by rfl) (by first | rfl | (rw [nI_1]; done) | (rw [Int32.add_zero]; done))
theorem n_sign {xs : Nat → Int32} {L : Nat} (p c : Nat) (lo hi : Int32) (C : Nat → Nat → Nat → Int32) (s a v t ld ob : Nat → Int32) (E : Nat → Int64) (h6 : ob 6 = nI c) (h13 : ob 13 = nI p) (hc : c ≤ 60) (hp : p ≤ c) (h14 : ob 14 = 0) (hlo : 0 < lo) : (p < c ∧ lo ≤ t p ∧ t p ≤ hi → z_Mt xs L m_X5_sign [aR 0 32, aI lo, aI hi] (C, dm s a v t ld ob, E) (.inl (some (aI (t p)))) (C, dm s a v t ld (upd (upd ob 14 0) 13 (nI (p + 1))), E) 0) ∧ (¬ (p < c ∧ lo ≤ t p ∧ t p ≤ hi) → ∃ y : Int32, z_Mt xs L m_X5_sign [aR 0 32, aI lo, aI hi] (C, dm s a v t ld ob, E) (.inl (some (aI y))) (C, dm s a v t ld (upd (upd ob 14 1) 13 (nI p)), E) 0) := by
  refine ⟨fun h => g_sign_ok p c lo hi C s a v t ld ob E h6 h13 hc h14 h.1 h.2, fun h => ?_⟩
  by_cases q : p < c
  · exact ⟨_, g_sign_bad p c lo hi C s a v t ld ob E h6 h13 hc h14 q (fun z => h ⟨q, z⟩)⟩
  · exact ⟨_, g_sign_end p c lo hi C s a v t ld ob E h6 h13 hc h14 (by omega) (by omega) (fun z => absurd z.1 (Int32.not_le.mpr hlo))⟩
theorem n_signW {xs : Nat → Int32} {L : Nat} (p c : Nat) (lo hi : Int32) (C : Nat → Nat → Nat → Int32) (s a v t ld ob : Nat → Int32) (E : Nat → Int64) (h6 : ob 6 = nI c) (h13 : ob 13 = nI p) (hc : c ≤ 60) (hp : p ≤ c) (h14 : ob 14 = 1) : ∃ y : Int32, z_Mt xs L m_X5_sign [aR 0 32, aI lo, aI hi] (C, dm s a v t ld ob, E) (.inl (some (aI y))) (C, dm s a v t ld (upd (upd ob 14 1) 13 (nI p)), E) 0 := by
  by_cases q : p < c
  · exact ⟨_, g_sign_wl p c lo hi C s a v t ld ob E h6 h13 hc h14 q⟩
  · exact ⟨_, g_sign_we p c lo hi C s a v t ld ob E h6 h13 hc h14 (by omega) (by omega)⟩
theorem nu_1 {xs : Nat → Int32} {L : Nat} {o : z_Rs} {M' : Mem} {kk : Nat} (p c : Nat) (least most x : Int32) (C : Nat → Nat → Nat → Int32) (s a v t ld ob : Nat → Int32) (E : Nat → Int64) (h6 : ob 6 = nI c) (h13 : ob 13 = nI p) (hc : c ≤ 60) (h14 : ob 14 = 0) (hp : p < c) (hv : 0 < x) (hin : 48 ≤ t p ∧ t p ≤ 57) (hm : 10 * x + t p - 48 ≤ most) (K : z_Ev xs L m_X5_number (14, [some (aR 0 32), some (aI least), some (aI most), some (aI (10 * x + t p - 48))], [], (C, dm s a v t ld (upd (upd ob 14 0) 13 (nI (p + 1))), E)) o M' kk) : z_Ev xs L m_X5_number (14, [some (aR 0 32), some (aI least), some (aI most), some (aI x)], [], (C, dm s a v t ld ob, E)) o M' kk := by
  refine z_Ev_blk 2 (c' := (18, [some (aR 0 32), some (aI least), some (aI most), some (aI x)], [aI (ob 14)], (C, dm s a v t ld ob, E))) rfl trivial ?_
  rw [h14]
  refine z_Ev_blk 1 (c' := ((if (0 : Int32) = 0 then 21 else 96), [some (aR 0 32), some (aI least), some (aI most), some (aI x)], [], (C, dm s a v t ld ob, E))) rfl trivial ?_
  refine z_Ev_if (by decide) ?_
  refine z_Ev_blk 2 (c' := ((if x ≤ 0 then 96 else 25), [some (aR 0 32), some (aI least), some (aI most), some (aI x)], [], (C, dm s a v t ld ob, E))) rfl trivial ?_
  refine z_Ev_else (Int32.not_le.mpr hv) ?_
  refine z_Ev_blk 2 (c' := (29, [some (aR 0 32), some (aI least), some (aI most), some (aI x)], [aI (ob 13)], (C, dm s a v t ld ob, E))) rfl trivial ?_
  rw [h13]
  refine z_Ev_blk 2 (c' := (33, [some (aR 0 32), some (aI least), some (aI most), some (aI x)], [aI (ob 6), aI (nI p)], (C, dm s a v t ld ob, E))) rfl trivial ?_
  rw [h6]
  refine z_Ev_blk 1 (c' := ((if (nI c) ≤ (nI p) then 96 else 36), [some (aR 0 32), some (aI least), some (aI most), some (aI x)], [], (C, dm s a v t ld ob, E))) rfl trivial ?_
  refine z_Ev_else (nI_ge hp (by omega)) ?_
  refine z_Ev_blk 4 (c' := (44, [some (aR 0 32), some (aI least), some (aI most), some (aI x)], [aI (ob 13), aR 0 36], (C, dm s a v t ld ob, E))) rfl trivial ?_
  rw [h13]
  refine z_Ev_blk 1 (c' := (45, [some (aR 0 32), some (aI least), some (aI most), some (aI x)], [aI (t ((nI p).toNatClampNeg))], (C, dm s a v t ld ob, E))) rfl ⟨(inb_nI (show p < 60 by omega) (by decide)), trivial⟩ ?_
  rw [nI_clamp (show p < 2 ^ 31 by omega)]
  refine z_Ev_blk 2 (c' := (49, [some (aR 0 32), some (aI least), some (aI most), some (aI x)], [aI (57 : Int32), aI (48 : Int32), aI (t p)], (C, dm s a v t ld ob, E))) rfl trivial ?_
  refine z_Ev_call0 (m' := m_X5_in) (as := [aI (t p), aI (48 : Int32), aI (57 : Int32)]) (r := []) ((by have q := e_in (xs := xs) (L := L) (t p) (48 : Int32) (57 : Int32) C (dm s a v t ld ob) E; rw [f_b_t hin] at q; exact q)) rfl rfl ?_
  refine z_Ev_blk 1 (c' := ((if (1 : Int32) = 0 then 96 else 55), [some (aR 0 32), some (aI least), some (aI most), some (aI x)], [], (C, dm s a v t ld ob, E))) rfl trivial ?_
  refine z_Ev_else (by decide) ?_
  refine z_Ev_blk 7 (c' := (67, [some (aR 0 32), some (aI least), some (aI most), some (aI x)], [aI (ob 13), aR 0 36, aI ((10 : Int32) * x)], (C, dm s a v t ld ob, E))) rfl trivial ?_
  rw [h13]
  refine z_Ev_blk 1 (c' := (68, [some (aR 0 32), some (aI least), some (aI most), some (aI x)], [aI (t ((nI p).toNatClampNeg)), aI ((10 : Int32) * x)], (C, dm s a v t ld ob, E))) rfl ⟨(inb_nI (show p < 60 by omega) (by decide)), trivial⟩ ?_
  rw [nI_clamp (show p < 2 ^ 31 by omega)]
  refine z_Ev_blk 5 (c' := ((if most < ((((10 : Int32) * x) + (t p)) - (48 : Int32)) then 96 else 76), [some (aR 0 32), some (aI least), some (aI most), some (aI x)], [], (C, dm s a v t ld ob, E))) rfl trivial ?_
  refine z_Ev_else (Int32.not_lt.mpr hm) ?_
  refine z_Ev_blk 6 (c' := (85, [some (aR 0 32), some (aI least), some (aI most), some (aI x)], [aI (57 : Int32), aI (48 : Int32), aR 0 32, aI ((10 : Int32) * x)], (C, dm s a v t ld ob, E))) rfl trivial ?_
  refine z_Ev_call0 (m' := m_X5_sign) (as := [aR 0 32, aI (48 : Int32), aI (57 : Int32)]) (r := [aI ((10 : Int32) * x)]) (g_sign_ok p c 48 57 C s a v t ld ob E h6 h13 hc h14 hp hin) rfl rfl ?_
  refine z_Ev_blk 5 (c' := (14, [some (aR 0 32), some (aI least), some (aI most), some (aI ((((10 : Int32) * x) + (t p)) - (48 : Int32)))], [], (C, dm s a v t ld (upd (upd ob 14 0) 13 (nI (p + 1))), E))) rfl trivial ?_
  refine z_Ev_fgt [true, true, true, true] ?_
  exact z_Ev_eq (c := (14, [some (aR 0 32), some (aI least), some (aI most), some (aI ((((10 : Int32) * x) + (t p)) - (48 : Int32)))], [], (C, dm s a v t ld (upd (upd ob 14 0) 13 (nI (p + 1))), E))) (c' := (14, [some (aR 0 32), some (aI least), some (aI most), some (aI (10 * x + t p - 48))], [], (C, dm s a v t ld (upd (upd ob 14 0) 13 (nI (p + 1))), E))) (by rfl) K
theorem nu_0a {xs : Nat → Int32} {L : Nat} (p c : Nat) (least most x : Int32) (C : Nat → Nat → Nat → Int32) (s a v t ld ob : Nat → Int32) (E : Nat → Int64) (h6 : ob 6 = nI c) (h13 : ob 13 = nI p) (hc : c ≤ 60) (h14 : ob 14 = 0) (hv : x ≤ 0) : z_Ev xs L m_X5_number (14, [some (aR 0 32), some (aI least), some (aI most), some (aI x)], [], (C, dm s a v t ld ob, E)) (.inl (some (aI x))) (C, dm s a v t ld ob, E) 0 := by
  refine z_Ev_blk 2 (c' := (18, [some (aR 0 32), some (aI least), some (aI most), some (aI x)], [aI (ob 14)], (C, dm s a v t ld ob, E))) rfl trivial ?_
  rw [h14]
  refine z_Ev_blk 1 (c' := ((if (0 : Int32) = 0 then 21 else 96), [some (aR 0 32), some (aI least), some (aI most), some (aI x)], [], (C, dm s a v t ld ob, E))) rfl trivial ?_
  refine z_Ev_if (by decide) ?_
  refine z_Ev_blk 2 (c' := ((if x ≤ 0 then 96 else 25), [some (aR 0 32), some (aI least), some (aI most), some (aI x)], [], (C, dm s a v t ld ob, E))) rfl trivial ?_
  refine z_Ev_if (hv) ?_
  refine z_Ev_blk 1 (c' := (97, [some (aR 0 32), some (aI least), some (aI most), some (aI x)], [aI x], (C, dm s a v t ld ob, E))) rfl trivial ?_
  exact z_Ev_iretE rfl rfl (by rfl) (by rfl)
theorem nu_0b {xs : Nat → Int32} {L : Nat} (p c : Nat) (least most x : Int32) (C : Nat → Nat → Nat → Int32) (s a v t ld ob : Nat → Int32) (E : Nat → Int64) (h6 : ob 6 = nI c) (h13 : ob 13 = nI p) (hc : c ≤ 60) (h14 : ob 14 = 0) (hv : 0 < x) (hp : c ≤ p) (hp2 : p ≤ 60) : z_Ev xs L m_X5_number (14, [some (aR 0 32), some (aI least), some (aI most), some (aI x)], [], (C, dm s a v t ld ob, E)) (.inl (some (aI x))) (C, dm s a v t ld ob, E) 0 := by
  refine z_Ev_blk 2 (c' := (18, [some (aR 0 32), some (aI least), some (aI most), some (aI x)], [aI (ob 14)], (C, dm s a v t ld ob, E))) rfl trivial ?_
  rw [h14]
  refine z_Ev_blk 1 (c' := ((if (0 : Int32) = 0 then 21 else 96), [some (aR 0 32), some (aI least), some (aI most), some (aI x)], [], (C, dm s a v t ld ob, E))) rfl trivial ?_
  refine z_Ev_if (by decide) ?_
  refine z_Ev_blk 2 (c' := ((if x ≤ 0 then 96 else 25), [some (aR 0 32), some (aI least), some (aI most), some (aI x)], [], (C, dm s a v t ld ob, E))) rfl trivial ?_
  refine z_Ev_else (Int32.not_le.mpr hv) ?_
  refine z_Ev_blk 2 (c' := (29, [some (aR 0 32), some (aI least), some (aI most), some (aI x)], [aI (ob 13)], (C, dm s a v t ld ob, E))) rfl trivial ?_
  rw [h13]
  refine z_Ev_blk 2 (c' := (33, [some (aR 0 32), some (aI least), some (aI most), some (aI x)], [aI (ob 6), aI (nI p)], (C, dm s a v t ld ob, E))) rfl trivial ?_
  rw [h6]
  refine z_Ev_blk 1 (c' := ((if (nI c) ≤ (nI p) then 96 else 36), [some (aR 0 32), some (aI least), some (aI most), some (aI x)], [], (C, dm s a v t ld ob, E))) rfl trivial ?_
  refine z_Ev_if (nI_le hp (by omega)) ?_
  refine z_Ev_blk 1 (c' := (97, [some (aR 0 32), some (aI least), some (aI most), some (aI x)], [aI x], (C, dm s a v t ld ob, E))) rfl trivial ?_
  exact z_Ev_iretE rfl rfl (by rfl) (by rfl)
theorem nu_0c {xs : Nat → Int32} {L : Nat} (p c : Nat) (least most x : Int32) (C : Nat → Nat → Nat → Int32) (s a v t ld ob : Nat → Int32) (E : Nat → Int64) (h6 : ob 6 = nI c) (h13 : ob 13 = nI p) (hc : c ≤ 60) (h14 : ob 14 = 0) (hv : 0 < x) (hp : p < c) (hin : ¬ (48 ≤ t p ∧ t p ≤ 57)) : z_Ev xs L m_X5_number (14, [some (aR 0 32), some (aI least), some (aI most), some (aI x)], [], (C, dm s a v t ld ob, E)) (.inl (some (aI x))) (C, dm s a v t ld ob, E) 0 := by
  refine z_Ev_blk 2 (c' := (18, [some (aR 0 32), some (aI least), some (aI most), some (aI x)], [aI (ob 14)], (C, dm s a v t ld ob, E))) rfl trivial ?_
  rw [h14]
  refine z_Ev_blk 1 (c' := ((if (0 : Int32) = 0 then 21 else 96), [some (aR 0 32), some (aI least), some (aI most), some (aI x)], [], (C, dm s a v t ld ob, E))) rfl trivial ?_
  refine z_Ev_if (by decide) ?_
  refine z_Ev_blk 2 (c' := ((if x ≤ 0 then 96 else 25), [some (aR 0 32), some (aI least), some (aI most), some (aI x)], [], (C, dm s a v t ld ob, E))) rfl trivial ?_
  refine z_Ev_else (Int32.not_le.mpr hv) ?_
  refine z_Ev_blk 2 (c' := (29, [some (aR 0 32), some (aI least), some (aI most), some (aI x)], [aI (ob 13)], (C, dm s a v t ld ob, E))) rfl trivial ?_
  rw [h13]
  refine z_Ev_blk 2 (c' := (33, [some (aR 0 32), some (aI least), some (aI most), some (aI x)], [aI (ob 6), aI (nI p)], (C, dm s a v t ld ob, E))) rfl trivial ?_
  rw [h6]
  refine z_Ev_blk 1 (c' := ((if (nI c) ≤ (nI p) then 96 else 36), [some (aR 0 32), some (aI least), some (aI most), some (aI x)], [], (C, dm s a v t ld ob, E))) rfl trivial ?_
  refine z_Ev_else (nI_ge hp (by omega)) ?_
  refine z_Ev_blk 4 (c' := (44, [some (aR 0 32), some (aI least), some (aI most), some (aI x)], [aI (ob 13), aR 0 36], (C, dm s a v t ld ob, E))) rfl trivial ?_
  rw [h13]
  refine z_Ev_blk 1 (c' := (45, [some (aR 0 32), some (aI least), some (aI most), some (aI x)], [aI (t ((nI p).toNatClampNeg))], (C, dm s a v t ld ob, E))) rfl ⟨(inb_nI (show p < 60 by omega) (by decide)), trivial⟩ ?_
  rw [nI_clamp (show p < 2 ^ 31 by omega)]
  refine z_Ev_blk 2 (c' := (49, [some (aR 0 32), some (aI least), some (aI most), some (aI x)], [aI (57 : Int32), aI (48 : Int32), aI (t p)], (C, dm s a v t ld ob, E))) rfl trivial ?_
  refine z_Ev_call0 (m' := m_X5_in) (as := [aI (t p), aI (48 : Int32), aI (57 : Int32)]) (r := []) ((by have q := e_in (xs := xs) (L := L) (t p) (48 : Int32) (57 : Int32) C (dm s a v t ld ob) E; rw [f_b_f hin] at q; exact q)) rfl rfl ?_
  refine z_Ev_blk 1 (c' := ((if (0 : Int32) = 0 then 96 else 55), [some (aR 0 32), some (aI least), some (aI most), some (aI x)], [], (C, dm s a v t ld ob, E))) rfl trivial ?_
  refine z_Ev_if (by decide) ?_
  refine z_Ev_blk 1 (c' := (97, [some (aR 0 32), some (aI least), some (aI most), some (aI x)], [aI x], (C, dm s a v t ld ob, E))) rfl trivial ?_
  exact z_Ev_iretE rfl rfl (by rfl) (by rfl)
theorem nu_0d {xs : Nat → Int32} {L : Nat} (p c : Nat) (least most x : Int32) (C : Nat → Nat → Nat → Int32) (s a v t ld ob : Nat → Int32) (E : Nat → Int64) (h6 : ob 6 = nI c) (h13 : ob 13 = nI p) (hc : c ≤ 60) (h14 : ob 14 = 0) (hv : 0 < x) (hp : p < c) (hin : 48 ≤ t p ∧ t p ≤ 57) (hm : ¬ 10 * x + t p - 48 ≤ most) : z_Ev xs L m_X5_number (14, [some (aR 0 32), some (aI least), some (aI most), some (aI x)], [], (C, dm s a v t ld ob, E)) (.inl (some (aI x))) (C, dm s a v t ld ob, E) 0 := by
  refine z_Ev_blk 2 (c' := (18, [some (aR 0 32), some (aI least), some (aI most), some (aI x)], [aI (ob 14)], (C, dm s a v t ld ob, E))) rfl trivial ?_
  rw [h14]
  refine z_Ev_blk 1 (c' := ((if (0 : Int32) = 0 then 21 else 96), [some (aR 0 32), some (aI least), some (aI most), some (aI x)], [], (C, dm s a v t ld ob, E))) rfl trivial ?_
  refine z_Ev_if (by decide) ?_
  refine z_Ev_blk 2 (c' := ((if x ≤ 0 then 96 else 25), [some (aR 0 32), some (aI least), some (aI most), some (aI x)], [], (C, dm s a v t ld ob, E))) rfl trivial ?_
  refine z_Ev_else (Int32.not_le.mpr hv) ?_
  refine z_Ev_blk 2 (c' := (29, [some (aR 0 32), some (aI least), some (aI most), some (aI x)], [aI (ob 13)], (C, dm s a v t ld ob, E))) rfl trivial ?_
  rw [h13]
  refine z_Ev_blk 2 (c' := (33, [some (aR 0 32), some (aI least), some (aI most), some (aI x)], [aI (ob 6), aI (nI p)], (C, dm s a v t ld ob, E))) rfl trivial ?_
  rw [h6]
  refine z_Ev_blk 1 (c' := ((if (nI c) ≤ (nI p) then 96 else 36), [some (aR 0 32), some (aI least), some (aI most), some (aI x)], [], (C, dm s a v t ld ob, E))) rfl trivial ?_
  refine z_Ev_else (nI_ge hp (by omega)) ?_
  refine z_Ev_blk 4 (c' := (44, [some (aR 0 32), some (aI least), some (aI most), some (aI x)], [aI (ob 13), aR 0 36], (C, dm s a v t ld ob, E))) rfl trivial ?_
  rw [h13]
  refine z_Ev_blk 1 (c' := (45, [some (aR 0 32), some (aI least), some (aI most), some (aI x)], [aI (t ((nI p).toNatClampNeg))], (C, dm s a v t ld ob, E))) rfl ⟨(inb_nI (show p < 60 by omega) (by decide)), trivial⟩ ?_
  rw [nI_clamp (show p < 2 ^ 31 by omega)]
  refine z_Ev_blk 2 (c' := (49, [some (aR 0 32), some (aI least), some (aI most), some (aI x)], [aI (57 : Int32), aI (48 : Int32), aI (t p)], (C, dm s a v t ld ob, E))) rfl trivial ?_
  refine z_Ev_call0 (m' := m_X5_in) (as := [aI (t p), aI (48 : Int32), aI (57 : Int32)]) (r := []) ((by have q := e_in (xs := xs) (L := L) (t p) (48 : Int32) (57 : Int32) C (dm s a v t ld ob) E; rw [f_b_t hin] at q; exact q)) rfl rfl ?_
  refine z_Ev_blk 1 (c' := ((if (1 : Int32) = 0 then 96 else 55), [some (aR 0 32), some (aI least), some (aI most), some (aI x)], [], (C, dm s a v t ld ob, E))) rfl trivial ?_
  refine z_Ev_else (by decide) ?_
  refine z_Ev_blk 7 (c' := (67, [some (aR 0 32), some (aI least), some (aI most), some (aI x)], [aI (ob 13), aR 0 36, aI ((10 : Int32) * x)], (C, dm s a v t ld ob, E))) rfl trivial ?_
  rw [h13]
  refine z_Ev_blk 1 (c' := (68, [some (aR 0 32), some (aI least), some (aI most), some (aI x)], [aI (t ((nI p).toNatClampNeg)), aI ((10 : Int32) * x)], (C, dm s a v t ld ob, E))) rfl ⟨(inb_nI (show p < 60 by omega) (by decide)), trivial⟩ ?_
  rw [nI_clamp (show p < 2 ^ 31 by omega)]
  refine z_Ev_blk 5 (c' := ((if most < ((((10 : Int32) * x) + (t p)) - (48 : Int32)) then 96 else 76), [some (aR 0 32), some (aI least), some (aI most), some (aI x)], [], (C, dm s a v t ld ob, E))) rfl trivial ?_
  refine z_Ev_if (Int32.not_le.mp hm) ?_
  refine z_Ev_blk 1 (c' := (97, [some (aR 0 32), some (aI least), some (aI most), some (aI x)], [aI x], (C, dm s a v t ld ob, E))) rfl trivial ?_
  exact z_Ev_iretE rfl rfl (by rfl) (by rfl)
theorem nu_w {xs : Nat → Int32} {L : Nat} (p c : Nat) (least most x : Int32) (C : Nat → Nat → Nat → Int32) (s a v t ld ob : Nat → Int32) (E : Nat → Int64) (h6 : ob 6 = nI c) (h13 : ob 13 = nI p) (hc : c ≤ 60) (h14 : ob 14 = 1)  : z_Ev xs L m_X5_number (14, [some (aR 0 32), some (aI least), some (aI most), some (aI x)], [], (C, dm s a v t ld ob, E)) (.inl (some (aI x))) (C, dm s a v t ld ob, E) 0 := by
  refine z_Ev_blk 2 (c' := (18, [some (aR 0 32), some (aI least), some (aI most), some (aI x)], [aI (ob 14)], (C, dm s a v t ld ob, E))) rfl trivial ?_
  rw [h14]
  refine z_Ev_blk 1 (c' := ((if (1 : Int32) = 0 then 21 else 96), [some (aR 0 32), some (aI least), some (aI most), some (aI x)], [], (C, dm s a v t ld ob, E))) rfl trivial ?_
  refine z_Ev_else (by decide) ?_
  refine z_Ev_blk 1 (c' := (97, [some (aR 0 32), some (aI least), some (aI most), some (aI x)], [aI x], (C, dm s a v t ld ob, E))) rfl trivial ?_
  exact z_Ev_iretE rfl rfl (by rfl) (by rfl)
theorem nu_beg_1 {xs : Nat → Int32} {L : Nat} {o : z_Rs} {M' : Mem} {kk : Nat} (most y : Int32) (OB : Nat → Int32) (C : Nat → Nat → Nat → Int32) (s a v t ld ob : Nat → Int32) (E : Nat → Int64) (hS : z_Mt xs L m_X5_sign [aR 0 32, aI 49, aI 57] (C, dm s a v t ld ob, E) (.inl (some (aI y))) (C, dm s a v t ld OB, E) 0) (K : z_Ev xs L m_X5_number (14, [some (aR 0 32), some (aI (1 : Int32)), some (aI most), some (aI (y - 48))], [], (C, dm s a v t ld OB, E)) o M' kk) : z_Ev xs L m_X5_number (0, [some (aR 0 32), some (aI (1 : Int32)), some (aI most), none], [], (C, dm s a v t ld ob, E)) o M' kk := by
  refine z_Ev_blk 5 (c' := (7, [some (aR 0 32), some (aI (1 : Int32)), some (aI most), none], [aI (57 : Int32), aI (49 : Int32), aR 0 32], (C, dm s a v t ld ob, E))) rfl trivial ?_
  refine z_Ev_call0 (m' := m_X5_sign) (as := [aR 0 32, aI (49 : Int32), aI (57 : Int32)]) (r := []) (hS) rfl rfl ?_
  refine z_Ev_blk 3 (c' := (14, [some (aR 0 32), some (aI (1 : Int32)), some (aI most), some (aI (y - (48 : Int32)))], [], (C, dm s a v t ld OB, E))) rfl trivial ?_
  exact K
theorem nu_beg_0 {xs : Nat → Int32} {L : Nat} {o : z_Rs} {M' : Mem} {kk : Nat} (most y : Int32) (OB : Nat → Int32) (C : Nat → Nat → Nat → Int32) (s a v t ld ob : Nat → Int32) (E : Nat → Int64) (hS : z_Mt xs L m_X5_sign [aR 0 32, aI 48, aI 57] (C, dm s a v t ld ob, E) (.inl (some (aI y))) (C, dm s a v t ld OB, E) 0) (K : z_Ev xs L m_X5_number (14, [some (aR 0 32), some (aI (0 : Int32)), some (aI most), some (aI (y - 48))], [], (C, dm s a v t ld OB, E)) o M' kk) : z_Ev xs L m_X5_number (0, [some (aR 0 32), some (aI (0 : Int32)), some (aI most), none], [], (C, dm s a v t ld ob, E)) o M' kk := by
  refine z_Ev_blk 5 (c' := (7, [some (aR 0 32), some (aI (0 : Int32)), some (aI most), none], [aI (57 : Int32), aI (48 : Int32), aR 0 32], (C, dm s a v t ld ob, E))) rfl trivial ?_
  refine z_Ev_call0 (m' := m_X5_sign) (as := [aR 0 32, aI (48 : Int32), aI (57 : Int32)]) (r := []) (hS) rfl rfl ?_
  refine z_Ev_blk 3 (c' := (14, [some (aR 0 32), some (aI (0 : Int32)), some (aI most), some (aI (y - (48 : Int32)))], [], (C, dm s a v t ld OB, E))) rfl trivial ?_
  exact K
theorem nu_all {xs : Nat → Int32} {L : Nat} (c : Nat) (least most : Int32) (C : Nat → Nat → Nat → Int32) (s a v t ld : Nat → Int32) (E : Nat → Int64) (hc : c ≤ 60) : ∀ (d p : Nat) (x : Int32) (ob : Nat → Int32), p + d = c → ob 6 = nI c → ob 13 = nI p → ob 14 = 0 → ∃ OB : Nat → Int32, OB 13 = nI (nuF t most d p x).2 ∧ OB 14 = 0 ∧ (∀ k, k ≠ 13 → k ≠ 14 → OB k = ob k) ∧ z_Ev xs L m_X5_number (14, [some (aR 0 32), some (aI least), some (aI most), some (aI x)], [], (C, dm s a v t ld ob, E)) (.inl (some (aI (nuF t most d p x).1))) (C, dm s a v t ld OB, E) 0 := by
  intro d
  induction d with
  | zero =>
    intro p x ob hd h6 h13 h14
    refine ⟨ob, h13, h14, fun _ _ _ => rfl, ?_⟩
    by_cases hv : 0 < x
    · exact nu_0b p c least most x C s a v t ld ob E h6 h13 hc h14 hv (by omega) (by omega)
    · exact nu_0a p c least most x C s a v t ld ob E h6 h13 hc h14 (Int32.not_lt.mp hv)
  | succ d ih =>
    intro p x ob hd h6 h13 h14
    unfold nuF
    by_cases q : 0 < x ∧ (48 ≤ t p ∧ t p ≤ 57) ∧ 10 * x + t p - 48 ≤ most
    · rw [if_pos q]
      obtain ⟨hv, hin, hm⟩ := q
      obtain ⟨OB, g1, g2, g3, K⟩ := ih (p + 1) (10 * x + t p - 48) (upd (upd ob 14 0) 13 (nI (p + 1))) (by omega) h6 rfl rfl
      refine ⟨OB, g1, g2, fun k h1 h2 => (g3 k h1 h2).trans ((upd_ne h1).trans (upd_ne h2)), ?_⟩
      exact nu_1 p c least most x C s a v t ld ob E h6 h13 hc h14 (by omega) hv hin hm K
    · rw [if_neg q]
      refine ⟨ob, h13, h14, fun _ _ _ => rfl, ?_⟩
      by_cases hv : 0 < x
      · by_cases hin : 48 ≤ t p ∧ t p ≤ 57
        · exact nu_0d p c least most x C s a v t ld ob E h6 h13 hc h14 hv (by omega) hin (fun z => q ⟨hv, hin, z⟩)
        · exact nu_0c p c least most x C s a v t ld ob E h6 h13 hc h14 hv (by omega) hin
      · exact nu_0a p c least most x C s a v t ld ob E h6 h13 hc h14 (Int32.not_lt.mp hv)
/-- what a number is: read, or wrong at its first sign -/
def NumPost (xs : Nat → Int32) (L : Nat) (C : Nat → Nat → Nat → Int32) (s a v t ld ob : Nat → Int32) (E : Nat → Int64) (least most : Int32) (p : Nat) (r : Option (Int32 × Nat)) : Prop := match r with
  | some q => ∃ OB : Nat → Int32, OB 13 = nI q.2 ∧ OB 14 = 0 ∧ (∀ k, k ≠ 13 → k ≠ 14 → OB k = ob k) ∧ z_Mt xs L m_X5_number [aR 0 32, aI least, aI most] (C, dm s a v t ld ob, E) (.inl (some (aI q.1))) (C, dm s a v t ld OB, E) 0
  | none => ∃ (OB : Nat → Int32) (y : Int32), OB 13 = nI p ∧ OB 14 = 1 ∧ (∀ k, k ≠ 13 → k ≠ 14 → OB k = ob k) ∧ z_Mt xs L m_X5_number [aR 0 32, aI least, aI most] (C, dm s a v t ld ob, E) (.inl (some (aI y))) (C, dm s a v t ld OB, E) 0
theorem n_num1 {xs : Nat → Int32} {L : Nat} (p c : Nat) (most : Int32) (C : Nat → Nat → Nat → Int32) (s a v t ld ob : Nat → Int32) (E : Nat → Int64) (h6 : ob 6 = nI c) (h13 : ob 13 = nI p) (hc : c ≤ 60) (hp : p ≤ c) (h14 : ob 14 = 0) : NumPost xs L C s a v t ld ob E 1 most p (nmF t c 1 most p) := by
  obtain ⟨q1, q2⟩ := n_sign (xs := xs) (L := L) p c 49 57 C s a v t ld ob E h6 h13 hc hp h14 (by decide)
  unfold nmF
  by_cases q : p < c ∧ 49 ≤ t p ∧ t p ≤ 57
  · have q' : p < c ∧ 48 + (1 : Int32) ≤ t p ∧ t p ≤ 57 := q
    rw [if_pos q']
    obtain ⟨OB, g1, g2, g3, K⟩ := nu_all (xs := xs) (L := L) c 1 most C s a v t ld E hc (c - (p + 1)) (p + 1) (t p - 48) (upd (upd ob 14 0) 13 (nI (p + 1))) (by omega) h6 rfl rfl
    exact ⟨OB, g1, g2, fun k h1 h2 => (g3 k h1 h2).trans ((upd_ne h1).trans (upd_ne h2)), nu_beg_1 most _ _ C s a v t ld ob E (q1 q) K⟩
  · have q' : ¬ (p < c ∧ 48 + (1 : Int32) ≤ t p ∧ t p ≤ 57) := q
    rw [if_neg q']
    obtain ⟨y, hS⟩ := q2 q
    exact ⟨_, _, rfl, rfl, fun k h1 h2 => (upd_ne h1).trans (upd_ne h2), nu_beg_1 most _ _ C s a v t ld ob E hS (nu_w p c _ most _ C s a v t ld _ E h6 rfl hc rfl)⟩
theorem n_numW1 {xs : Nat → Int32} {L : Nat} (p c : Nat) (most : Int32) (C : Nat → Nat → Nat → Int32) (s a v t ld ob : Nat → Int32) (E : Nat → Int64) (h6 : ob 6 = nI c) (h13 : ob 13 = nI p) (hc : c ≤ 60) (hp : p ≤ c) (h14 : ob 14 = 1) : ∃ y : Int32, z_Mt xs L m_X5_number [aR 0 32, aI 1, aI most] (C, dm s a v t ld ob, E) (.inl (some (aI y))) (C, dm s a v t ld (upd (upd ob 14 1) 13 (nI p)), E) 0 := by
  obtain ⟨y, hS⟩ := n_signW (xs := xs) (L := L) p c 49 57 C s a v t ld ob E h6 h13 hc hp h14
  exact ⟨_, nu_beg_1 most _ _ C s a v t ld ob E hS (nu_w p c _ most _ C s a v t ld _ E h6 rfl hc rfl)⟩
theorem n_num0 {xs : Nat → Int32} {L : Nat} (p c : Nat) (most : Int32) (C : Nat → Nat → Nat → Int32) (s a v t ld ob : Nat → Int32) (E : Nat → Int64) (h6 : ob 6 = nI c) (h13 : ob 13 = nI p) (hc : c ≤ 60) (hp : p ≤ c) (h14 : ob 14 = 0) : NumPost xs L C s a v t ld ob E 0 most p (nmF t c 0 most p) := by
  obtain ⟨q1, q2⟩ := n_sign (xs := xs) (L := L) p c 48 57 C s a v t ld ob E h6 h13 hc hp h14 (by decide)
  unfold nmF
  by_cases q : p < c ∧ 48 ≤ t p ∧ t p ≤ 57
  · have q' : p < c ∧ 48 + (0 : Int32) ≤ t p ∧ t p ≤ 57 := q
    rw [if_pos q']
    obtain ⟨OB, g1, g2, g3, K⟩ := nu_all (xs := xs) (L := L) c 0 most C s a v t ld E hc (c - (p + 1)) (p + 1) (t p - 48) (upd (upd ob 14 0) 13 (nI (p + 1))) (by omega) h6 rfl rfl
    exact ⟨OB, g1, g2, fun k h1 h2 => (g3 k h1 h2).trans ((upd_ne h1).trans (upd_ne h2)), nu_beg_0 most _ _ C s a v t ld ob E (q1 q) K⟩
  · have q' : ¬ (p < c ∧ 48 + (0 : Int32) ≤ t p ∧ t p ≤ 57) := q
    rw [if_neg q']
    obtain ⟨y, hS⟩ := q2 q
    exact ⟨_, _, rfl, rfl, fun k h1 h2 => (upd_ne h1).trans (upd_ne h2), nu_beg_0 most _ _ C s a v t ld ob E hS (nu_w p c _ most _ C s a v t ld _ E h6 rfl hc rfl)⟩
theorem n_numW0 {xs : Nat → Int32} {L : Nat} (p c : Nat) (most : Int32) (C : Nat → Nat → Nat → Int32) (s a v t ld ob : Nat → Int32) (E : Nat → Int64) (h6 : ob 6 = nI c) (h13 : ob 13 = nI p) (hc : c ≤ 60) (hp : p ≤ c) (h14 : ob 14 = 1) : ∃ y : Int32, z_Mt xs L m_X5_number [aR 0 32, aI 0, aI most] (C, dm s a v t ld ob, E) (.inl (some (aI y))) (C, dm s a v t ld (upd (upd ob 14 1) 13 (nI p)), E) 0 := by
  obtain ⟨y, hS⟩ := n_signW (xs := xs) (L := L) p c 48 57 C s a v t ld ob E h6 h13 hc hp h14
  exact ⟨_, nu_beg_0 most _ _ C s a v t ld ob E hS (nu_w p c _ most _ C s a v t ld _ E h6 rfl hc rfl)⟩
