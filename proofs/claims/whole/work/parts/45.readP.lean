/-! PURE: the class reads a plan as the model does -/
theorem i_mul10 {v : Int32} (h1 : -2000 ≤ v.toInt) (h2 : v.toInt ≤ 2000) : (10 * v).toInt = 10 * v.toInt := by
  rw [Int32.toInt_mul, show (10 : Int32).toInt = 10 from rfl]
  exact Int.bmod_eq_of_le (by omega) (by omega)
theorem t48 : (48 : Int32).toInt = 48 := rfl
theorem t57 : (57 : Int32).toInt = 57 := rfl
theorem dig_i {x : Int32} (h : 48 ≤ x ∧ x ≤ 57) : 48 ≤ x.toInt ∧ x.toInt ≤ 57 := ⟨i_le.mp h.1, i_le.mp h.2⟩
theorem step_i {v x : Int32} (hv : 0 ≤ v.toInt ∧ v.toInt ≤ 1500) (hx : 48 ≤ x ∧ x ≤ 57) : (10 * v + x - 48).toInt = 10 * v.toInt + x.toInt - 48 := by
  have h := dig_i hx
  have e1 := i_mul10 (v := v) (by omega) (by omega)
  have e2 := i_add (a := 10 * v) (b := x) (by omega) (by omega)
  rw [i_sub (by rw [t48]; omega) (by rw [t48]; omega), e2, e1, t48]
theorem nuF_b {t : Nat → Int32} {most : Int32} {lo : Int} (hm : most.toInt ≤ 1500) : ∀ (d p : Nat) (v : Int32), 0 ≤ lo → lo ≤ v.toInt → v.toInt ≤ most.toInt → lo ≤ (nuF t most d p v).1.toInt ∧ (nuF t most d p v).1.toInt ≤ most.toInt
  | 0, p, v, _, h1, h2 => ⟨h1, h2⟩
  | d + 1, p, v, h0, h1, h2 => by
    unfold nuF
    by_cases q : 0 < v ∧ (48 ≤ t p ∧ t p ≤ 57) ∧ 10 * v + t p - 48 ≤ most
    · rw [if_pos q]
      have e := step_i (v := v) (x := t p) ⟨by omega, by omega⟩ q.2.1
      have h := dig_i q.2.1
      have g := i_le.mp q.2.2
      exact nuF_b hm d (p + 1) _ h0 (by omega) g
    · rw [if_neg q]
      exact ⟨h1, h2⟩
theorem nuF_stop {t : Nat → Int32} {most : Int32} : ∀ (d p : Nat) (v : Int32), (nuF t most d p v).2 = p + d ∨ ¬ (0 < (nuF t most d p v).1 ∧ (48 ≤ t (nuF t most d p v).2 ∧ t (nuF t most d p v).2 ≤ 57) ∧ 10 * (nuF t most d p v).1 + t (nuF t most d p v).2 - 48 ≤ most)
  | 0, p, v => Or.inl rfl
  | d + 1, p, v => by
    unfold nuF
    by_cases q : 0 < v ∧ (48 ≤ t p ∧ t p ≤ 57) ∧ 10 * v + t p - 48 ≤ most
    · rw [if_pos q]
      rcases nuF_stop (t := t) (most := most) d (p + 1) (10 * v + t p - 48) with h | h
      · exact Or.inl (by omega)
      · exact Or.inr h
    · rw [if_neg q]
      exact Or.inr q
theorem v0_iff {v : Int32} (h : 0 ≤ v.toInt) : 0 < v ↔ ¬ v = 0 := by
  rw [i_lt, t0, ← Int32.toInt_inj, t0]; omega
theorem re48 {v x : Int32} : 10 * v + (x - 48) = 10 * v + x - 48 := by grind
theorem ne59 {x : Int32} (h : 48 ≤ x ∧ x ≤ 57) : x ≠ 59 ∧ x ≠ 61 := by
  have q := dig_i h
  refine ⟨fun e => ?_, fun e => ?_⟩ <;> rw [e] at q <;> revert q <;> decide
/-- the awaited numbers: which row, and the most -/
theorem tk_dig {a k : Nat} {x : Int32} {A B C : Nat → Int32} (h0 : a ≠ 0) (hx : 48 ≤ x ∧ x ≤ 57) : tk x (a, k, A, B, C) = dgt a (k - 1) k (x - 48) A B C := by
  unfold tk
  dsimp only
  obtain ⟨e1, e2⟩ := ne59 hx
  rw [if_neg h0, if_neg (fun z => e1 z.1), if_neg (fun z => e2 z.1), if_pos hx]
theorem tk_oth {a k : Nat} {x : Int32} {A B C : Nat → Int32} (h0 : a ≠ 0) (hx : ¬ (48 ≤ x ∧ x ≤ 57)) (h59 : ¬ (x = 59 ∧ (a = 8 ∨ a = 3 ∨ a = 7))) (h61 : ¬ (x = 61 ∧ a = 5)) : tk x (a, k, A, B, C) = none := by
  unfold tk
  dsimp only
  rw [if_neg h0, if_neg h59, if_neg h61, if_neg hx]
theorem tk_59 {a k : Nat} {A B C : Nat → Int32} (h : a = 8 ∨ a = 3 ∨ a = 7) : tk 59 (a, k, A, B, C) = some (0, k, A, B, C) := by
  unfold tk
  dsimp only
  rw [if_neg (by omega), if_pos ⟨rfl, h⟩]
theorem tk_61 {k : Nat} {A B C : Nat → Int32} : tk 61 (5, k, A, B, C) = some (6, k, A, B, C) := rfl
theorem rd_s {t : Nat → Int32} {d p : Nat} {S S' : CS} (h : tk (t p) S = some S') : rdF t (d + 1) p S = rdF t d (p + 1) S' := by
  show (match tk (t p) S with | some S' => rdF t d (p + 1) S' | none => (p, S)) = _
  rw [h]
theorem rd_n {t : Nat → Int32} {d p : Nat} {S : CS} (h : tk (t p) S = none) : rdF t d p S = (p, S) := by
  cases d with
  | zero => rfl
  | succ d =>
    show (match tk (t p) S with | some S' => rdF t d (p + 1) S' | none => (p, S)) = _
    rw [h]
theorem dg_3 {k : Nat} {x : Int32} {A B C : Nat → Int32} (hx : 48 ≤ x ∧ x ≤ 57) : tk x (3, k, A, B, C) = if ¬ B (k - 1) = 0 ∧ 10 * B (k - 1) + (x - 48) ≤ 48 then some (3, k, A, upd B (k - 1) (10 * B (k - 1) + (x - 48)), C) else none := by
  rw [tk_dig (by decide) hx]
  rfl
theorem rd_num3 {t : Nat → Int32} {c k : Nat} {A : Nat → Int32} : ∀ (d p : Nat) (v : Int32) (B C : Nat → Int32), p + d = c → B (k - 1) = v → 0 ≤ v.toInt → v.toInt ≤ 48 → rdF t d p (3, k, A, B, C) = rdF t (c - (nuF t 48 d p v).2) (nuF t 48 d p v).2 (3, k, A, upd B (k - 1) (nuF t 48 d p v).1, C)
  | 0, p, v, B, C, hd, hr, h0, h1 => by
    show rdF t 0 p _ = rdF t (c - p) p (3, k, A, upd B (k - 1) v, C)
    rw [upd_id hr.symm, show c - p = 0 by omega]
  | d + 1, p, v, B, C, hd, hr, h0, h1 => by
    unfold nuF
    by_cases q : 0 < v ∧ (48 ≤ t p ∧ t p ≤ 57) ∧ 10 * v + t p - 48 ≤ 48
    · rw [if_pos q]
      have e := step_i (v := v) (x := t p) ⟨h0, by omega⟩ q.2.1
      have h := dig_i q.2.1
      have g := i_le.mp q.2.2
      have hk : tk (t p) (3, k, A, B, C) = some (3, k, A, upd B (k - 1) (10 * v + t p - 48), C) := by
        rw [dg_3 q.2.1, hr, re48, if_pos ⟨(v0_iff h0).mp q.1, q.2.2⟩]
      rw [rd_s hk, rd_num3 (c := c) d (p + 1) (10 * v + t p - 48) (upd B (k - 1) (10 * v + t p - 48)) C (by omega) upd_at (by omega) g, upd_same]
    · rw [if_neg q, upd_id hr.symm, show c - p = d + 1 by omega]
theorem st_num3 {t : Nat → Int32} {k p : Nat} {v : Int32} {A B C : Nat → Int32} (hr : B (k - 1) = v) (h0 : 0 ≤ v.toInt) (hs : ¬ (0 < v ∧ (48 ≤ t p ∧ t p ≤ 57) ∧ 10 * v + t p - 48 ≤ 48)) (hne : t p ≠ 59) : tk (t p) (3, k, A, B, C) = none := by
  by_cases hx : 48 ≤ t p ∧ t p ≤ 57
  · rw [dg_3 hx, hr, re48, if_neg]
    intro z
    exact hs ⟨(v0_iff h0).mpr z.1, hx, z.2⟩
  · refine tk_oth (by decide) hx (fun z => hne z.1) (fun z => absurd z.2 (by decide))
theorem dg_5 {k : Nat} {x : Int32} {A B C : Nat → Int32} (hx : 48 ≤ x ∧ x ≤ 57) : tk x (5, k, A, B, C) = if ¬ B (k - 1) = 0 ∧ 10 * B (k - 1) + (x - 48) ≤ 47 then some (5, k, A, upd B (k - 1) (10 * B (k - 1) + (x - 48)), C) else none := by
  rw [tk_dig (by decide) hx]
  rfl
theorem rd_num5 {t : Nat → Int32} {c k : Nat} {A : Nat → Int32} : ∀ (d p : Nat) (v : Int32) (B C : Nat → Int32), p + d = c → B (k - 1) = v → 0 ≤ v.toInt → v.toInt ≤ 47 → rdF t d p (5, k, A, B, C) = rdF t (c - (nuF t 47 d p v).2) (nuF t 47 d p v).2 (5, k, A, upd B (k - 1) (nuF t 47 d p v).1, C)
  | 0, p, v, B, C, hd, hr, h0, h1 => by
    show rdF t 0 p _ = rdF t (c - p) p (5, k, A, upd B (k - 1) v, C)
    rw [upd_id hr.symm, show c - p = 0 by omega]
  | d + 1, p, v, B, C, hd, hr, h0, h1 => by
    unfold nuF
    by_cases q : 0 < v ∧ (48 ≤ t p ∧ t p ≤ 57) ∧ 10 * v + t p - 48 ≤ 47
    · rw [if_pos q]
      have e := step_i (v := v) (x := t p) ⟨h0, by omega⟩ q.2.1
      have h := dig_i q.2.1
      have g := i_le.mp q.2.2
      have hk : tk (t p) (5, k, A, B, C) = some (5, k, A, upd B (k - 1) (10 * v + t p - 48), C) := by
        rw [dg_5 q.2.1, hr, re48, if_pos ⟨(v0_iff h0).mp q.1, q.2.2⟩]
      rw [rd_s hk, rd_num5 (c := c) d (p + 1) (10 * v + t p - 48) (upd B (k - 1) (10 * v + t p - 48)) C (by omega) upd_at (by omega) g, upd_same]
    · rw [if_neg q, upd_id hr.symm, show c - p = d + 1 by omega]
theorem st_num5 {t : Nat → Int32} {k p : Nat} {v : Int32} {A B C : Nat → Int32} (hr : B (k - 1) = v) (h0 : 0 ≤ v.toInt) (hs : ¬ (0 < v ∧ (48 ≤ t p ∧ t p ≤ 57) ∧ 10 * v + t p - 48 ≤ 47)) (hne : t p ≠ 61) : tk (t p) (5, k, A, B, C) = none := by
  by_cases hx : 48 ≤ t p ∧ t p ≤ 57
  · rw [dg_5 hx, hr, re48, if_neg]
    intro z
    exact hs ⟨(v0_iff h0).mpr z.1, hx, z.2⟩
  · refine tk_oth (by decide) hx (fun z => absurd z.2 (by decide)) (fun z => hne z.1)
theorem dg_7 {k : Nat} {x : Int32} {A B C : Nat → Int32} (hx : 48 ≤ x ∧ x ≤ 57) : tk x (7, k, A, B, C) = if ¬ C (k - 1) = 0 ∧ 10 * C (k - 1) + (x - 48) ≤ 1500 then some (7, k, A, B, upd C (k - 1) (10 * C (k - 1) + (x - 48))) else none := by
  rw [tk_dig (by decide) hx]
  rfl
theorem rd_num7 {t : Nat → Int32} {c k : Nat} {A : Nat → Int32} : ∀ (d p : Nat) (v : Int32) (B C : Nat → Int32), p + d = c → C (k - 1) = v → 0 ≤ v.toInt → v.toInt ≤ 1500 → rdF t d p (7, k, A, B, C) = rdF t (c - (nuF t 1500 d p v).2) (nuF t 1500 d p v).2 (7, k, A, B, upd C (k - 1) (nuF t 1500 d p v).1)
  | 0, p, v, B, C, hd, hr, h0, h1 => by
    show rdF t 0 p _ = rdF t (c - p) p (7, k, A, B, upd C (k - 1) v)
    rw [upd_id hr.symm, show c - p = 0 by omega]
  | d + 1, p, v, B, C, hd, hr, h0, h1 => by
    unfold nuF
    by_cases q : 0 < v ∧ (48 ≤ t p ∧ t p ≤ 57) ∧ 10 * v + t p - 48 ≤ 1500
    · rw [if_pos q]
      have e := step_i (v := v) (x := t p) ⟨h0, by omega⟩ q.2.1
      have h := dig_i q.2.1
      have g := i_le.mp q.2.2
      have hk : tk (t p) (7, k, A, B, C) = some (7, k, A, B, upd C (k - 1) (10 * v + t p - 48)) := by
        rw [dg_7 q.2.1, hr, re48, if_pos ⟨(v0_iff h0).mp q.1, q.2.2⟩]
      rw [rd_s hk, rd_num7 (c := c) d (p + 1) (10 * v + t p - 48) B (upd C (k - 1) (10 * v + t p - 48)) (by omega) upd_at (by omega) g, upd_same]
    · rw [if_neg q, upd_id hr.symm, show c - p = d + 1 by omega]
theorem st_num7 {t : Nat → Int32} {k p : Nat} {v : Int32} {A B C : Nat → Int32} (hr : C (k - 1) = v) (h0 : 0 ≤ v.toInt) (hs : ¬ (0 < v ∧ (48 ≤ t p ∧ t p ≤ 57) ∧ 10 * v + t p - 48 ≤ 1500)) (hne : t p ≠ 59) : tk (t p) (7, k, A, B, C) = none := by
  by_cases hx : 48 ≤ t p ∧ t p ≤ 57
  · rw [dg_7 hx, hr, re48, if_neg]
    intro z
    exact hs ⟨(v0_iff h0).mpr z.1, hx, z.2⟩
  · refine tk_oth (by decide) hx (fun z => hne z.1) (fun z => absurd z.2 (by decide))
def OrdR (t : Nat → Int32) (c p k : Nat) (A B C : Nat → Int32) (r : Nat ⊕ (Int32 × (Int32 × (Int32 × Nat)))) : Prop := match r with
  | .inl e => (rdF t (c - p) p (0, k, A, B, C)).1 = e ∧ (e = c → ¬ whA (rdF t (c - p) p (0, k, A, B, C)).2.1)
  | .inr q => ∃ a : Nat, whA a ∧ rdF t (c - p) p (0, k, A, B, C) = rdF t (c - q.2.2.2) q.2.2.2 (a, k + 1, upd A k q.1, upd B k q.2.1, upd C k q.2.2.1) ∧ (t q.2.2.2 ≠ 59 → q.2.2.2 < c → tk (t q.2.2.2) (a, k + 1, upd A k q.1, upd B k q.2.1, upd C k q.2.2.1) = none)
theorem nmF_pos {t : Nat → Int32} {c p : Nat} {least most : Int32} : nmF t c least most p = if p < c ∧ 48 + least ≤ t p ∧ t p ≤ 57 then some (nuF t most (c - (p + 1)) (p + 1) (t p - 48)) else none := rfl
theorem sub48 {x : Int32} (h : 48 ≤ x ∧ x ≤ 57) : (x - 48).toInt = x.toInt - 48 := by
  have q := dig_i h
  rw [i_sub (by rw [t48]; omega) (by rw [t48]; omega), t48]
theorem up2s {f : Nat → Int32} {k : Nat} {x y : Int32} : upd (upd f k x) (k + 1 - 1) y = upd f k y := by
  rw [Nat.add_sub_cancel, upd_same]
theorem nwh {a : Nat} (h : a ≠ 8 ∧ a ≠ 3 ∧ a ≠ 7) : ¬ whA a := fun w => w.elim h.1 (fun w => w.elim h.2.1 h.2.2)
/-- what stops at a place where no state takes the sign -/
theorem inl_n {t : Nat → Int32} {c p e : Nat} {S S' : CS} (hr : rdF t (c - p) p S = rdF t (c - e) e S') (hn : e < c → tk (t e) S' = none) (hle : e ≤ c) (hw : ¬ whA S'.1) : (rdF t (c - p) p S).1 = e ∧ (e = c → ¬ whA (rdF t (c - p) p S).2.1) := by
  have h : rdF t (c - e) e S' = (e, S') := by
    by_cases z : e < c
    · exact rd_n (hn z)
    · rw [show c - e = 0 by omega]; rfl
  rw [hr, h]
  exact ⟨rfl, fun _ => hw⟩
theorem l_order {t : Nat → Int32} {c p k : Nat} {A B C : Nat → Int32} (hp : p ≤ c) : OrdR t c p k A B C (moF t c p) := by
  unfold moF
  by_cases h : p < c
  · rw [if_neg (fun z => z h)]
    obtain ⟨d, hd⟩ : ∃ d, c - p = d + 1 := ⟨c - p - 1, by omega⟩
    have hd1 : d = c - (p + 1) := by omega
    have k0 : ∀ (x : Int32) (a : Nat), tk (t p) (0, k, A, B, C) = some (a, k + 1, upd A k x, upd B k 0, upd C k 0) → rdF t (c - p) p (0, k, A, B, C) = rdF t (c - (p + 1)) (p + 1) (a, k + 1, upd A k x, upd B k 0, upd C k 0) := fun x a e => by rw [hd, rd_s e, hd1]
    have tk0 : tk (t p) (0, k, A, B, C) = (if t p = 43 ∨ t p = 45 then some (1, k + 1, upd A k (t p), upd B k 0, upd C k 0) else if t p = 115 then some (8, k + 1, upd A k (t p), upd B k 0, upd C k 0) else if t p = 104 then some (2, k + 1, upd A k (t p), upd B k 0, upd C k 0) else if t p = 102 then some (4, k + 1, upd A k (t p), upd B k 0, upd C k 0) else none) := rfl
    by_cases q1 : t p = 43 ∨ t p = 45
    · rw [if_pos q1]
      have e := k0 (t p) 1 (by rw [tk0, if_pos q1])
      by_cases z : p + 1 < c ∧ 48 ≤ t (p + 1) ∧ t (p + 1) ≤ 51
      · rw [if_pos z]
        have hx : 48 ≤ t (p + 1) ∧ t (p + 1) ≤ 57 := ⟨z.2.1, Int32.le_trans z.2.2 (by decide)⟩
        have z2 := i_le.mp z.2.2
        have t51 : (51 : Int32).toInt = 51 := rfl
        have hs := sub48 hx
        have hdx := dig_i hx
        have e2 : tk (t (p + 1)) (1, k + 1, upd A k (t p), upd B k 0, upd C k 0) = some (8, k + 1, upd A k (t p), upd B k (t (p + 1) - 48), upd C k 0) := by
          rw [tk_dig (by decide) hx]
          show (if 0 ≤ t (p + 1) - 48 ∧ t (p + 1) - 48 ≤ 3 then some (8, k + 1, upd A k (t p), upd (upd B k 0) (k + 1 - 1) (t (p + 1) - 48), upd C k 0) else none) = _
          rw [if_pos ⟨by rw [i_le, hs, t0]; omega, by rw [i_le, hs, show (3 : Int32).toInt = 3 from rfl]; omega⟩, up2s]
        refine ⟨8, Or.inl rfl, ?_, fun hne hl => ?_⟩
        · rw [e, show c - (p + 1) = c - (p + 2) + 1 by omega, rd_s e2]
        · by_cases y : 48 ≤ t (p + 2) ∧ t (p + 2) ≤ 57
          · show tk (t (p + 2)) (8, k + 1, upd A k (t p), upd B k (t (p + 1) - 48), upd C k 0) = none
            rw [tk_dig (by decide) y]
            rfl
          · exact tk_oth (by decide) y (fun w => hne w.1) (fun w => absurd w.2 (by decide))
      · rw [if_neg z]
        refine inl_n e (fun hl => ?_) (by omega) (nwh (a := 1) (by decide))
        by_cases hx : 48 ≤ t (p + 1) ∧ t (p + 1) ≤ 57
        · rw [tk_dig (by decide) hx]
          show (if 0 ≤ t (p + 1) - 48 ∧ t (p + 1) - 48 ≤ 3 then some (8, k + 1, upd A k (t p), upd (upd B k 0) (k + 1 - 1) (t (p + 1) - 48), upd C k 0) else none) = none
          rw [if_neg]
          intro w
          refine z ⟨hl, hx.1, ?_⟩
          have hs := sub48 hx
          have w2 := i_le.mp w.2
          rw [hs, show (3 : Int32).toInt = 3 from rfl] at w2
          rw [i_le, show (51 : Int32).toInt = 51 from rfl]; omega
        · exact tk_oth (by decide) hx (fun w => absurd w.2 (by decide)) (fun w => absurd w.2 (by decide))
    rw [if_neg q1]
    by_cases q2 : t p = 115
    · rw [if_pos q2]
      have e := k0 (t p) 8 (by rw [tk0, if_neg q1, if_pos q2])
      rw [q2] at e
      refine ⟨8, Or.inl rfl, e, fun hne hl => ?_⟩
      by_cases y : 48 ≤ t (p + 1) ∧ t (p + 1) ≤ 57
      · show tk (t (p + 1)) (8, k + 1, upd A k 115, upd B k 0, upd C k 0) = none
        rw [tk_dig (by decide) y]
        rfl
      · exact tk_oth (by decide) y (fun w => hne w.1) (fun w => absurd w.2 (by decide))
    rw [if_neg q2]
    by_cases q3 : t p = 104
    · rw [if_pos q3]
      have e := k0 (t p) 2 (by rw [tk0, if_neg q1, if_neg q2, if_pos q3])
      rw [q3] at e
      have t9 : (48 : Int32) + 1 = 49 := rfl
      by_cases z : p + 1 < c ∧ 48 + 1 ≤ t (p + 1) ∧ t (p + 1) ≤ 57
      · have hx : 48 ≤ t (p + 1) ∧ t (p + 1) ≤ 57 := ⟨Int32.le_trans (by decide) z.2.1, z.2.2⟩
        have hs := sub48 hx
        have hdx := dig_i hx
        have z1 := i_le.mp z.2.1
        rw [show ((48 : Int32) + 1).toInt = 49 from rfl] at z1
        rw [nmF_pos, if_pos z]
        have e2 : tk (t (p + 1)) (2, k + 1, upd A k 104, upd B k 0, upd C k 0) = some (3, k + 1, upd A k 104, upd B k (t (p + 1) - 48), upd C k 0) := by
          rw [tk_dig (by decide) hx]
          show (if 0 < t (p + 1) - 48 then some (3, k + 1, upd A k 104, upd (upd B k 0) (k + 1 - 1) (t (p + 1) - 48), upd C k 0) else none) = _
          rw [if_pos (by rw [i_lt, hs, t0]; omega), up2s]
        have e3 := rd_num3 (t := t) (c := c) (k := k + 1) (A := upd A k 104) (c - (p + 1 + 1)) (p + 1 + 1) (t (p + 1) - 48) (upd B k (t (p + 1) - 48)) (upd C k 0) (by omega) upd_at (by omega) (by omega)
        have hb := nuF_b (t := t) (most := 48) (lo := 1) (by decide) (c - (p + 1 + 1)) (p + 1 + 1) (t (p + 1) - 48) (by omega) (by omega) (by rw [t48]; omega)
        have hst := nuF_stop (t := t) (most := 48) (c - (p + 1 + 1)) (p + 1 + 1) (t (p + 1) - 48)
        rw [up2s] at e3
        refine ⟨3, Or.inr (Or.inl rfl), ?_, fun hne hl => ?_⟩
        · rw [e, show c - (p + 1) = c - (p + 1 + 1) + 1 by omega, rd_s e2]
          exact e3
        · dsimp only at hne hl ⊢
          rcases hst with hst | hst
          · omega
          · exact st_num3 upd_at (by omega) hst hne
      · rw [nmF_pos, if_neg z]
        refine inl_n e (fun hl => ?_) (by omega) (nwh (a := 2) (by decide))
        by_cases hx : 48 ≤ t (p + 1) ∧ t (p + 1) ≤ 57
        · rw [tk_dig (by decide) hx]
          show (if 0 < t (p + 1) - 48 then some (3, k + 1, upd A k 104, upd (upd B k 0) (k + 1 - 1) (t (p + 1) - 48), upd C k 0) else none) = none
          rw [if_neg]
          intro w
          refine z ⟨hl, ?_, hx.2⟩
          have hs := sub48 hx
          have w2 := i_lt.mp w
          rw [hs, t0] at w2
          rw [i_le, show ((48 : Int32) + 1).toInt = 49 from rfl]; omega
        · exact tk_oth (by decide) hx (fun w => absurd w.2 (by decide)) (fun w => absurd w.2 (by decide))
    rw [if_neg q3]
    by_cases q4 : t p = 102
    · rw [if_pos q4]
      have e := k0 (t p) 4 (by rw [tk0, if_neg q1, if_neg q2, if_neg q3, if_pos q4])
      rw [q4] at e
      by_cases z : p + 1 < c ∧ 48 + 0 ≤ t (p + 1) ∧ t (p + 1) ≤ 57
      · have hx : 48 ≤ t (p + 1) ∧ t (p + 1) ≤ 57 := z.2
        have hs := sub48 hx
        have hdx := dig_i hx
        rw [nmF_pos, if_pos z]
        dsimp only
        have e2 : tk (t (p + 1)) (4, k + 1, upd A k 102, upd B k 0, upd C k 0) = some (5, k + 1, upd A k 102, upd B k (t (p + 1) - 48), upd C k 0) := by
          rw [tk_dig (by decide) hx]
          show some (5, k + 1, upd A k 102, upd (upd B k 0) (k + 1 - 1) (t (p + 1) - 48), upd C k 0) = _
          rw [up2s]
        have e3 := rd_num5 (t := t) (c := c) (k := k + 1) (A := upd A k 102) (c - (p + 1 + 1)) (p + 1 + 1) (t (p + 1) - 48) (upd B k (t (p + 1) - 48)) (upd C k 0) (by omega) upd_at (by omega) (by omega)
        have hb := nuF_b (t := t) (most := 47) (lo := 0) (by decide) (c - (p + 1 + 1)) (p + 1 + 1) (t (p + 1) - 48) (by omega) (by omega) (by rw [show (47 : Int32).toInt = 47 from rfl]; omega)
        have hst := nuF_stop (t := t) (most := 47) (c - (p + 1 + 1)) (p + 1 + 1) (t (p + 1) - 48)
        have hle := nuF_le (t := t) (most := 47) (c - (p + 1 + 1)) (p + 1 + 1) (t (p + 1) - 48)
        rw [up2s] at e3
        generalize nuF t 47 (c - (p + 1 + 1)) (p + 1 + 1) (t (p + 1) - 48) = r at e3 hb hst hle ⊢
        have e4 : rdF t (c - p) p (0, k, A, B, C) = rdF t (c - r.2) r.2 (5, k + 1, upd A k 102, upd B k r.1, upd C k 0) := by
          rw [e, show c - (p + 1) = c - (p + 1 + 1) + 1 by omega, rd_s e2]
          exact e3
        by_cases w : r.2 < c ∧ t r.2 = 61
        · rw [if_pos w]
          have e5 : rdF t (c - p) p (0, k, A, B, C) = rdF t (c - (r.2 + 1)) (r.2 + 1) (6, k + 1, upd A k 102, upd B k r.1, upd C k 0) := by
            rw [e4, show c - r.2 = c - (r.2 + 1) + 1 by omega]
            exact rd_s (by rw [w.2]; exact tk_61)
          by_cases y : r.2 + 1 < c ∧ 48 + 0 ≤ t (r.2 + 1) ∧ t (r.2 + 1) ≤ 57
          · have hy : 48 ≤ t (r.2 + 1) ∧ t (r.2 + 1) ≤ 57 := y.2
            have hs2 := sub48 hy
            have hdy := dig_i hy
            rw [nmF_pos, if_pos y]
            dsimp only
            have e6 : tk (t (r.2 + 1)) (6, k + 1, upd A k 102, upd B k r.1, upd C k 0) = some (7, k + 1, upd A k 102, upd B k r.1, upd C k (t (r.2 + 1) - 48)) := by
              rw [tk_dig (by decide) hy]
              show some (7, k + 1, upd A k 102, upd B k r.1, upd (upd C k 0) (k + 1 - 1) (t (r.2 + 1) - 48)) = _
              rw [up2s]
            have e7 := rd_num7 (t := t) (c := c) (k := k + 1) (A := upd A k 102) (c - (r.2 + 1 + 1)) (r.2 + 1 + 1) (t (r.2 + 1) - 48) (upd B k r.1) (upd C k (t (r.2 + 1) - 48)) (by omega) upd_at (by omega) (by omega)
            have hb2 := nuF_b (t := t) (most := 1500) (lo := 0) (by decide) (c - (r.2 + 1 + 1)) (r.2 + 1 + 1) (t (r.2 + 1) - 48) (by omega) (by omega) (by rw [show (1500 : Int32).toInt = 1500 from rfl]; omega)
            have hst2 := nuF_stop (t := t) (most := 1500) (c - (r.2 + 1 + 1)) (r.2 + 1 + 1) (t (r.2 + 1) - 48)
            rw [up2s] at e7
            refine ⟨7, Or.inr (Or.inr rfl), ?_, fun hne hl => ?_⟩
            · rw [e5, show c - (r.2 + 1) = c - (r.2 + 1 + 1) + 1 by omega, rd_s e6]
              exact e7
            · dsimp only at hne hl ⊢
              rcases hst2 with hst2 | hst2
              · omega
              · exact st_num7 upd_at (by omega) hst2 hne
          · rw [nmF_pos, if_neg y]
            refine inl_n e5 (fun hl => ?_) (by omega) (nwh (a := 6) (by decide))
            by_cases hx : 48 ≤ t (r.2 + 1) ∧ t (r.2 + 1) ≤ 57
            · exact absurd ⟨hl, hx⟩ y
            · exact tk_oth (by decide) hx (fun w => absurd w.2 (by decide)) (fun w => absurd w.2 (by decide))
        · rw [if_neg w]
          refine inl_n e4 (fun hl => ?_) (by omega) (nwh (a := 5) (by decide))
          rcases hst with hst | hst
          · omega
          · exact st_num5 upd_at (by omega) hst (fun y => w ⟨hl, y⟩)
      · rw [nmF_pos, if_neg z]
        refine inl_n e (fun hl => ?_) (by omega) (nwh (a := 4) (by decide))
        by_cases hx : 48 ≤ t (p + 1) ∧ t (p + 1) ≤ 57
        · exact absurd ⟨hl, hx⟩ z
        · exact tk_oth (by decide) hx (fun w => absurd w.2 (by decide)) (fun w => absurd w.2 (by decide))
    rw [if_neg q4]
    refine inl_n rfl (fun _ => ?_) hp (nwh (a := 0) (by decide))
    rw [tk0, if_neg q1, if_neg q2, if_neg q3, if_neg q4]
  · rw [if_pos h]
    exact inl_n rfl (fun w => absurd w h) hp (nwh (a := 0) (by decide))
theorem nmF_b {t : Nat → Int32} {c p : Nat} {least most : Int32} {r : Int32 × Nat} (h : nmF t c least most p = some r) (hl : least = 0 ∨ least = 1) (hm : 9 ≤ most.toInt ∧ most.toInt ≤ 1500) : least.toInt ≤ r.1.toInt ∧ r.1.toInt ≤ most.toInt := by
  rw [nmF_pos] at h
  by_cases z : p < c ∧ 48 + least ≤ t p ∧ t p ≤ 57
  · rw [if_pos z] at h
    cases h
    rcases hl with e | e <;> subst e
    · have hx : 48 ≤ t p ∧ t p ≤ 57 := z.2
      have hs := sub48 hx
      have hd := dig_i hx
      exact nuF_b hm.2 _ _ _ (by decide) (by rw [t0]; omega) (by omega)
    · have hx : 48 ≤ t p ∧ t p ≤ 57 := ⟨Int32.le_trans (by decide) z.2.1, z.2.2⟩
      have hs := sub48 hx
      have hd := dig_i hx
      have z1 := i_le.mp z.2.1
      rw [show ((48 : Int32) + 1).toInt = 49 from rfl] at z1
      exact nuF_b hm.2 _ _ _ (by decide) (by rw [t1]; omega) (by omega)
  · rw [if_neg z] at h
    cases h
theorem nI_in2 {x : Int32} {a b : Nat} (h1 : (a : Int) ≤ x.toInt) (h2 : x.toInt ≤ b) (hb : b < 2 ^ 31) : ∃ j : Nat, a ≤ j ∧ j ≤ b ∧ x = nI j := by
  refine ⟨x.toInt.toNat, by omega, by omega, ?_⟩
  rw [← Int32.toInt_inj, nI_toInt (by omega)]
  omega
theorem moF_ok {t : Nat → Int32} {c p : Nat} {q : Int32 × (Int32 × (Int32 × Nat))} (h : moF t c p = .inr q) : ordK q.1 q.2.1 q.2.2.1 := by
  unfold moF at h
  by_cases hp : p < c
  · rw [if_neg (fun z => z hp)] at h
    by_cases q1 : t p = 43 ∨ t p = 45
    · rw [if_pos q1] at h
      by_cases z : p + 1 < c ∧ 48 ≤ t (p + 1) ∧ t (p + 1) ≤ 51
      · rw [if_pos z] at h
        cases h
        have hx : 48 ≤ t (p + 1) ∧ t (p + 1) ≤ 57 := ⟨z.2.1, Int32.le_trans z.2.2 (by decide)⟩
        have z2 := i_le.mp z.2.2
        have t51 : (51 : Int32).toInt = 51 := rfl
        have hs := sub48 hx
        have hdx := dig_i hx
        refine Or.inl ⟨q1, ?_⟩
        obtain ⟨j, j1, j2, e⟩ := nI_in2 (x := t (p + 1) - 48) (a := 0) (b := 3) (by omega) (by omega) (by decide)
        dsimp only
        rw [e]
        have hj : j = 0 ∨ j = 1 ∨ j = 2 ∨ j = 3 := by omega
        rcases hj with e | e | e | e <;> subst e <;> decide
      · rw [if_neg z] at h; cases h
    rw [if_neg q1] at h
    by_cases q2 : t p = 115
    · rw [if_pos q2] at h
      cases h
      exact Or.inr (Or.inl rfl)
    rw [if_neg q2] at h
    by_cases q3 : t p = 104
    · rw [if_pos q3] at h
      cases hn : nmF t c 1 48 (p + 1) with
      | none => rw [hn] at h; cases h
      | some r =>
        rw [hn] at h
        cases h
        have b := nmF_b hn (Or.inr rfl) (by decide)
        obtain ⟨j, j1, j2, e⟩ := nI_in2 (x := r.1) (a := 1) (b := 48) (by rw [t1] at b; omega) (by rw [t48] at b; omega) (by decide)
        exact Or.inr (Or.inr (Or.inl ⟨rfl, j, j1, j2, e⟩))
    rw [if_neg q3] at h
    by_cases q4 : t p = 102
    · rw [if_pos q4] at h
      cases hn : nmF t c 0 47 (p + 1) with
      | none => rw [hn] at h; cases h
      | some r =>
        rw [hn] at h
        dsimp only at h
        by_cases w : r.2 < c ∧ t r.2 = 61
        · rw [if_pos w] at h
          cases hn2 : nmF t c 0 1500 (r.2 + 1) with
          | none => rw [hn2] at h; cases h
          | some y =>
            rw [hn2] at h
            cases h
            have b := nmF_b hn (Or.inl rfl) (by decide)
            have b2 := nmF_b hn2 (Or.inl rfl) (by decide)
            have t47 : (47 : Int32).toInt = 47 := rfl
            have t15 : (1500 : Int32).toInt = 1500 := rfl
            rw [t0, t47] at b
            rw [t0, t15] at b2
            obtain ⟨j, j1, j2, e⟩ := nI_in2 (x := r.1) (a := 0) (b := 47) (by omega) (by omega) (by decide)
            exact Or.inr (Or.inr (Or.inr ⟨rfl, j, by omega, e, b2.1, b2.2⟩))
        · rw [if_neg w] at h; cases h
    rw [if_neg q4] at h
    cases h
  · rw [if_pos hp] at h; cases h
theorem ops_ok {t : Nat → Int32} {c : Nat} : ∀ (f p : Nat) (q : Int32 × (Int32 × Int32)), q ∈ opsF t c f p → ordK q.1 q.2.1 q.2.2
  | 0, _, q, h => by cases h
  | f + 1, p, q, h => by
    unfold opsF at h
    cases hm : moF t c p with
    | inl e => rw [hm] at h; cases h
    | inr r =>
      rw [hm] at h
      rcases List.mem_cons.mp h with e | e
      · subst e; exact moF_ok hm
      · by_cases z : r.2.2.2 < c
        · rw [if_pos z] at e; exact ops_ok f _ q e
        · rw [if_neg z] at e; cases e
def agr : List (Int32 × (Int32 × Int32)) → Nat → (Nat → Int32) → (Nat → Int32) → (Nat → Int32) → Prop
  | [], _, _, _, _ => True
  | q :: r, k, A, B, C => A k = q.1 ∧ B k = q.2.1 ∧ C k = q.2.2 ∧ agr r (k + 1) A B C
/-- the class's reading is the model's -/
theorem l_read {t : Nat → Int32} {c : Nat} : ∀ (f p k : Nat) (A B C : Nat → Int32), c < p + f → p ≤ c →
    ((gfF t c f p).1 = true → (rdF t (c - p) p (0, k, A, B, C)).1 = (gfF t c f p).2 ∧ ((gfF t c f p).2 = c → ¬ whA (rdF t (c - p) p (0, k, A, B, C)).2.1)) ∧
    ((gfF t c f p).1 = false → (gfF t c f p).2 = c ∧ (rdF t (c - p) p (0, k, A, B, C)).1 = c ∧ whA (rdF t (c - p) p (0, k, A, B, C)).2.1 ∧ (rdF t (c - p) p (0, k, A, B, C)).2.2.1 = k + (opsF t c f p).length ∧ agr (opsF t c f p) k (rdF t (c - p) p (0, k, A, B, C)).2.2.2.1 (rdF t (c - p) p (0, k, A, B, C)).2.2.2.2.1 (rdF t (c - p) p (0, k, A, B, C)).2.2.2.2.2 ∧ ∀ i, i < k → (rdF t (c - p) p (0, k, A, B, C)).2.2.2.1 i = A i ∧ (rdF t (c - p) p (0, k, A, B, C)).2.2.2.2.1 i = B i ∧ (rdF t (c - p) p (0, k, A, B, C)).2.2.2.2.2 i = C i) := by
  intro f
  induction f with
  | zero => intro p k A B C h1 h2; omega
  | succ f ih =>
    intro p k A B C h1 hp
    have hO := l_order (t := t) (c := c) (k := k) (A := A) (B := B) (C := C) hp
    have hle := moF_le (t := t) hp
    unfold gfF opsF
    cases hm : moF t c p with
    | inl e =>
      rw [hm] at hO
      exact ⟨fun _ => hO, fun z => by cases z⟩
    | inr q =>
      rw [hm] at hO
      obtain ⟨a, ha, hr, hs⟩ := hO
      have hq := hle.2 q hm
      dsimp only
      by_cases z : q.2.2.2 < c
      · by_cases y : t q.2.2.2 = 59
        · have hr2 : rdF t (c - p) p (0, k, A, B, C) = rdF t (c - (q.2.2.2 + 1)) (q.2.2.2 + 1) (0, k + 1, upd A k q.1, upd B k q.2.1, upd C k q.2.2.1) := by
            rw [hr, show c - q.2.2.2 = c - (q.2.2.2 + 1) + 1 by omega]
            exact rd_s (by rw [y]; exact tk_59 ha)
          obtain ⟨g1, g2⟩ := ih (q.2.2.2 + 1) (k + 1) (upd A k q.1) (upd B k q.2.1) (upd C k q.2.2.1) (by omega) (by omega)
          rw [hr2]
          simp only [if_pos z, if_pos y]
          refine ⟨g1, fun w => ?_⟩
          obtain ⟨f1, f2, f3, f4, f5, f6⟩ := g2 w
          refine ⟨f1, f2, f3, by rw [f4, List.length_cons]; omega, ?_, fun i hi => ?_⟩
          · obtain ⟨u1, u2, u3⟩ := f6 k (by omega)
            exact ⟨by rw [u1, upd_at], by rw [u2, upd_at], by rw [u3, upd_at], f5⟩
          · obtain ⟨u1, u2, u3⟩ := f6 i (by omega)
            exact ⟨by rw [u1, upd_ne (by omega)], by rw [u2, upd_ne (by omega)], by rw [u3, upd_ne (by omega)]⟩
        · have hn := hs y z
          rw [hr, rd_n hn]
          simp only [if_pos z, if_neg y]
          exact ⟨fun _ => ⟨trivial, fun w => by omega⟩, fun w => by cases w⟩
      · have e : q.2.2.2 = c := by omega
        rw [hr, show c - q.2.2.2 = 0 by omega]
        simp only [if_neg z]
        refine ⟨fun w => (by cases w), fun _ => ⟨e, e, ha, rfl, ⟨upd_at, upd_at, upd_at, trivial⟩, fun i hi => ⟨upd_ne (by omega), upd_ne (by omega), upd_ne (by omega)⟩⟩⟩
