/-! THE CLASS: a plan is read -/
abbrev CS : Type := Nat × (Nat × ((Nat → Int32) × ((Nat → Int32) × (Nat → Int32))))
def dgt (a j k : Nat) (d : Int32) (A B C : Nat → Int32) : Option CS :=
  if a = 1 then (if 0 ≤ d ∧ d ≤ 3 then some (8, k, A, upd B j d, C) else none)
  else if a = 2 then (if 0 < d then some (3, k, A, upd B j d, C) else none)
  else if a = 4 then some (5, k, A, upd B j d, C)
  else if a = 6 then some (7, k, A, B, upd C j d)
  else if a = 3 then (if ¬ B j = 0 ∧ 10 * B j + d ≤ 48 then some (3, k, A, upd B j (10 * B j + d), C) else none)
  else if a = 5 then (if ¬ B j = 0 ∧ 10 * B j + d ≤ 47 then some (5, k, A, upd B j (10 * B j + d), C) else none)
  else if a = 7 then (if ¬ C j = 0 ∧ 10 * C j + d ≤ 1500 then some (7, k, A, B, upd C j (10 * C j + d)) else none)
  else none
def whA (a : Nat) : Prop := a = 8 ∨ a = 3 ∨ a = 7
/-- a character is read -/
def tk (x : Int32) (S : CS) : Option CS :=
  if S.1 = 0 then (if x = 43 ∨ x = 45 then some (1, S.2.1 + 1, upd S.2.2.1 S.2.1 x, upd S.2.2.2.1 S.2.1 0, upd S.2.2.2.2 S.2.1 0)
    else if x = 115 then some (8, S.2.1 + 1, upd S.2.2.1 S.2.1 x, upd S.2.2.2.1 S.2.1 0, upd S.2.2.2.2 S.2.1 0)
    else if x = 104 then some (2, S.2.1 + 1, upd S.2.2.1 S.2.1 x, upd S.2.2.2.1 S.2.1 0, upd S.2.2.2.2 S.2.1 0)
    else if x = 102 then some (4, S.2.1 + 1, upd S.2.2.1 S.2.1 x, upd S.2.2.2.1 S.2.1 0, upd S.2.2.2.2 S.2.1 0)
    else none)
  else if x = 59 ∧ (S.1 = 8 ∨ S.1 = 3 ∨ S.1 = 7) then some (0, S.2)
  else if x = 61 ∧ S.1 = 5 then some (6, S.2)
  else if 48 ≤ x ∧ x ≤ 57 then dgt S.1 (S.2.1 - 1) S.2.1 (x - 48) S.2.2.1 S.2.2.2.1 S.2.2.2.2
  else none
def rdF (t : Nat → Int32) : Nat → Nat → CS → Nat × CS
  | 0, p, S => (p, S)
  | d + 1, p, S => match tk (t p) S with
    | some S' => rdF t d (p + 1) S'
    | none => (p, S)
def okS (S : CS) (p : Nat) : Prop := S.1 ≤ 8 ∧ S.2.1 ≤ p ∧ (S.1 ≠ 0 → 0 < S.2.1)
theorem dg_ok {a j k : Nat} {d : Int32} {A B C : Nat → Int32} {S' : CS} (h : dgt a j k d A B C = some S') : S'.1 ≤ 8 ∧ S'.2.1 = k := by
  unfold dgt at h
  by_cases a1 : a = 1
  · rw [if_pos a1] at h
    by_cases q : 0 ≤ d ∧ d ≤ 3
    · rw [if_pos q] at h
      cases h
      exact ⟨by dsimp only; omega, rfl⟩
    · rw [if_neg q] at h
      cases h
  rw [if_neg a1] at h
  by_cases a2 : a = 2
  · rw [if_pos a2] at h
    by_cases q : 0 < d
    · rw [if_pos q] at h
      cases h
      exact ⟨by dsimp only; omega, rfl⟩
    · rw [if_neg q] at h
      cases h
  rw [if_neg a2] at h
  by_cases a4 : a = 4
  · rw [if_pos a4] at h
    cases h
    exact ⟨by dsimp only; omega, rfl⟩
  rw [if_neg a4] at h
  by_cases a6 : a = 6
  · rw [if_pos a6] at h
    cases h
    exact ⟨by dsimp only; omega, rfl⟩
  rw [if_neg a6] at h
  by_cases a3 : a = 3
  · rw [if_pos a3] at h
    by_cases q : ¬ B j = 0 ∧ 10 * B j + d ≤ 48
    · rw [if_pos q] at h
      cases h
      exact ⟨by dsimp only; omega, rfl⟩
    · rw [if_neg q] at h
      cases h
  rw [if_neg a3] at h
  by_cases a5 : a = 5
  · rw [if_pos a5] at h
    by_cases q : ¬ B j = 0 ∧ 10 * B j + d ≤ 47
    · rw [if_pos q] at h
      cases h
      exact ⟨by dsimp only; omega, rfl⟩
    · rw [if_neg q] at h
      cases h
  rw [if_neg a5] at h
  by_cases a7 : a = 7
  · rw [if_pos a7] at h
    by_cases q : ¬ C j = 0 ∧ 10 * C j + d ≤ 1500
    · rw [if_pos q] at h
      cases h
      exact ⟨by dsimp only; omega, rfl⟩
    · rw [if_neg q] at h
      cases h
  rw [if_neg a7] at h
  cases h
theorem tk_ok {x : Int32} {S S' : CS} {p : Nat} (h : tk x S = some S') (hS : okS S p) : okS S' (p + 1) := by
  obtain ⟨a, k, A, B, C⟩ := S
  obtain ⟨h1, h2, h3⟩ := hS
  unfold okS
  dsimp only at h1 h2 h3
  by_cases h0 : a = 0
  · subst h0
    have eq : tk x (0, k, A, B, C) = (if x = 43 ∨ x = 45 then some (1, k + 1, upd A k x, upd B k 0, upd C k 0) else if x = 115 then some (8, k + 1, upd A k x, upd B k 0, upd C k 0) else if x = 104 then some (2, k + 1, upd A k x, upd B k 0, upd C k 0) else if x = 102 then some (4, k + 1, upd A k x, upd B k 0, upd C k 0) else none) := rfl
    rw [eq] at h
    (repeat' split at h) <;> first
      | (cases h; done)
      | (cases h; exact ⟨by dsimp only; omega, by dsimp only; omega, fun _ => Nat.succ_pos _⟩)
  · have eq : tk x (a, k, A, B, C) = (if x = 59 ∧ (a = 8 ∨ a = 3 ∨ a = 7) then some (0, k, A, B, C) else if x = 61 ∧ a = 5 then some (6, k, A, B, C) else if 48 ≤ x ∧ x ≤ 57 then dgt a (k - 1) k (x - 48) A B C else none) := by
      unfold tk
      exact if_neg h0
    rw [eq] at h
    have hk := h3 h0
    by_cases c1 : x = 59 ∧ (a = 8 ∨ a = 3 ∨ a = 7)
    · rw [if_pos c1] at h
      cases h
      exact ⟨by dsimp only; omega, by dsimp only; omega, fun _ => hk⟩
    rw [if_neg c1] at h
    by_cases c2 : x = 61 ∧ a = 5
    · rw [if_pos c2] at h
      cases h
      exact ⟨by dsimp only; omega, by dsimp only; omega, fun _ => hk⟩
    rw [if_neg c2] at h
    by_cases c3 : 48 ≤ x ∧ x ≤ 57
    · rw [if_pos c3] at h
      obtain ⟨g1, g2⟩ := dg_ok h
      exact ⟨g1, by rw [g2]; omega, fun _ => by rw [g2]; exact hk⟩
    rw [if_neg c3] at h
    cases h

def TkPost (xs : Nat → Int32) (L : Nat) (x : Int32) (n t : Nat → Int32) (v : Nat → Nat → Int32) (ld sh o cd pl ka kb kc : Nat → Int32) (D : Nat → Nat → Int32) (E : Nat → Int64) (r : Option CS) : Prop := match r with
  | some S' => ∃ pl' : Nat → Int32, pl' 3 = nI S'.2.1 ∧ pl' 4 = nI S'.1 ∧ z_Mt xs L m_X2_takes [aR 0 19, aI x] (cm n t v ld sh o cd pl ka kb kc, D, E) (.inl (some (aI 1))) (cm n t v ld sh o cd pl' S'.2.2.1 S'.2.2.2.1 S'.2.2.2.2, D, E) 0
  | none => z_Mt xs L m_X2_takes [aR 0 19, aI x] (cm n t v ld sh o cd pl ka kb kc, D, E) (.inl (some (aI 0))) (cm n t v ld sh o cd pl ka kb kc, D, E) 0
theorem c_tk {xs : Nat → Int32} {L : Nat} (a k : Nat) (x : Int32) (n t : Nat → Int32) (v : Nat → Nat → Int32) (ld sh o cd pl ka kb kc : Nat → Int32) (D : Nat → Nat → Int32) (E : Nat → Int64) (e3 : pl 3 = nI k) (e4 : pl 4 = nI a) (ha : a ≤ 8) (hk : k ≤ 60) (hk0 : a = 0 → k < 60) (hk1 : a ≠ 0 → 0 < k) : TkPost xs L x n t v ld sh o cd pl ka kb kc D E (tk x (a, k, ka, kb, kc)) := by
  by_cases h0 : a = 0
  · subst h0
    have hj := hk0 rfl
    have e4' : pl 4 = 0 := e4
    have eq : tk x (0, k, ka, kb, kc) = (if x = 43 ∨ x = 45 then some (1, k + 1, upd ka k x, upd kb k 0, upd kc k 0) else if x = 115 then some (8, k + 1, upd ka k x, upd kb k 0, upd kc k 0) else if x = 104 then some (2, k + 1, upd ka k x, upd kb k 0, upd kc k 0) else if x = 102 then some (4, k + 1, upd ka k x, upd kb k 0, upd kc k 0) else none) := rfl
    rw [eq]
    by_cases q1 : x = 43
    · subst q1
      exact ⟨upd (upd pl 4 1) 3 (nI (k + 1)), rfl, rfl, p_t0_43 k n t v ld sh o cd pl ka kb kc D E hj e3 e4'⟩
    by_cases q2 : x = 45
    · subst q2
      exact ⟨upd (upd pl 4 1) 3 (nI (k + 1)), rfl, rfl, p_t0_45 k n t v ld sh o cd pl ka kb kc D E hj e3 e4'⟩
    rw [if_neg (fun z => z.elim q1 q2)]
    by_cases q3 : x = 115
    · subst q3
      exact ⟨upd (upd pl 4 8) 3 (nI (k + 1)), rfl, rfl, p_t0_115 k n t v ld sh o cd pl ka kb kc D E hj e3 e4'⟩
    rw [if_neg q3]
    by_cases q4 : x = 104
    · subst q4
      exact ⟨upd (upd pl 4 2) 3 (nI (k + 1)), rfl, rfl, p_t0_104 k n t v ld sh o cd pl ka kb kc D E hj e3 e4'⟩
    rw [if_neg q4]
    by_cases q5 : x = 102
    · subst q5
      exact ⟨upd (upd pl 4 4) 3 (nI (k + 1)), rfl, rfl, p_t0_102 k n t v ld sh o cd pl ka kb kc D E hj e3 e4'⟩
    rw [if_neg q5]
    exact p_t0_x k x n t v ld sh o cd pl ka kb kc D E hj e3 e4' q1 q2 q5 q4 q3
  · obtain ⟨j, rfl⟩ : ∃ j, k = j + 1 := ⟨k - 1, by have := hk1 h0; omega⟩
    have hj : j < 60 := by omega
    have hc : a = 1 ∨ a = 2 ∨ a = 3 ∨ a = 4 ∨ a = 5 ∨ a = 6 ∨ a = 7 ∨ a = 8 := by omega
    have d59 : ¬ ((48 : Int32) ≤ 59 ∧ (59 : Int32) ≤ 57) := by decide
    have d61 : ¬ ((48 : Int32) ≤ 61 ∧ (61 : Int32) ≤ 57) := by decide
    rcases hc with e | e | e | e | e | e | e | e <;> subst e
    · have eq : tk x (1, j + 1, ka, kb, kc) = (if x = 59 ∧ ((1 : Nat) = 8 ∨ (1 : Nat) = 3 ∨ (1 : Nat) = 7) then some (0, j + 1, ka, kb, kc) else if x = 61 ∧ (1 : Nat) = 5 then some (6, j + 1, ka, kb, kc) else if 48 ≤ x ∧ x ≤ 57 then dgt 1 j (j + 1) (x - 48) ka kb kc else none) := rfl
      rw [eq]
      rw [if_neg (fun z => absurd z.2 (by decide)), if_neg (fun z => absurd z.2 (by decide))]
      by_cases hx : 48 ≤ x ∧ x ≤ 57
      · rw [if_pos hx]
        have e5 : dgt 1 j (j + 1) (x - 48) ka kb kc = (if 0 ≤ x - 48 ∧ x - 48 ≤ 3 then some (8, j + 1, ka, upd kb j (x - 48), kc) else none) := rfl
        rw [e5]
        by_cases hd : 0 ≤ x - 48 ∧ x - 48 ≤ 3
        · rw [if_pos hd]
          exact ⟨upd pl 4 8, e3, rfl, p_t1_d1 j x n t v ld sh o cd pl ka kb kc D E hj e3 e4 hx hd⟩
        · rw [if_neg hd]
          exact p_t1_d0 j x n t v ld sh o cd pl ka kb kc D E hj e3 e4 hx hd
      · rw [if_neg hx]
        exact p_t1_none j x n t v ld sh o cd pl ka kb kc D E hj e3 e4 hx
    · have eq : tk x (2, j + 1, ka, kb, kc) = (if x = 59 ∧ ((2 : Nat) = 8 ∨ (2 : Nat) = 3 ∨ (2 : Nat) = 7) then some (0, j + 1, ka, kb, kc) else if x = 61 ∧ (2 : Nat) = 5 then some (6, j + 1, ka, kb, kc) else if 48 ≤ x ∧ x ≤ 57 then dgt 2 j (j + 1) (x - 48) ka kb kc else none) := rfl
      rw [eq]
      rw [if_neg (fun z => absurd z.2 (by decide)), if_neg (fun z => absurd z.2 (by decide))]
      by_cases hx : 48 ≤ x ∧ x ≤ 57
      · rw [if_pos hx]
        have e5 : dgt 2 j (j + 1) (x - 48) ka kb kc = (if 0 < x - 48 then some (3, j + 1, ka, upd kb j (x - 48), kc) else none) := rfl
        rw [e5]
        by_cases hd : 0 < x - 48
        · rw [if_pos hd]
          exact ⟨upd pl 4 3, e3, rfl, p_t2_d1 j x n t v ld sh o cd pl ka kb kc D E hj e3 e4 hx hd⟩
        · rw [if_neg hd]
          exact p_t2_d0 j x n t v ld sh o cd pl ka kb kc D E hj e3 e4 hx hd
      · rw [if_neg hx]
        exact p_t2_none j x n t v ld sh o cd pl ka kb kc D E hj e3 e4 hx
    · have eq : tk x (3, j + 1, ka, kb, kc) = (if x = 59 ∧ ((3 : Nat) = 8 ∨ (3 : Nat) = 3 ∨ (3 : Nat) = 7) then some (0, j + 1, ka, kb, kc) else if x = 61 ∧ (3 : Nat) = 5 then some (6, j + 1, ka, kb, kc) else if 48 ≤ x ∧ x ≤ 57 then dgt 3 j (j + 1) (x - 48) ka kb kc else none) := rfl
      rw [eq]
      by_cases q9 : x = 59
      · subst q9
        rw [if_pos ⟨rfl, by decide⟩]
        exact ⟨upd pl 4 0, e3, rfl, p_t3_semi j n t v ld sh o cd pl ka kb kc D E hj e3 e4⟩
      rw [if_neg (fun z => q9 z.1), if_neg (fun z => absurd z.2 (by decide))]
      by_cases hx : 48 ≤ x ∧ x ≤ 57
      · rw [if_pos hx]
        have e5 : dgt 3 j (j + 1) (x - 48) ka kb kc = (if ¬ kb j = 0 ∧ 10 * kb j + (x - 48) ≤ 48 then some (3, j + 1, ka, upd kb j (10 * kb j + (x - 48)), kc) else none) := rfl
        rw [e5]
        by_cases hd : ¬ kb j = 0 ∧ 10 * kb j + (x - 48) ≤ 48
        · rw [if_pos hd]
          exact ⟨pl, e3, e4, p_t3_d1 j x n t v ld sh o cd pl ka kb kc D E hj e3 e4 hx hd⟩
        · rw [if_neg hd]
          exact p_t3_d0 j x n t v ld sh o cd pl ka kb kc D E hj e3 e4 hx (by
            by_cases z : kb j = 0
            · exact Or.inl z
            · exact Or.inr (fun y => hd ⟨z, y⟩))
      · rw [if_neg hx]
        exact p_t3_none j x n t v ld sh o cd pl ka kb kc D E hj e3 e4 hx q9
    · have eq : tk x (4, j + 1, ka, kb, kc) = (if x = 59 ∧ ((4 : Nat) = 8 ∨ (4 : Nat) = 3 ∨ (4 : Nat) = 7) then some (0, j + 1, ka, kb, kc) else if x = 61 ∧ (4 : Nat) = 5 then some (6, j + 1, ka, kb, kc) else if 48 ≤ x ∧ x ≤ 57 then dgt 4 j (j + 1) (x - 48) ka kb kc else none) := rfl
      rw [eq]
      rw [if_neg (fun z => absurd z.2 (by decide)), if_neg (fun z => absurd z.2 (by decide))]
      by_cases hx : 48 ≤ x ∧ x ≤ 57
      · rw [if_pos hx]
        have e5 : dgt 4 j (j + 1) (x - 48) ka kb kc = some (5, j + 1, ka, upd kb j (x - 48), kc) := rfl
        rw [e5]
        exact ⟨upd pl 4 5, e3, rfl, p_t4_d1 j x n t v ld sh o cd pl ka kb kc D E hj e3 e4 hx⟩
      · rw [if_neg hx]
        exact p_t4_none j x n t v ld sh o cd pl ka kb kc D E hj e3 e4 hx
    · have eq : tk x (5, j + 1, ka, kb, kc) = (if x = 59 ∧ ((5 : Nat) = 8 ∨ (5 : Nat) = 3 ∨ (5 : Nat) = 7) then some (0, j + 1, ka, kb, kc) else if x = 61 ∧ (5 : Nat) = 5 then some (6, j + 1, ka, kb, kc) else if 48 ≤ x ∧ x ≤ 57 then dgt 5 j (j + 1) (x - 48) ka kb kc else none) := rfl
      rw [eq]
      rw [if_neg (fun z => absurd z.2 (by decide))]
      by_cases q9 : x = 61
      · subst q9
        rw [if_pos ⟨rfl, rfl⟩]
        exact ⟨upd pl 4 6, e3, rfl, p_t5_eq j n t v ld sh o cd pl ka kb kc D E hj e3 e4⟩
      rw [if_neg (fun z => q9 z.1)]
      by_cases hx : 48 ≤ x ∧ x ≤ 57
      · rw [if_pos hx]
        have e5 : dgt 5 j (j + 1) (x - 48) ka kb kc = (if ¬ kb j = 0 ∧ 10 * kb j + (x - 48) ≤ 47 then some (5, j + 1, ka, upd kb j (10 * kb j + (x - 48)), kc) else none) := rfl
        rw [e5]
        by_cases hd : ¬ kb j = 0 ∧ 10 * kb j + (x - 48) ≤ 47
        · rw [if_pos hd]
          exact ⟨pl, e3, e4, p_t5_d1 j x n t v ld sh o cd pl ka kb kc D E hj e3 e4 hx hd⟩
        · rw [if_neg hd]
          exact p_t5_d0 j x n t v ld sh o cd pl ka kb kc D E hj e3 e4 hx (by
            by_cases z : kb j = 0
            · exact Or.inl z
            · exact Or.inr (fun y => hd ⟨z, y⟩))
      · rw [if_neg hx]
        exact p_t5_none j x n t v ld sh o cd pl ka kb kc D E hj e3 e4 hx q9
    · have eq : tk x (6, j + 1, ka, kb, kc) = (if x = 59 ∧ ((6 : Nat) = 8 ∨ (6 : Nat) = 3 ∨ (6 : Nat) = 7) then some (0, j + 1, ka, kb, kc) else if x = 61 ∧ (6 : Nat) = 5 then some (6, j + 1, ka, kb, kc) else if 48 ≤ x ∧ x ≤ 57 then dgt 6 j (j + 1) (x - 48) ka kb kc else none) := rfl
      rw [eq]
      rw [if_neg (fun z => absurd z.2 (by decide)), if_neg (fun z => absurd z.2 (by decide))]
      by_cases hx : 48 ≤ x ∧ x ≤ 57
      · rw [if_pos hx]
        have e5 : dgt 6 j (j + 1) (x - 48) ka kb kc = some (7, j + 1, ka, kb, upd kc j (x - 48)) := rfl
        rw [e5]
        exact ⟨upd pl 4 7, e3, rfl, p_t6_d1 j x n t v ld sh o cd pl ka kb kc D E hj e3 e4 hx⟩
      · rw [if_neg hx]
        exact p_t6_none j x n t v ld sh o cd pl ka kb kc D E hj e3 e4 hx
    · have eq : tk x (7, j + 1, ka, kb, kc) = (if x = 59 ∧ ((7 : Nat) = 8 ∨ (7 : Nat) = 3 ∨ (7 : Nat) = 7) then some (0, j + 1, ka, kb, kc) else if x = 61 ∧ (7 : Nat) = 5 then some (6, j + 1, ka, kb, kc) else if 48 ≤ x ∧ x ≤ 57 then dgt 7 j (j + 1) (x - 48) ka kb kc else none) := rfl
      rw [eq]
      by_cases q9 : x = 59
      · subst q9
        rw [if_pos ⟨rfl, by decide⟩]
        exact ⟨upd pl 4 0, e3, rfl, p_t7_semi j n t v ld sh o cd pl ka kb kc D E hj e3 e4⟩
      rw [if_neg (fun z => q9 z.1), if_neg (fun z => absurd z.2 (by decide))]
      by_cases hx : 48 ≤ x ∧ x ≤ 57
      · rw [if_pos hx]
        have e5 : dgt 7 j (j + 1) (x - 48) ka kb kc = (if ¬ kc j = 0 ∧ 10 * kc j + (x - 48) ≤ 1500 then some (7, j + 1, ka, kb, upd kc j (10 * kc j + (x - 48))) else none) := rfl
        rw [e5]
        by_cases hd : ¬ kc j = 0 ∧ 10 * kc j + (x - 48) ≤ 1500
        · rw [if_pos hd]
          exact ⟨pl, e3, e4, p_t7_d1 j x n t v ld sh o cd pl ka kb kc D E hj e3 e4 hx hd⟩
        · rw [if_neg hd]
          exact p_t7_d0 j x n t v ld sh o cd pl ka kb kc D E hj e3 e4 hx (by
            by_cases z : kc j = 0
            · exact Or.inl z
            · exact Or.inr (fun y => hd ⟨z, y⟩))
      · rw [if_neg hx]
        exact p_t7_none j x n t v ld sh o cd pl ka kb kc D E hj e3 e4 hx q9
    · have eq : tk x (8, j + 1, ka, kb, kc) = (if x = 59 ∧ ((8 : Nat) = 8 ∨ (8 : Nat) = 3 ∨ (8 : Nat) = 7) then some (0, j + 1, ka, kb, kc) else if x = 61 ∧ (8 : Nat) = 5 then some (6, j + 1, ka, kb, kc) else if 48 ≤ x ∧ x ≤ 57 then dgt 8 j (j + 1) (x - 48) ka kb kc else none) := rfl
      rw [eq]
      by_cases q9 : x = 59
      · subst q9
        rw [if_pos ⟨rfl, by decide⟩]
        exact ⟨upd pl 4 0, e3, rfl, p_t8_semi j n t v ld sh o cd pl ka kb kc D E hj e3 e4⟩
      rw [if_neg (fun z => q9 z.1), if_neg (fun z => absurd z.2 (by decide))]
      by_cases hx : 48 ≤ x ∧ x ≤ 57
      · rw [if_pos hx]
        have e5 : dgt 8 j (j + 1) (x - 48) ka kb kc = none := rfl
        rw [e5]
        exact p_t8_d0 j x n t v ld sh o cd pl ka kb kc D E hj e3 e4 hx
      · rw [if_neg hx]
        exact p_t8_none j x n t v ld sh o cd pl ka kb kc D E hj e3 e4 hx q9
theorem rd_1 {xs : Nat → Int32} {L : Nat} {o_ : z_Rs} {M' : Mem} {kk : Nat} (p c : Nat) (PL A B C : Nat → Int32) (n t : Nat → Int32) (v : Nat → Nat → Int32) (ld sh o cd pl ka kb kc : Nat → Int32) (D : Nat → Nat → Int32) (E : Nat → Int64) (hp : p < c) (hc : c ≤ 60) (hT : z_Mt xs L m_X2_takes [aR 0 19, aI (cd p)] (cm n t v ld sh o cd pl ka kb kc, D, E) (.inl (some (aI 1))) (cm n t v ld sh o cd PL A B C, D, E) 0) (K : z_Ev xs L m_X2_read (12, [some (aR 0 19), some (aR 0 18), some (aI (nI c)), some (aI (nI (p + 1)))], [], (cm n t v ld sh o cd PL A B C, D, E)) o_ M' kk) : z_Ev xs L m_X2_read (12, [some (aR 0 19), some (aR 0 18), some (aI (nI c)), some (aI (nI p))], [], (cm n t v ld sh o cd pl ka kb kc, D, E)) o_ M' kk := by
  refine z_Ev_blk 3 (c' := ((if (nI c) ≤ (nI p) then 39 else 17), [some (aR 0 19), some (aR 0 18), some (aI (nI c)), some (aI (nI p))], [], (cm n t v ld sh o cd pl ka kb kc, D, E))) rfl trivial ?_
  refine z_Ev_else (nI_ge hp (by omega)) ?_
  refine z_Ev_blk 4 (c' := ((if (60 : Int32) ≤ (nI p) then 39 else 23), [some (aR 0 19), some (aR 0 18), some (aI (nI c)), some (aI (nI p))], [], (cm n t v ld sh o cd pl ka kb kc, D, E))) rfl trivial ?_
  refine z_Ev_else (nI_ge (b := 60) (by omega) (by decide)) ?_
  refine z_Ev_blk 4 (c' := (27, [some (aR 0 19), some (aR 0 18), some (aI (nI c)), some (aI (nI p))], [aI (cd ((nI p).toNatClampNeg)), aR 0 19], (cm n t v ld sh o cd pl ka kb kc, D, E))) rfl ⟨(inb_nI (show p < 60 by omega) (by decide)), trivial⟩ ?_
  rw [nI_clamp (show p < 2 ^ 31 by omega)]
  refine z_Ev_call0 (m' := m_X2_takes) (as := [aR 0 19, aI (cd p)]) (r := []) (hT) rfl rfl ?_
  refine z_Ev_blk 1 (c' := ((if (1 : Int32) = 0 then 39 else 33), [some (aR 0 19), some (aR 0 18), some (aI (nI c)), some (aI (nI p))], [], (cm n t v ld sh o cd PL A B C, D, E))) rfl trivial ?_
  refine z_Ev_else (by decide) ?_
  refine z_Ev_blk 2 (c' := (12, [some (aR 0 19), some (aR 0 18), some (aI (nI c)), some (aI ((nI p) + (1 : Int32)))], [], (cm n t v ld sh o cd PL A B C, D, E))) rfl trivial ?_
  rw [nI_1]
  exact K
theorem rd_0 {xs : Nat → Int32} {L : Nat} (p c : Nat) (n t : Nat → Int32) (v : Nat → Nat → Int32) (ld sh o cd pl ka kb kc : Nat → Int32) (D : Nat → Nat → Int32) (E : Nat → Int64) (hp : p < c) (hc : c ≤ 60) (hT : z_Mt xs L m_X2_takes [aR 0 19, aI (cd p)] (cm n t v ld sh o cd pl ka kb kc, D, E) (.inl (some (aI 0))) (cm n t v ld sh o cd pl ka kb kc, D, E) 0) : z_Ev xs L m_X2_read (12, [some (aR 0 19), some (aR 0 18), some (aI (nI c)), some (aI (nI p))], [], (cm n t v ld sh o cd pl ka kb kc, D, E)) (.inl (some (aI (nI p)))) (cm n t v ld sh o cd pl ka kb kc, D, E) 0 := by
  refine z_Ev_blk 3 (c' := ((if (nI c) ≤ (nI p) then 39 else 17), [some (aR 0 19), some (aR 0 18), some (aI (nI c)), some (aI (nI p))], [], (cm n t v ld sh o cd pl ka kb kc, D, E))) rfl trivial ?_
  refine z_Ev_else (nI_ge hp (by omega)) ?_
  refine z_Ev_blk 4 (c' := ((if (60 : Int32) ≤ (nI p) then 39 else 23), [some (aR 0 19), some (aR 0 18), some (aI (nI c)), some (aI (nI p))], [], (cm n t v ld sh o cd pl ka kb kc, D, E))) rfl trivial ?_
  refine z_Ev_else (nI_ge (b := 60) (by omega) (by decide)) ?_
  refine z_Ev_blk 4 (c' := (27, [some (aR 0 19), some (aR 0 18), some (aI (nI c)), some (aI (nI p))], [aI (cd ((nI p).toNatClampNeg)), aR 0 19], (cm n t v ld sh o cd pl ka kb kc, D, E))) rfl ⟨(inb_nI (show p < 60 by omega) (by decide)), trivial⟩ ?_
  rw [nI_clamp (show p < 2 ^ 31 by omega)]
  refine z_Ev_call0 (m' := m_X2_takes) (as := [aR 0 19, aI (cd p)]) (r := []) (hT) rfl rfl ?_
  refine z_Ev_blk 1 (c' := ((if (0 : Int32) = 0 then 39 else 33), [some (aR 0 19), some (aR 0 18), some (aI (nI c)), some (aI (nI p))], [], (cm n t v ld sh o cd pl ka kb kc, D, E))) rfl trivial ?_
  refine z_Ev_if (by decide) ?_
  refine z_Ev_blk 1 (c' := (40, [some (aR 0 19), some (aR 0 18), some (aI (nI c)), some (aI (nI p))], [aI (nI p)], (cm n t v ld sh o cd pl ka kb kc, D, E))) rfl trivial ?_
  exact z_Ev_iretE rfl rfl (by rfl) (by rfl)
theorem rd_e {xs : Nat → Int32} {L : Nat} (c : Nat) (n t : Nat → Int32) (v : Nat → Nat → Int32) (ld sh o cd pl ka kb kc : Nat → Int32) (D : Nat → Nat → Int32) (E : Nat → Int64) : z_Ev xs L m_X2_read (12, [some (aR 0 19), some (aR 0 18), some (aI (nI c)), some (aI (nI c))], [], (cm n t v ld sh o cd pl ka kb kc, D, E)) (.inl (some (aI (nI c)))) (cm n t v ld sh o cd pl ka kb kc, D, E) 0 := by
  refine z_Ev_blk 3 (c' := ((if (nI c) ≤ (nI c) then 39 else 17), [some (aR 0 19), some (aR 0 18), some (aI (nI c)), some (aI (nI c))], [], (cm n t v ld sh o cd pl ka kb kc, D, E))) rfl trivial ?_
  refine z_Ev_if (Int32.le_refl _) ?_
  refine z_Ev_blk 1 (c' := (40, [some (aR 0 19), some (aR 0 18), some (aI (nI c)), some (aI (nI c))], [aI (nI c)], (cm n t v ld sh o cd pl ka kb kc, D, E))) rfl trivial ?_
  exact z_Ev_iretE rfl rfl (by rfl) (by rfl)
theorem rd_all {xs : Nat → Int32} {L : Nat} (n t : Nat → Int32) (v : Nat → Nat → Int32) (ld sh o cd : Nat → Int32) (D : Nat → Nat → Int32) (E : Nat → Int64) (c : Nat) (hc : c ≤ 60) : ∀ (d p : Nat) (S : CS) (pl : Nat → Int32), p + d = c → okS S p → pl 3 = nI S.2.1 → pl 4 = nI S.1 → ∃ pl' : Nat → Int32, pl' 3 = nI (rdF cd d p S).2.2.1 ∧ pl' 4 = nI (rdF cd d p S).2.1 ∧ z_Ev xs L m_X2_read (12, [some (aR 0 19), some (aR 0 18), some (aI (nI c)), some (aI (nI p))], [], (cm n t v ld sh o cd pl S.2.2.1 S.2.2.2.1 S.2.2.2.2, D, E)) (.inl (some (aI (nI (rdF cd d p S).1)))) (cm n t v ld sh o cd pl' (rdF cd d p S).2.2.2.1 (rdF cd d p S).2.2.2.2.1 (rdF cd d p S).2.2.2.2.2, D, E) 0 := by
  intro d
  induction d with
  | zero =>
    intro p S pl hp hS e3 e4
    have e : p = c := by omega
    subst e
    exact ⟨pl, e3, e4, rd_e p n t v ld sh o cd pl S.2.2.1 S.2.2.2.1 S.2.2.2.2 D E⟩
  | succ d ih =>
    intro p S pl hp hS e3 e4
    have hT := c_tk (xs := xs) (L := L) S.1 S.2.1 (cd p) n t v ld sh o cd pl S.2.2.1 S.2.2.2.1 S.2.2.2.2 D E e3 e4 hS.1 (by have := hS.2.1; omega) (fun _ => by have := hS.2.1; omega) hS.2.2
    change TkPost xs L (cd p) n t v ld sh o cd pl S.2.2.1 S.2.2.2.1 S.2.2.2.2 D E (tk (cd p) S) at hT
    unfold rdF
    cases hk : tk (cd p) S with
    | none =>
      rw [hk] at hT
      exact ⟨pl, e3, e4, rd_0 p c n t v ld sh o cd pl S.2.2.1 S.2.2.2.1 S.2.2.2.2 D E (by omega) hc hT⟩
    | some S' =>
      rw [hk] at hT
      obtain ⟨pl1, f3, f4, hT⟩ := hT
      obtain ⟨pl2, g3, g4, K⟩ := ih (p + 1) S' pl1 (by omega) (tk_ok hk hS) f3 f4
      exact ⟨pl2, g3, g4, rd_1 p c pl1 S'.2.2.1 S'.2.2.2.1 S'.2.2.2.2 n t v ld sh o cd pl S.2.2.1 S.2.2.2.1 S.2.2.2.2 D E (by omega) hc hT K⟩
theorem c_read {xs : Nat → Int32} {L : Nat} (c : Nat) (n t : Nat → Int32) (v : Nat → Nat → Int32) (ld sh o cd pl ka kb kc : Nat → Int32) (D : Nat → Nat → Int32) (E : Nat → Int64) (hc : c ≤ 60) : ∃ pl' : Nat → Int32, pl' 3 = nI (rdF cd c 0 (0, 0, ka, kb, kc)).2.2.1 ∧ pl' 4 = nI (rdF cd c 0 (0, 0, ka, kb, kc)).2.1 ∧ z_Mt xs L m_X2_read [aR 0 19, aR 0 18, aI (nI c)] (cm n t v ld sh o cd pl ka kb kc, D, E) (.inl (some (aI (nI (rdF cd c 0 (0, 0, ka, kb, kc)).1)))) (cm n t v ld sh o cd pl' (rdF cd c 0 (0, 0, ka, kb, kc)).2.2.2.1 (rdF cd c 0 (0, 0, ka, kb, kc)).2.2.2.2.1 (rdF cd c 0 (0, 0, ka, kb, kc)).2.2.2.2.2, D, E) 0 := by
  obtain ⟨pl', g3, g4, K⟩ := rd_all (xs := xs) (L := L) n t v ld sh o cd D E c hc c 0 (0, 0, ka, kb, kc) (upd (upd pl 3 0) 4 0) (by omega) ⟨Nat.zero_le _, Nat.le_refl _, fun z => absurd rfl z⟩ rfl rfl
  refine ⟨pl', g3, g4, ?_⟩
  refine z_Ev_blk 3 (c' := (5, [some (aR 0 19), some (aR 0 18), some (aI (nI c)), none], [], (up3 (cm n t v ld sh o cd pl ka kb kc) 0 19 3 0, D, E))) rfl trivial ?_
  rw [cm_19]
  refine z_Ev_blk 3 (c' := (10, [some (aR 0 19), some (aR 0 18), some (aI (nI c)), none], [], (up3 (cm n t v ld sh o cd (upd pl 3 0) ka kb kc) 0 19 4 0, D, E))) rfl trivial ?_
  rw [cm_19]
  refine z_Ev_blk 2 (c' := (12, [some (aR 0 19), some (aR 0 18), some (aI (nI c)), some (aI 0)], [], (cm n t v ld sh o cd (upd (upd pl 3 0) 4 0) ka kb kc, D, E))) rfl trivial ?_
  rw [show (0 : Int32) = nI 0 from rfl]
  exact K
