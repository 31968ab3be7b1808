/-! LOCALS MAY BE FORGOTTEN -/
def z_R (a b : Lc) : Prop := a.length = b.length ∧ ∀ k v, z_get a k = some v → z_get b k = some v
theorem z_set_len : ∀ (l : Lc) (k : Nat) (o : Option AV), (z_set l k o).length = l.length
  | [], _, _ => rfl
  | _ :: t, 0, _ => rfl
  | _ :: t, k + 1, o => by
    show (z_set t k o).length + 1 = t.length + 1
    rw [z_set_len t k o]
theorem z_get_len : ∀ (l : Lc) (k : Nat) (v : AV), z_get l k = some v → k < l.length
  | x :: t, 0, _, _ => Nat.succ_pos _
  | x :: t, k + 1, v, h => Nat.succ_lt_succ (z_get_len t k v h)
theorem z_get_same : ∀ (l : Lc) (k : Nat) (o : Option AV), k < l.length → z_get (z_set l k o) k = o
  | x :: t, 0, o, _ => rfl
  | x :: t, k + 1, o, h => z_get_same t k o (Nat.lt_of_succ_lt_succ h)
theorem z_get_other : ∀ (l : Lc) (k j : Nat) (o : Option AV), j ≠ k → z_get (z_set l k o) j = z_get l j
  | [], _, _, _, _ => rfl
  | x :: t, 0, 0, _, h => absurd rfl h
  | x :: t, 0, j + 1, _, _ => rfl
  | x :: t, k + 1, 0, _, _ => rfl
  | x :: t, k + 1, j + 1, o, h => z_get_other t k j o (fun e => h (by rw [e]))
theorem z_R_set {a b : Lc} (h : z_R a b) (k : Nat) (o : Option AV) : z_R (z_set a k o) (z_set b k o) := by
  refine ⟨by rw [z_set_len, z_set_len, h.1], fun j v hj => ?_⟩
  rcases z_get_set _ _ _ _ _ hj with ⟨e1, e2⟩ | ⟨e1, e2⟩
  · subst e1
    have hl := z_get_len _ _ _ hj
    rw [z_set_len, h.1] at hl
    rw [z_get_same _ _ _ hl, e2]
  · rw [z_get_other _ _ _ _ e1]
    exact h.2 j v e2
theorem z_R_none {a b : Lc} (h : z_R a b) (k : Nat) (hk : ∀ v, z_get a k = some v → False) : z_R a (z_set b k none) := by
  refine ⟨by rw [z_set_len, h.1], fun j v hj => ?_⟩
  by_cases e : j = k
  · subst e
    exact absurd hj (fun q => hk v q)
  · rw [z_get_other _ _ _ _ e]
    exact h.2 j v hj
theorem z_R_clr {a b : Lc} (h : z_R a b) (k : Nat) : z_R (z_clr a k) (z_clr b k) := by
  cases k with
  | zero => exact h
  | succ k =>
    unfold z_clr
    dsimp only
    cases ha : z_get a k with
    | some v =>
      rw [h.2 k v ha]
      dsimp only
      cases z_cat2 v
      · exact h
      · exact z_R_set h k none
    | none =>
      dsimp only
      cases hb : z_get b k with
      | none => exact h
      | some w =>
        dsimp only
        cases z_cat2 w
        · exact h
        · exact z_R_none h k (fun v hv => by rw [ha] at hv; cases hv)
theorem z_R_1 {a b : Lc} (h : z_R a b) (k : Nat) (v : AV) : z_R (z_st1w a k v) (z_st1w b k v) := z_R_set (z_R_clr h k) k _
theorem z_R_2 {a b : Lc} (h : z_R a b) (k : Nat) (v : AV) : z_R (z_st2w a k v) (z_st2w b k v) := z_R_set (z_R_set (z_R_clr h k) k _) _ _
theorem z_R_st1 {xs : Nat → Int32} {L o t pc : Nat} {i : Instr} {k0 : Int32} {a b : Lc} {st : List AV} {M : Mem} {c' : Cf} {O : List Prop} (hR : z_R a b) (h : z_st1 xs L o i t k0 pc a st M = some (c', O)) : ∃ l, z_st1 xs L o i t k0 pc b st M = some ((c'.1, l, c'.2.2), O) ∧ z_R c'.2.1 l := by
  cases i <;> first
    | (dsimp only [z_st1] at h ⊢; cases h; done)
    | (dsimp only [z_st1] at h ⊢; cases h; exact ⟨_, rfl, hR⟩)
    | (dsimp only [z_st1] at h ⊢
       split at h
       · rename_i hg
         cases h
         rw [hR.2 _ _ hg]
         exact ⟨_, rfl, hR⟩
       · cases h)
    | (dsimp only [z_st1] at h ⊢
       split at h
       · rename_i hg
         cases h
         rw [hR.2 _ _ hg]
         exact ⟨_, rfl, z_R_1 hR _ _⟩
       · cases h)
    | (dsimp only [z_st1] at h ⊢
       split at h
       · cases h
         first
           | exact ⟨_, rfl, hR⟩
           | exact ⟨_, rfl, z_R_1 hR _ _⟩
           | exact ⟨_, rfl, z_R_2 hR _ _⟩
       · cases h)
    | (dsimp only [z_st1, z_nf2] at h ⊢
       split at h
       · cases h
         exact ⟨_, rfl, hR⟩
       · cases h)
    | (dsimp only [z_st1] at h ⊢
       try simp only [cond_eq_ite] at h ⊢
       (repeat' split at h) <;> first
         | (cases h; done)
         | (cases h; exact ⟨_, rfl, hR⟩)
         | (cases h; refine ⟨_, ?_, hR⟩; simp only [*, if_true, ite_true]; done)
         | (cases h; refine ⟨_, ?_, hR⟩; simp [*]; done)
         | (cases h; refine ⟨_, ?_, hR⟩; simp_all; done)
         | (cases h; refine ⟨_, ?_, hR⟩; simp_all; intro q; exact absurd q (Int32.not_lt.mpr (by assumption)))
         | (cases h; refine ⟨_, ?_, hR⟩; rw [if_pos (by assumption)]; done)
         | (cases h; refine ⟨_, ?_, hR⟩; rw [if_pos (by assumption), if_pos (by assumption)]; done)
         | (cases h; refine ⟨_, ?_, hR⟩; rw [if_pos (by assumption), if_neg (by assumption)]; done))
theorem z_Ex_wk {xs : Nat → Int32} {L : Nat} : ∀ (n m pc : Nat) (a b : Lc) (st : List AV) (M : Mem) (o : z_Rs) (M' : Mem) (k : Nat), z_R a b → z_Ex xs L n m (pc, a, st, M) o M' k → z_Ex xs L n m (pc, b, st, M) o M' k
  | 0, _, _, _, _, _, _, _, _, _, _, h => absurd h (fun q => q)
  | n + 1, m, pc, a, b, st, M, o, M', k, hR, h => by
    unfold z_Ex at h ⊢
    cases hi : z_ins m pc with
    | none => rw [hi] at h; exact h
    | some x =>
      obtain ⟨i, t, k0⟩ := x
      rw [hi] at h
      dsimp only at h ⊢
      have stp : (∃ c' O, z_st1 xs L (z_own m) i t k0 pc a st M = some (c', O) ∧ z_all O ∧ z_Ex xs L n m c' o M' k) → ∃ c' O, z_st1 xs L (z_own m) i t k0 pc b st M = some (c', O) ∧ z_all O ∧ z_Ex xs L n m c' o M' k := by
        rintro ⟨⟨q1, q2, q3, q4⟩, O, g1, g2, g3⟩
        obtain ⟨l, e1, e2⟩ := z_R_st1 hR g1
        exact ⟨_, O, e1, g2, z_Ex_wk n _ _ _ _ _ _ _ _ _ e2 g3⟩
      split at h
      · exact h
      · exact h
      · exact h
      · exact h
      · obtain ⟨m', b', w, as, r, o1, M1, k1, k2, g1, g2, g3, g4, g5, g6, g7, g8, g9⟩ := h
        refine ⟨m', b', w, as, r, o1, M1, k1, k2, g1, g2, g3, g4, g5, g6, g7, g8, ?_⟩
        cases o1 with
        | inl v => exact z_Ex_wk n _ _ _ _ _ _ _ _ _ hR g9
        | inr e =>
          rcases g9 with g9 | ⟨h1, s1, q1, q2, q3⟩
          · exact Or.inl g9
          · exact Or.inr ⟨h1, s1, q1, q2, z_Ex_wk n _ _ _ _ _ _ _ _ _ (z_R_set (z_R_clr hR _) _ _) q3⟩
      · split at h
        · exact stp h
        · obtain ⟨m', b', w, as, r, o1, M1, k1, k2, g1, g2, g3, g4, g5, g6, g7, g8⟩ := h
          refine ⟨m', b', w, as, r, o1, M1, k1, k2, g1, g2, g3, g4, g5, g6, g7, ?_⟩
          cases o1 with
          | inl v => exact z_Ex_wk n _ _ _ _ _ _ _ _ _ hR g8
          | inr e => exact g8
      · rename_i n1 n2 n3 n4 n5 n6
        have hh := stp h
        cases i <;> first | exact hh | exact absurd rfl (by assumption) | exact absurd rfl (n5 _) | exact absurd rfl (n6 _)
def z_fgt : List Bool → Lc → Lc
  | true :: t, x :: u => x :: z_fgt t u
  | false :: t, _ :: u => none :: z_fgt t u
  | [], u => u
  | _, [] => []
theorem z_fgt_R : ∀ (bs : List Bool) (l : Lc), z_R (z_fgt bs l) l
  | [], l => ⟨by cases l <;> rfl, fun k v h => by cases l <;> exact h⟩
  | true :: t, [] => ⟨rfl, fun k v h => h⟩
  | false :: t, [] => ⟨rfl, fun k v h => h⟩
  | true :: t, x :: u => ⟨congrArg (· + 1) (z_fgt_R t u).1, fun k v h => by
    cases k with
    | zero => exact h
    | succ k => exact (z_fgt_R t u).2 k v h⟩
  | false :: t, x :: u => ⟨congrArg (· + 1) (z_fgt_R t u).1, fun k v h => by
    cases k with
    | zero => cases h
    | succ k => exact (z_fgt_R t u).2 k v h⟩
theorem z_Ev_fgt {xs : Nat → Int32} {L m pc : Nat} {l : Lc} {st : List AV} {M : Mem} {o : z_Rs} {M' : Mem} {k : Nat} (bs : List Bool) (h : z_Ev xs L m (pc, z_fgt bs l, st, M) o M' k) : z_Ev xs L m (pc, l, st, M) o M' k := by
  obtain ⟨n, hn⟩ := h
  exact ⟨n, z_Ex_wk n _ _ _ _ _ _ _ _ _ (z_fgt_R bs l) hn⟩
