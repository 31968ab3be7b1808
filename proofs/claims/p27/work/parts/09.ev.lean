/-! RUNS, BY PIECES -/
/-- m comes from the point c to its end, with the answer o, the memory M', and k exceptions made -/
def z_Ev (xs : Nat → Int32) (L m : Nat) (c : Cf) (o : z_Rs) (M' : Mem) (k : Nat) : Prop := ∃ n, z_Ex xs L n m c o M' k
/-- a call of m with the arguments as -/
def z_Mt (xs : Nat → Int32) (L m : Nat) (as : List AV) (M : Mem) (o : z_Rs) (M' : Mem) (k : Nat) : Prop := z_Ev xs L m (0, z_pad (z_ml m) (z_entL as), [], M) o M' k
section EV
variable {xs : Nat → Int32} {L : Nat}
theorem z_Ex_mono : ∀ (n m : Nat) (c : Cf) (o : z_Rs) (M' : Mem) (k : Nat), z_Ex xs L n m c o M' k → z_Ex xs L (n + 1) m c o M' k
  | 0, _, _, _, _, _, h => absurd h (fun q => q)
  | n + 1, m, (pc, ls, st, M), o, M', k, h => by
    unfold z_Ex at h ⊢
    cases hi : z_ins m pc with
    | none => rw [hi] at h; exact h
    | some x =>
      obtain ⟨i, t, k0⟩ := x
      rw [hi] at h
      dsimp only at h ⊢
      split at h
      · exact h
      · exact h
      · exact h
      · exact h
      · obtain ⟨m', b, w, as, r, o1, M1, k1, k2, g1, g2, g3, g4, g5, g6, g7, g8, g9⟩ := h
        refine ⟨m', b, w, as, r, o1, M1, k1, k2, g1, g2, g3, g4, g5, g6, z_Ex_mono n _ _ _ _ _ g7, g8, ?_⟩
        cases o1 with
        | inl v => exact z_Ex_mono n _ _ _ _ _ g9
        | inr e =>
          rcases g9 with g9 | ⟨h1, s1, q1, q2, q3⟩
          · exact Or.inl g9
          · exact Or.inr ⟨h1, s1, q1, q2, z_Ex_mono n _ _ _ _ _ q3⟩
      · split at h
        · obtain ⟨c', O, g1, g2, g3⟩ := h
          exact ⟨c', O, g1, g2, z_Ex_mono n _ _ _ _ _ g3⟩
        · obtain ⟨m', b, w, as, r, o1, M1, k1, k2, g1, g2, g3, g4, g5, g6, g7, g8⟩ := h
          refine ⟨m', b, w, as, r, o1, M1, k1, k2, g1, g2, g3, g4, g5, z_Ex_mono n _ _ _ _ _ g6, g7, ?_⟩
          cases o1 with
          | inl v => exact z_Ex_mono n _ _ _ _ _ g8
          | inr e => exact g8
      · rename_i n1 n2 n3 n4 n5 n6
        obtain ⟨c', O, g1, g2, g3⟩ := h
        have hh : ∃ c' O, z_st1 xs L (z_own m) i t k0 pc ls st M = some (c', O) ∧ z_all O ∧ z_Ex xs L (n + 1) m c' o M' k := ⟨c', O, g1, g2, z_Ex_mono n _ _ _ _ _ g3⟩
        cases i <;> first | exact hh | exact absurd rfl (by assumption) | exact absurd rfl (n5 _) | exact absurd rfl (n6 _)
theorem z_Ex_le {n n' m : Nat} {c : Cf} {o : z_Rs} {M' : Mem} {k : Nat} (h : z_Ex xs L n m c o M' k) (hn : n ≤ n') : z_Ex xs L n' m c o M' k := by
  obtain ⟨d, rfl⟩ := Nat.le.dest hn
  induction d with
  | zero => exact h
  | succ d ih => exact z_Ex_mono _ _ _ _ _ _ (ih (Nat.le_add_right _ _))
/-- one step -/
theorem z_Ev_st {m pc t : Nat} {i : Instr} {k0 : Int32} {ls : Lc} {st : List AV} {M : Mem} {c' : Cf} {O : List Prop} {o : z_Rs} {M' : Mem} {k : Nat} (hi : z_ins m pc = some (i, t, k0)) (h : z_st1 xs L (z_own m) i t k0 pc ls st M = some (c', O)) (hO : z_all O) (hk : z_Ev xs L m c' o M' k) : z_Ev xs L m (pc, ls, st, M) o M' k := by
  obtain ⟨n, hn⟩ := hk
  refine ⟨n + 1, ?_⟩
  unfold z_Ex
  rw [hi]
  dsimp only
  have hh : ∃ c' O, z_st1 xs L (z_own m) i t k0 pc ls st M = some (c', O) ∧ z_all O ∧ z_Ex xs L n m c' o M' k := ⟨c', O, h, hO, hn⟩
  cases i with
  | return_ => cases h
  | ireturn => cases h
  | lreturn => cases h
  | dreturn => cases h
  | invokevirtual j => cases h
  | invokestatic j =>
    dsimp only
    split
    · exact hh
    · rename_i hs
      dsimp only [z_st1] at h
      rw [hs] at h
      cases h
  | _ => exact hh
theorem z_all_app : ∀ {a b : List Prop}, z_all (a ++ b) → z_all a ∧ z_all b
  | [], b, h => ⟨trivial, h⟩
  | x :: t, b, h => by
    have h' : x ∧ z_all (t ++ b) := h
    obtain ⟨h1, h2⟩ := z_all_app (a := t) h'.2
    exact ⟨⟨h'.1, h1⟩, h2⟩
/-- a stretch without calls -/
theorem z_Ev_blk {m : Nat} : ∀ (n : Nat) {c c' : Cf} {O : List Prop} {o : z_Rs} {M' : Mem} {k : Nat}, z_blk xs L m n c = some (c', O) → z_all O → z_Ev xs L m c' o M' k → z_Ev xs L m c o M' k
  | 0, c, c', O, o, M', k, h, _, hk => by
    cases h
    exact hk
  | n + 1, (pc, ls, st, M), c', O, o, M', k, h, hO, hk => by
    unfold z_blk at h
    split at h
    · cases h
    · rename_i i t k0 hi
      split at h
      · cases h
      · rename_i c1 O1 h1
        split at h
        · cases h
        · rename_i c2 O2 h2
          cases h
          obtain ⟨a1, a2⟩ := z_all_app hO
          exact z_Ev_st hi h1 a1 (z_Ev_blk n h2 a2 hk)
theorem z_Ev_ite {m a b : Nat} {P : Prop} [Decidable P] {r : Lc × List AV × Mem} {o : z_Rs} {M' : Mem} {k : Nat} (h1 : P → z_Ev xs L m (a, r) o M' k) (h2 : ¬ P → z_Ev xs L m (b, r) o M' k) : z_Ev xs L m (if P then a else b, r) o M' k := by
  by_cases h : P
  · rw [if_pos h]; exact h1 h
  · rw [if_neg h]; exact h2 h
theorem z_Ev_if {m a b : Nat} {P : Prop} [Decidable P] {r : Lc × List AV × Mem} {o : z_Rs} {M' : Mem} {k : Nat} (h : P) (h1 : z_Ev xs L m (a, r) o M' k) : z_Ev xs L m (if P then a else b, r) o M' k := by
  rw [if_pos h]; exact h1
theorem z_Ev_else {m a b : Nat} {P : Prop} [Decidable P] {r : Lc × List AV × Mem} {o : z_Rs} {M' : Mem} {k : Nat} (h : ¬ P) (h1 : z_Ev xs L m (b, r) o M' k) : z_Ev xs L m (if P then a else b, r) o M' k := by
  rw [if_neg h]; exact h1
/-- does m at pc call m' -/
def z_isC (m pc m' : Nat) (as r : List AV) : Bool := match z_ins m pc with
  | some (.invokevirtual j, _, _) => (match z_cal (z_own m) j with
    | some (m2, _, _) => Nat.beq m2 m' && !(z_stc m')
    | none => false) && z_rcv m' as && Nat.beq as.length (z_na m') && z_cal8 m' as r
  | some (.invokestatic j, _, _) => Nat.beq (z_sp (z_own m) j) 0 && (match z_cal (z_own m) j with
    | some (m2, _, _) => Nat.beq m2 m' && z_stc m'
    | none => false) && Nat.beq as.length (z_na m') && z_cal8 m' as r
  | _ => false
theorem z_Ev_call {m pc m' : Nat} {as r : List AV} {ls : Lc} {st : List AV} {M M1 : Mem} {v : Option AV} {o : z_Rs} {M' : Mem} {k1 k2 : Nat} (hM : z_Mt xs L m' as M (.inl v) M1 k1) (hc : z_isC m pc m' as r = true) (hst : st = as.reverse ++ r) (hk : z_Ev xs L m (pc + 3, ls, v.toList ++ r, M1) o M' k2) : z_Ev xs L m (pc, ls, st, M) o M' (k1 + k2) := by
  obtain ⟨n1, hn1⟩ := hM
  obtain ⟨n2, hn2⟩ := hk
  have e1 := z_Ex_le hn1 (Nat.le_max_left n1 n2)
  have e2 := z_Ex_le hn2 (Nat.le_max_right n1 n2)
  refine ⟨max n1 n2 + 1, ?_⟩
  unfold z_isC at hc
  unfold z_Ex
  split at hc
  · rename_i j t k0 hi
    rw [hi]
    obtain ⟨hc, c4⟩ := Bool.and_eq_true_iff.mp hc
    obtain ⟨hc, c3⟩ := Bool.and_eq_true_iff.mp hc
    obtain ⟨c1, c2⟩ := Bool.and_eq_true_iff.mp hc
    split at c1
    · rename_i m2 b w hcal
      obtain ⟨g1, g2⟩ := Bool.and_eq_true_iff.mp c1
      have e := Nat.eq_of_beq_eq_true g1
      subst e
      exact ⟨m2, b, w, as, r, .inl v, M1, k1, k2, hcal, by simpa using g2, hst, Nat.eq_of_beq_eq_true c3, c2, c4, e1, rfl, e2⟩
    · cases c1
  · rename_i j t k0 hi
    rw [hi]
    obtain ⟨hc, c4⟩ := Bool.and_eq_true_iff.mp hc
    obtain ⟨hc, c3⟩ := Bool.and_eq_true_iff.mp hc
    obtain ⟨c0, c1⟩ := Bool.and_eq_true_iff.mp hc
    have hs := Nat.eq_of_beq_eq_true c0
    split at c1
    · rename_i m2 b w hcal
      obtain ⟨g1, g2⟩ := Bool.and_eq_true_iff.mp c1
      have e := Nat.eq_of_beq_eq_true g1
      subst e
      dsimp only
      rw [hs]
      exact ⟨m2, b, w, as, r, .inl v, M1, k1, k2, hcal, g2, hst, Nat.eq_of_beq_eq_true c3, c4, e1, rfl, e2⟩
    · cases c1
  · cases hc
theorem z_Ev_call0 {m pc m' : Nat} {as r : List AV} {ls : Lc} {st : List AV} {M M1 : Mem} {v : Option AV} {o : z_Rs} {M' : Mem} {k : Nat} (hM : z_Mt xs L m' as M (.inl v) M1 0) (hc : z_isC m pc m' as r = true) (hst : st = as.reverse ++ r) (hk : z_Ev xs L m (pc + 3, ls, v.toList ++ r, M1) o M' k) : z_Ev xs L m (pc, ls, st, M) o M' k := by
  have h := z_Ev_call hM hc hst hk
  rw [Nat.zero_add] at h
  exact h
/-- a callee throws, and m has no handler -/
theorem z_Ev_thru {m pc m' e : Nat} {as r : List AV} {ls : Lc} {st : List AV} {M M1 : Mem} {k1 : Nat} (hM : z_Mt xs L m' as M (.inr e) M1 k1) (hc : z_isC m pc m' as r = true) (hst : st = as.reverse ++ r) (hh : z_hh m = []) : z_Ev xs L m (pc, ls, st, M) (.inr e) M1 k1 := by
  obtain ⟨n1, e1⟩ := hM
  refine ⟨n1 + 1, ?_⟩
  unfold z_isC at hc
  unfold z_Ex
  split at hc
  · rename_i j t k0 hi
    rw [hi]
    obtain ⟨hc, c4⟩ := Bool.and_eq_true_iff.mp hc
    obtain ⟨hc, c3⟩ := Bool.and_eq_true_iff.mp hc
    obtain ⟨c1, c2⟩ := Bool.and_eq_true_iff.mp hc
    split at c1
    · rename_i m2 b w hcal
      obtain ⟨g1, g2⟩ := Bool.and_eq_true_iff.mp c1
      have e := Nat.eq_of_beq_eq_true g1
      subst e
      exact ⟨m2, b, w, as, r, .inr _, M1, k1, 0, hcal, by simpa using g2, hst, Nat.eq_of_beq_eq_true c3, c2, c4, e1, rfl, Or.inl ⟨hh, rfl, rfl, rfl⟩⟩
    · cases c1
  · rename_i j t k0 hi
    rw [hi]
    obtain ⟨hc, c4⟩ := Bool.and_eq_true_iff.mp hc
    obtain ⟨hc, c3⟩ := Bool.and_eq_true_iff.mp hc
    obtain ⟨c0, c1⟩ := Bool.and_eq_true_iff.mp hc
    have hs := Nat.eq_of_beq_eq_true c0
    split at c1
    · rename_i m2 b w hcal
      obtain ⟨g1, g2⟩ := Bool.and_eq_true_iff.mp c1
      have e := Nat.eq_of_beq_eq_true g1
      subst e
      dsimp only
      rw [hs]
      exact ⟨m2, b, w, as, r, .inr _, M1, k1, 0, hcal, g2, hst, Nat.eq_of_beq_eq_true c3, c4, e1, rfl, ⟨hh, rfl, rfl, rfl⟩⟩
    · cases c1
  · cases hc
/-- a callee throws, and m catches -/
theorem z_Ev_catch {m pc m' e h s : Nat} {as r : List AV} {ls : Lc} {st : List AV} {M M1 : Mem} {o : z_Rs} {M' : Mem} {k1 k2 : Nat} (hM : z_Mt xs L m' as M (.inr e) M1 k1) (hc : z_isC m pc m' as r = true) (hv : z_stc m' = false) (hst : st = as.reverse ++ r) (hh : z_han m e = some (h, s)) (hcv : z_cov m pc = true) (hk : z_Ev xs L m (h, z_set (z_clr ls s) s none, [], M1) o M' k2) : z_Ev xs L m (pc, ls, st, M) o M' (k1 + k2) := by
  obtain ⟨n1, hn1⟩ := hM
  obtain ⟨n2, hn2⟩ := hk
  have e1 := z_Ex_le hn1 (Nat.le_max_left n1 n2)
  have e2 := z_Ex_le hn2 (Nat.le_max_right n1 n2)
  refine ⟨max n1 n2 + 1, ?_⟩
  unfold z_isC at hc
  unfold z_Ex
  split at hc
  · rename_i j t k0 hi
    rw [hi]
    obtain ⟨hc, c4⟩ := Bool.and_eq_true_iff.mp hc
    obtain ⟨hc, c3⟩ := Bool.and_eq_true_iff.mp hc
    obtain ⟨c1, c2⟩ := Bool.and_eq_true_iff.mp hc
    split at c1
    · rename_i m2 b w hcal
      obtain ⟨g1, g2⟩ := Bool.and_eq_true_iff.mp c1
      have e := Nat.eq_of_beq_eq_true g1
      subst e
      exact ⟨m2, b, w, as, r, .inr _, M1, k1, k2, hcal, by simpa using g2, hst, Nat.eq_of_beq_eq_true c3, c2, c4, e1, rfl, Or.inr ⟨h, s, hh, hcv, e2⟩⟩
    · cases c1
  · obtain ⟨hc, c4⟩ := Bool.and_eq_true_iff.mp hc
    obtain ⟨hc, c3⟩ := Bool.and_eq_true_iff.mp hc
    obtain ⟨c0, c1⟩ := Bool.and_eq_true_iff.mp hc
    split at c1
    · obtain ⟨g1, g2⟩ := Bool.and_eq_true_iff.mp c1
      have e := Nat.eq_of_beq_eq_true g1
      subst e
      rw [hv] at g2
      cases g2
    · cases c1
  · cases hc
def z_isR (m pc : Nat) (i : Instr) : Bool := match z_ins m pc with
  | some (j, _, _) => decide (j = i)
  | none => false
theorem z_isR_use {m pc : Nat} {i : Instr} (h : z_isR m pc i = true) : ∃ t k0, z_ins m pc = some (i, t, k0) := by
  unfold z_isR at h
  split at h
  · rename_i j t k0 hj
    have e := of_decide_eq_true h
    subst e
    exact ⟨t, k0, hj⟩
  · cases h
theorem z_Ev_iret {m pc : Nat} {ls : Lc} {x : Int32} {M : Mem} (h : z_isR m pc .ireturn = true) (hr : z_rt m = 1) : z_Ev xs L m (pc, ls, [.inl x], M) (.inl (some (.inl x))) M 0 := by
  obtain ⟨t, k0, hi⟩ := z_isR_use h
  refine ⟨1, ?_⟩
  unfold z_Ex
  rw [hi]
  exact ⟨x, rfl, rfl, rfl, rfl, Or.inl hr⟩
theorem z_Ev_zret {m pc : Nat} {ls : Lc} {x : Int32} {M : Mem} (h : z_isR m pc .ireturn = true) (hr : z_rt m = 2) (hx : z_isB x = true) : z_Ev xs L m (pc, ls, [.inl x], M) (.inl (some (.inl x))) M 0 := by
  obtain ⟨t, k0, hi⟩ := z_isR_use h
  refine ⟨1, ?_⟩
  unfold z_Ex
  rw [hi]
  exact ⟨x, rfl, rfl, rfl, rfl, Or.inr ⟨hr, hx⟩⟩
theorem z_Ev_lret {m pc : Nat} {ls : Lc} {x : Int64} {M : Mem} (h : z_isR m pc .lreturn = true) (hr : z_rt m = 3) : z_Ev xs L m (pc, ls, [.inr (.inl x)], M) (.inl (some (.inr (.inl x)))) M 0 := by
  obtain ⟨t, k0, hi⟩ := z_isR_use h
  refine ⟨1, ?_⟩
  unfold z_Ex
  rw [hi]
  exact ⟨x, rfl, rfl, rfl, rfl, hr⟩
theorem z_Ev_dret {m pc : Nat} {ls : Lc} {x : UInt64} {M : Mem} (h : z_isR m pc .dreturn = true) (hr : z_rt m = 4) : z_Ev xs L m (pc, ls, [.inr (.inr (.inl x))], M) (.inl (some (.inr (.inr (.inl x))))) M 0 := by
  obtain ⟨t, k0, hi⟩ := z_isR_use h
  refine ⟨1, ?_⟩
  unfold z_Ex
  rw [hi]
  exact ⟨x, rfl, rfl, rfl, rfl, hr⟩
theorem z_Ev_vret {m pc : Nat} {ls : Lc} {M : Mem} (h : z_isR m pc .return_ = true) (hr : z_rt m = 0) : z_Ev xs L m (pc, ls, [], M) (.inl none) M 0 := by
  obtain ⟨t, k0, hi⟩ := z_isR_use h
  refine ⟨1, ?_⟩
  unfold z_Ex
  rw [hi]
  exact ⟨hr, rfl, rfl, rfl, rfl⟩
theorem z_Ev_throw {m pc e : Nat} {ls : Lc} {M : Mem} (hi : z_ins m pc = none) (ht : z_thr m pc = some e) : z_Ev xs L m (pc, ls, [], M) (.inr e) M 1 := by
  refine ⟨1, ?_⟩
  unfold z_Ex
  rw [hi]
  exact ⟨rfl, e, ht, rfl, rfl, rfl⟩
theorem z_Ev_iretE {m pc : Nat} {ls : Lc} {x y : Int32} {M M' : Mem} (h : z_isR m pc .ireturn = true) (hr : z_rt m = 1) (e : x = y) (eM : M = M') : z_Ev xs L m (pc, ls, [.inl x], M) (.inl (some (.inl y))) M' 0 := by
  subst e; subst eM
  exact z_Ev_iret h hr
theorem z_Ev_zretE {m pc : Nat} {ls : Lc} {x y : Int32} {M M' : Mem} (h : z_isR m pc .ireturn = true) (hr : z_rt m = 2) (hx : z_isB x = true) (e : x = y) (eM : M = M') : z_Ev xs L m (pc, ls, [.inl x], M) (.inl (some (.inl y))) M' 0 := by
  subst e; subst eM
  exact z_Ev_zret h hr hx
theorem z_Ev_lretE {m pc : Nat} {ls : Lc} {x y : Int64} {M M' : Mem} (h : z_isR m pc .lreturn = true) (hr : z_rt m = 3) (e : x = y) (eM : M = M') : z_Ev xs L m (pc, ls, [.inr (.inl x)], M) (.inl (some (.inr (.inl y)))) M' 0 := by
  subst e; subst eM
  exact z_Ev_lret h hr
theorem z_Ev_dretE {m pc : Nat} {ls : Lc} {x y : UInt64} {M M' : Mem} (h : z_isR m pc .dreturn = true) (hr : z_rt m = 4) (e : x = y) (eM : M = M') : z_Ev xs L m (pc, ls, [.inr (.inr (.inl x))], M) (.inl (some (.inr (.inr (.inl y))))) M' 0 := by
  subst e; subst eM
  exact z_Ev_dret h hr
theorem z_Ev_vretE {m pc : Nat} {ls : Lc} {M M' : Mem} (h : z_isR m pc .return_ = true) (hr : z_rt m = 0) (eM : M = M') : z_Ev xs L m (pc, ls, [], M) (.inl none) M' 0 := by
  subst eM
  exact z_Ev_vret h hr
end EV
