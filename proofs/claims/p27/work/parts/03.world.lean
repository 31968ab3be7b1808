/-! THE WORLD: the cells of both systems as one list, out of the memory -/
abbrev z_ad : Type := Nat → Nat → Nat
def cv (ad : z_ad) : AV → Value
  | .inl x => .int x
  | .inr (.inl x) => .long x
  | .inr (.inr (.inl x)) => .double x
  | .inr (.inr (.inr r)) => .ref (ad r.1 r.2)
theorem cv_cat (ad : z_ad) (v : AV) : (cv ad v).category = if z_cat2 v = true then 2 else 1 := by
  rcases v with x | x | x | x <;> rfl
def z_pts : List (Nat × Nat) :=
  (List.range 8).flatMap (fun f => [(f, 0), (f, 1), (f, 2), (f, 3), (f, 4), (f, 5), (f, 6), (f, 7), (f, 8), (f, 9), (f, 10), (f, 12)]) ++
  ((List.range 56).map (fun f => (f, 11)) ++ [(0, 16), (0, 17), (0, 18), (0, 19), (0, 20), (0, 21), (0, 22), (0, 23), (0, 24)])
def z_ix (f p : Nat) : Nat := z_pts.findIdx (fun q => Nat.beq q.1 f && Nat.beq q.2 p)
theorem z_ix_all : (List.range 56).all (fun f => (List.range 41).all (fun p => !(z_val f p) || decide (z_pts[z_ix f p]? = some (f, p)))) = true := by decide +kernel
theorem z_val_lt {f p : Nat} (h : z_val f p = true) : f < 56 ∧ p < 41 := by
  unfold z_val at h
  split at h <;> first | (have h1 := Nat.ble_eq.mp h; omega) | (have h1 := Nat.eq_of_beq_eq_true h; omega) | cases h
theorem z_ix_ok {f p : Nat} (h : z_val f p = true) : z_pts[z_ix f p]? = some (f, p) := by
  obtain ⟨h1, h2⟩ := z_val_lt h
  have h3 := List.all_eq_true.mp (List.all_eq_true.mp z_ix_all f (List.mem_range.mpr h1)) p (List.mem_range.mpr h2)
  rw [h] at h3
  simpa using h3
theorem z_pts_ix : (List.range z_pts.length).all (fun i => match z_pts[i]? with | some r => decide (z_ix r.1 r.2 = i) | none => true) = true := by decide +kernel
theorem z_pts_at {i : Nat} {r : Nat × Nat} (h : z_pts[i]? = some r) : z_ix r.1 r.2 = i := by
  have h1 := List.all_eq_true.mp z_pts_ix i (List.mem_range.mpr (List.getElem?_eq_some_iff.mp h).1)
  rw [h] at h1
  exact of_decide_eq_true h1
theorem z_pts_inj {i j : Nat} {r : Nat × Nat} (h : z_pts[i]? = some r) (h2 : z_pts[j]? = some r) : i = j := (z_pts_at h).symm.trans (z_pts_at h2)
theorem z_pts_val : z_pts.all (fun q => z_val q.1 q.2) = true := by decide +kernel
/-- an entry of the world -/
def z_en (ad : z_ad) (cs : Nat → ClassId) (M : Mem) (f p : Nat) : va_E := match z_obj p with
  | some (c, n) => .inr (c, (List.range n).map fun k => cv ad (z_rd M f p k))
  | none => match z_ak p with
    | 0 => .inl (cs 0, z_sz p, .inl (fun k => z_ri M f p k))
    | 1 => .inl (cs 1, 1, .inr (.inl (fun _ => M.2.2 1)))
    | 2 => .inl (cs 2, 6, .inr (.inr (.inr (.inr (fun k => some (ad (2 + k) 0))))))
    | _ => .inl (cs 3, 7, .inr (.inr (.inr (.inr (fun k => some (ad (7 * f + k) 11))))))
def z_W (ad : z_ad) (cs : Nat → ClassId) (M : Mem) : va_W := z_pts.map fun q => (ad q.1 q.2, z_en ad cs M q.1 q.2)
theorem z_W_get {ad : z_ad} {cs : Nat → ClassId} {M : Mem} {f p : Nat} (h : z_val f p = true) : (z_W ad cs M)[z_ix f p]? = some (ad f p, z_en ad cs M f p) := by
  unfold z_W
  rw [List.getElem?_map, z_ix_ok h]
  rfl
theorem z_W_set {ad : z_ad} {cs : Nat → ClassId} {M M' : Mem} {f p : Nat} {e : va_E} (h : z_val f p = true) (he : z_en ad cs M' f p = e) (ho : ∀ f' p', z_val f' p' = true → (f', p') ≠ (f, p) → z_en ad cs M f' p' = z_en ad cs M' f' p') :
    (z_W ad cs M).set (z_ix f p) (ad f p, e) = z_W ad cs M' := by
  apply List.ext_getElem?
  intro j
  rw [List.getElem?_set]
  unfold z_W
  have hix := z_ix_ok h
  by_cases hj : z_ix f p = j
  · subst hj
    rw [if_pos rfl]
    have hl : z_ix f p < z_pts.length := (List.getElem?_eq_some_iff.mp hix).1
    rw [if_pos (by rw [List.length_map]; exact hl), List.getElem?_map, hix, ← he]
    rfl
  · rw [if_neg hj, List.getElem?_map, List.getElem?_map]
    cases hq : z_pts[j]? with
    | none => rfl
    | some q =>
      have hne : (q.1, q.2) ≠ (f, p) := by
        intro e0
        have e1 : z_pts[j]? = some (f, p) := by rw [hq, ← e0]
        exact hj (z_pts_inj hix e1)
      show some (ad q.1 q.2, z_en ad cs M q.1 q.2) = some (ad q.1 q.2, z_en ad cs M' q.1 q.2)
      rw [ho q.1 q.2 (List.all_eq_true.mp z_pts_val q (List.mem_of_getElem? hq)) hne]
/-- the addresses are apart and new -/
def z_AD (A : Nat → Prop) (ad : z_ad) : Prop := (∀ f p f' p', z_val f p = true → z_val f' p' = true → ad f p = ad f' p' → (f, p) = (f', p')) ∧ ∀ f p, z_val f p = true → A (ad f p)
theorem z_W_D {A : Nat → Prop} {ad : z_ad} {cs : Nat → ClassId} {M : Mem} (h : z_AD A ad) : va_D A (z_W ad cs M) := by
  have hv : ∀ (i : Nat) (q : Nat × va_E), (z_W ad cs M)[i]? = some q → ∃ r, z_pts[i]? = some r ∧ z_val r.1 r.2 = true ∧ q.1 = ad r.1 r.2 := by
    intro i q hq
    unfold z_W at hq
    rw [List.getElem?_map] at hq
    cases hr : z_pts[i]? with
    | none => rw [hr] at hq; cases hq
    | some r =>
      rw [hr] at hq
      cases hq
      exact ⟨r, rfl, List.all_eq_true.mp z_pts_val r (List.mem_of_getElem? hr), rfl⟩
  refine ⟨fun i j x y hx hy e => ?_, fun i x hx => ?_⟩
  · obtain ⟨r, r1, r2, r3⟩ := hv i x hx
    obtain ⟨t, t1, t2, t3⟩ := hv j y hy
    have e2 := h.1 _ _ _ _ r2 t2 (by rw [← r3, ← t3]; exact e)
    have e3 : r = t := e2
    subst e3
    exact z_pts_inj r1 t1
  · obtain ⟨r, r1, r2, r3⟩ := hv i x hx
    rw [r3]
    exact h.2 _ _ r2
-- locals
/-- the known locals as the kit has them -/
def z_asc (ad : z_ad) : Nat → Lc → List (Nat × Value)
  | _, [] => []
  | i, some v :: t => (i, cv ad v) :: z_asc ad (i + 1) t
  | i, none :: t => z_asc ad (i + 1) t
theorem z_asc_in {ad : z_ad} : ∀ (ls : Lc) (i : Nat) (q : Nat × Value), q ∈ z_asc ad i ls ↔ ∃ j v, z_get ls j = some v ∧ q = (i + j, cv ad v)
  | [], i, q => by
    constructor
    · intro h; cases h
    · rintro ⟨j, v, h, -⟩; cases h
  | o :: t, i, q => by
    have ih := z_asc_in (ad := ad) t (i + 1) q
    cases o with
    | none =>
      show q ∈ z_asc ad (i + 1) t ↔ _
      rw [ih]
      constructor
      · rintro ⟨j, v, h, e⟩
        exact ⟨j + 1, v, h, by rw [e]; congr 1; omega⟩
      · rintro ⟨j, v, h, e⟩
        cases j with
        | zero => cases h
        | succ j => exact ⟨j, v, h, by rw [e]; congr 1; omega⟩
    | some w =>
      show q ∈ (i, cv ad w) :: z_asc ad (i + 1) t ↔ _
      rw [List.mem_cons, ih]
      constructor
      · rintro (e | ⟨j, v, h, e⟩)
        · exact ⟨0, w, rfl, e⟩
        · exact ⟨j + 1, v, h, by rw [e]; congr 1; omega⟩
      · rintro ⟨j, v, h, e⟩
        cases j with
        | zero => cases h; exact Or.inl e
        | succ j => exact Or.inr ⟨j, v, h, by rw [e]; congr 1; omega⟩
theorem z_get_set : ∀ (ls : Lc) (k : Nat) (o : Option AV) (j : Nat) (v : AV), z_get (z_set ls k o) j = some v → (j = k ∧ o = some v) ∨ (j ≠ k ∧ z_get ls j = some v)
  | [], _, _, _, _, h => by cases h
  | x :: t, 0, o, 0, v, h => Or.inl ⟨rfl, h⟩
  | x :: t, 0, o, j + 1, v, h => Or.inr ⟨by omega, h⟩
  | x :: t, k + 1, o, 0, v, h => Or.inr ⟨by omega, h⟩
  | x :: t, k + 1, o, j + 1, v, h => by
    rcases z_get_set t k o j v h with ⟨e1, e2⟩ | ⟨e1, e2⟩
    · exact Or.inl ⟨by omega, e2⟩
    · exact Or.inr ⟨by omega, e2⟩
theorem z_get_clr {ls : Lc} {k j : Nat} {v : AV} (h : z_get (z_clr ls k) j = some v) : z_get ls j = some v ∧ ¬ (j + 1 = k ∧ z_cat2 v = true) := by
  cases k with
  | zero => exact ⟨h, fun e => by omega⟩
  | succ k =>
    unfold z_clr at h
    dsimp only at h
    split at h
    · rename_i w hw
      cases hc : z_cat2 w with
      | true =>
        rw [hc] at h
        rcases z_get_set _ _ _ _ _ h with ⟨-, e2⟩ | ⟨e1, e2⟩
        · cases e2
        · exact ⟨e2, fun e => e1 (by omega)⟩
      | false =>
        rw [hc] at h
        refine ⟨h, fun e => ?_⟩
        have : j = k := by omega
        subst this
        have h' : z_get ls j = some v := h
        rw [hw] at h'
        cases h'
        rw [hc] at e
        cases e.2
    · rename_i hn
      refine ⟨h, fun e => ?_⟩
      have : j = k := by omega
      subst this
      rw [hn] at h
      cases h
theorem z_has_mem {LS : Array Slot} {n : Nat} {l l' : List (Nat × Value)} (h : lv_has LS n l) (hm : ∀ q ∈ l', q ∈ l) : lv_has LS n l' := ⟨h.1, h.2.1, fun q hq => h.2.2 q (hm q hq)⟩
theorem z_store1 {ad : z_ad} {LS' : Array Slot} {n k : Nat} {ls : Lc} {v : AV} (h : lv_has LS' n ((k, cv ad v) :: (z_asc ad 0 ls).filter (fun q => !(q.1 == k) && !(q.1 + 1 == k && q.2.category == 2)))) : lv_has LS' n (z_asc ad 0 (z_st1w ls k v)) := by
  refine z_has_mem h fun q hq => ?_
  obtain ⟨j, w, h1, h2⟩ := (z_asc_in _ _ _).mp hq
  unfold z_st1w at h1
  rcases z_get_set _ _ _ _ _ h1 with ⟨e1, e2⟩ | ⟨e1, e2⟩
  · subst e1
    cases e2
    rw [h2]
    simp
  · obtain ⟨g1, g2⟩ := z_get_clr e2
    refine List.mem_cons.mpr (Or.inr (List.mem_filter.mpr ⟨(z_asc_in _ _ _).mpr ⟨j, w, g1, h2⟩, ?_⟩))
    rw [h2]
    have hz : 0 + j = j := by omega
    simp only [hz]
    have a1 : (j == k) = false := by simpa using e1
    rw [a1]
    by_cases hk : j + 1 = k
    · have a2 : z_cat2 w = false := by
        cases hc : z_cat2 w
        · rfl
        · exact absurd ⟨hk, hc⟩ g2
      rw [cv_cat, a2]
      simp
    · have a3 : (j + 1 == k) = false := by simpa using hk
      rw [a3]
      rfl
theorem z_store2 {ad : z_ad} {LS' : Array Slot} {n k : Nat} {ls : Lc} {v : AV} (h : lv_has LS' n ((k, cv ad v) :: (z_asc ad 0 ls).filter (fun q => !(q.1 == k) && (!(q.1 == k + 1) && !(q.1 + 1 == k && q.2.category == 2))))) : lv_has LS' n (z_asc ad 0 (z_st2w ls k v)) := by
  refine z_has_mem h fun q hq => ?_
  obtain ⟨j, w, h1, h2⟩ := (z_asc_in _ _ _).mp hq
  unfold z_st2w at h1
  rcases z_get_set _ _ _ _ _ h1 with ⟨-, e2⟩ | ⟨e0, h1⟩
  · cases e2
  · rcases z_get_set _ _ _ _ _ h1 with ⟨e1, e2⟩ | ⟨e1, e2⟩
    · subst e1
      cases e2
      rw [h2]
      simp
    · obtain ⟨g1, g2⟩ := z_get_clr e2
      refine List.mem_cons.mpr (Or.inr (List.mem_filter.mpr ⟨(z_asc_in _ _ _).mpr ⟨j, w, g1, h2⟩, ?_⟩))
      rw [h2]
      have hz : 0 + j = j := by omega
      simp only [hz]
      have a1 : (j == k) = false := by simpa using e1
      have a4 : (j == k + 1) = false := by simpa using e0
      rw [a1, a4]
      by_cases hk : j + 1 = k
      · have a2 : z_cat2 w = false := by
          cases hc : z_cat2 w
          · rfl
          · exact absurd ⟨hk, hc⟩ g2
        rw [cv_cat, a2]
        simp
      · have a3 : (j + 1 == k) = false := by simpa using hk
        rw [a3]
        rfl
theorem z_store0 {ad : z_ad} {LS' : Array Slot} {n k : Nat} {ls : Lc} {V : Value} (h : lv_has LS' n ((k, V) :: (z_asc ad 0 ls).filter (fun q => !(q.1 == k) && !(q.1 + 1 == k && q.2.category == 2)))) : lv_has LS' n (z_asc ad 0 (z_set (z_clr ls k) k none)) := by
  refine z_has_mem h fun q hq => ?_
  obtain ⟨j, w, h1, h2⟩ := (z_asc_in _ _ _).mp hq
  rcases z_get_set _ _ _ _ _ h1 with ⟨e1, e2⟩ | ⟨e1, e2⟩
  · cases e2
  · obtain ⟨g1, g2⟩ := z_get_clr e2
    refine List.mem_cons.mpr (Or.inr (List.mem_filter.mpr ⟨(z_asc_in _ _ _).mpr ⟨j, w, g1, h2⟩, ?_⟩))
    rw [h2]
    have hz : 0 + j = j := by omega
    simp only [hz]
    have a1 : (j == k) = false := by simpa using e1
    rw [a1]
    by_cases hk : j + 1 = k
    · have a2 : z_cat2 w = false := by
        cases hc : z_cat2 w
        · rfl
        · exact absurd ⟨hk, hc⟩ g2
      rw [cv_cat, a2]
      simp
    · have a3 : (j + 1 == k) = false := by simpa using hk
      rw [a3]
      rfl
theorem z_at {ad : z_ad} {LS : Array Slot} {n k : Nat} {ls : Lc} {v : AV} (h : lv_has LS n (z_asc ad 0 ls)) (hg : z_get ls k = some v) : LS[k]? = some (.val (cv ad v)) := by
  have h1 := h.2.2 (k, cv ad v) ((z_asc_in _ _ _).mpr ⟨k, v, hg, by rw [Nat.zero_add]⟩)
  exact h1
-- references stay good
theorem z_okL_get : ∀ {ls : Lc} {k : Nat} {v : AV}, z_okL ls = true → z_get ls k = some v → z_okv v = true
  | x :: t, 0, v, h, hg => by
    have e : x = some v := hg
    subst e
    have h' : (z_okv v && z_okL t) = true := h
    exact (Bool.and_eq_true_iff.mp h').1
  | x :: t, k + 1, v, h, hg => by
    refine z_okL_get (ls := t) (k := k) ?_ hg
    cases x with
    | none => exact h
    | some w =>
      have h' : (z_okv w && z_okL t) = true := h
      exact (Bool.and_eq_true_iff.mp h').2
theorem z_okL_set : ∀ {ls : Lc} {k : Nat} {o : Option AV}, z_okL ls = true → (∀ v, o = some v → z_okv v = true) → z_okL (z_set ls k o) = true
  | [], _, _, h, _ => h
  | x :: t, 0, o, h, ho => by
    have ht : z_okL t = true := by
      cases x with
      | none => exact h
      | some w =>
        have h' : (z_okv w && z_okL t) = true := h
        exact (Bool.and_eq_true_iff.mp h').2
    cases o with
    | none => exact ht
    | some w =>
      show (z_okv w && z_okL t) = true
      rw [ho w rfl, ht]
      rfl
  | x :: t, k + 1, o, h, ho => by
    cases x with
    | none => exact z_okL_set (ls := t) (k := k) h ho
    | some w =>
      have h' : (z_okv w && z_okL t) = true := h
      show (z_okv w && z_okL (z_set t k o)) = true
      rw [(Bool.and_eq_true_iff.mp h').1, z_okL_set (Bool.and_eq_true_iff.mp h').2 ho]
      rfl
theorem z_okL_clr {ls : Lc} {k : Nat} (h : z_okL ls = true) : z_okL (z_clr ls k) = true := by
  cases k with
  | zero => exact h
  | succ k =>
    unfold z_clr
    dsimp only
    split
    · rename_i v hv
      cases z_cat2 v
      · exact h
      · exact z_okL_set h (fun _ e => by cases e)
    · exact h
theorem z_okL_1 {ls : Lc} {k : Nat} {v : AV} (h : z_okL ls = true) (hv : z_okv v = true) : z_okL (z_st1w ls k v) = true := z_okL_set (z_okL_clr h) (fun w e => by cases e; exact hv)
theorem z_okL_2 {ls : Lc} {k : Nat} {v : AV} (h : z_okL ls = true) (hv : z_okv v = true) : z_okL (z_st2w ls k v) = true := z_okL_set (z_okL_set (z_okL_clr h) (fun w e => by cases e; exact hv)) (fun w e => by cases e)

-- what a store does to the entries
theorem z_val_m {f p : Nat} (h : z_val f p = true) (hp : Nat.blt p 32 = false) : f = 0 := by
  unfold z_val at h
  split at h <;> first | exact Nat.eq_of_beq_eq_true h | (exact absurd hp (by decide)) | cases h
theorem z_ri_wi {M : Mem} {f p k f' p' k' : Nat} {v : Int32} (h : z_val f p = true) (h' : z_val f' p' = true) : z_ri (z_wi M f p k v) f' p' k' = if f' = f ∧ p' = p ∧ k' = k then v else z_ri M f' p' k' := by
  have hm := z_val_m h
  have hm' := z_val_m h'
  unfold z_ri z_wi
  cases e : Nat.blt p 32 <;> cases e' : Nat.blt p' 32
  · have a := hm e
    have a' := hm' e'
    subst a; subst a'
    show up2 M.2.1 p k v p' k' = _
    unfold up2
    by_cases c : p' = p
    · subst c
      rw [if_pos rfl]
      unfold upd
      by_cases d : k' = k
      · rw [if_pos d, if_pos ⟨rfl, rfl, d⟩]
      · rw [if_neg d, if_neg (fun q => d q.2.2)]
        rfl
    · rw [if_neg c, if_neg (fun q => c q.2.1)]
      rfl
  · have c : ¬ p' = p := fun q => by rw [q, e] at e'; cases e'
    rw [if_neg (fun q => c q.2.1)]
    rfl
  · have c : ¬ p' = p := fun q => by rw [q, e] at e'; cases e'
    rw [if_neg (fun q => c q.2.1)]
    rfl
  · show up3 M.1 f p k v f' p' k' = _
    unfold up3
    by_cases b : p' = p ∧ f' = f
    · obtain ⟨rfl, rfl⟩ := b
      rw [if_pos ⟨rfl, rfl⟩]
      unfold upd
      by_cases d : k' = k
      · rw [if_pos d, if_pos ⟨rfl, rfl, d⟩]
      · rw [if_neg d, if_neg (fun q => d q.2.2)]
        rfl
    · rw [if_neg b, if_neg (fun q => b ⟨q.2.1, q.1⟩)]
      rfl
theorem z_wi_L {M : Mem} {f p k : Nat} {v : Int32} : (z_wi M f p k v).2.2 = M.2.2 := by
  unfold z_wi
  cases Nat.blt p 32 <;> rfl
theorem z_rd_wi {M : Mem} {f p k f' p' k' : Nat} {v y : Int32} (h : z_val f p = true) (h' : z_val f' p' = true) (hy : z_rd M f p k = .inl y) : z_rd (z_wi M f p k v) f' p' k' = if f' = f ∧ p' = p ∧ k' = k then .inl v else z_rd M f' p' k' := by
  unfold z_rd at hy ⊢
  rw [z_wi_L, z_ri_wi h h']
  cases hr : z_rk f' p' k' with
  | some r =>
    have c : ¬ (f' = f ∧ p' = p ∧ k' = k) := by
      rintro ⟨rfl, rfl, rfl⟩
      rw [hr] at hy
      dsimp only at hy
      subst hy
      revert hr
      unfold z_rk
      repeat' split
      all_goals (intro q; cases q)
    simp only [if_neg c]
  | none =>
    dsimp only
    by_cases c : f' = f ∧ p' = p ∧ k' = k
    · rw [if_pos c, if_pos c]
      obtain ⟨rfl, rfl, rfl⟩ := c
      rw [hr] at hy
      dsimp only at hy
      cases e : (Nat.beq p' 32 && Nat.beq k' 18)
      · rfl
      · rw [e] at hy; cases hy
    · rw [if_neg c, if_neg c]
/-- a cell of ints, written at a place -/
theorem z_en_arr {ad : z_ad} {cs : Nat → ClassId} {M : Mem} {f p k : Nat} {v : Int32} (h : z_val f p = true) (ho : z_obj p = none) (ha : z_ak p = 0) :
    z_en ad cs (z_wi M f p k v) f p = .inl (cs 0, z_sz p, .inl (upd (fun j => z_ri M f p j) k v)) := by
  unfold z_en
  rw [ho]
  dsimp only
  rw [ha]
  show (Sum.inl (cs 0, z_sz p, Sum.inl (fun j => z_ri (z_wi M f p k v) f p j)) : va_E) = _
  refine congrArg (fun g => (Sum.inl (cs 0, z_sz p, Sum.inl g) : va_E)) (funext fun j => ?_)
  rw [z_ri_wi h h]
  unfold upd
  by_cases d : j = k
  · rw [if_pos ⟨rfl, rfl, d⟩, if_pos d]
  · rw [if_neg (fun q => d q.2.2), if_neg d]
theorem z_en_ne {ad : z_ad} {cs : Nat → ClassId} {M M' : Mem} {f' p' : Nat} (hi : ∀ k, z_ri M' f' p' k = z_ri M f' p' k) (hd : ∀ k, z_rd M' f' p' k = z_rd M f' p' k) (hl : M'.2.2 1 = M.2.2 1) : z_en ad cs M f' p' = z_en ad cs M' f' p' := by
  unfold z_en
  simp only [hi, hd, hl]
theorem z_en_obj {ad : z_ad} {cs : Nat → ClassId} {M : Mem} {f p k c n : Nat} {v y : Int32} (h : z_val f p = true) (ho : z_obj p = some (c, n)) (hy : z_rd M f p k = .inl y) (hk : k < n) :
    z_en ad cs (z_wi M f p k v) f p = .inr (c, ((List.range n).map fun j => cv ad (z_rd M f p j)).set k (.int v)) := by
  unfold z_en
  rw [ho]
  dsimp only
  congr 2
  apply List.ext_getElem?
  intro j
  rw [List.getElem?_set, List.getElem?_map, List.getElem?_map]
  by_cases hj : k = j
  · subst hj
    rw [if_pos rfl, if_pos (by simpa using hk), List.getElem?_range hk]
    show some (cv ad (z_rd (z_wi M f p k v) f p k)) = _
    rw [z_rd_wi h h hy, if_pos ⟨rfl, rfl, rfl⟩]
    rfl
  · rw [if_neg hj]
    cases hq : (List.range n)[j]? with
    | none => rfl
    | some q =>
      have e : q = j := by
        have h1 := (List.getElem?_eq_some_iff.mp hq).2
        simpa using h1.symm
      subst e
      show some (cv ad (z_rd (z_wi M f p k v) f p q)) = some (cv ad (z_rd M f p q))
      rw [z_rd_wi h h hy, if_neg (fun w => hj w.2.2.symm)]
theorem z_wi_ne {ad : z_ad} {cs : Nat → ClassId} {M : Mem} {f p k f' p' : Nat} {v : Int32} (h : z_val f p = true) (h' : z_val f' p' = true) (hne : (f', p') ≠ (f, p)) : z_en ad cs M f' p' = z_en ad cs (z_wi M f p k v) f' p' := by
  have hx : ∀ k' : Nat, ¬ (f' = f ∧ p' = p ∧ k' = k) := fun k' q => hne (by rw [q.1, q.2.1])
  refine z_en_ne (fun j => by rw [z_ri_wi h h', if_neg (hx j)]) (fun j => ?_) (by rw [z_wi_L])
  unfold z_rd
  rw [z_wi_L, z_ri_wi h h', if_neg (hx j)]
