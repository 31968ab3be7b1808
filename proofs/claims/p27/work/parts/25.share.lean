/-! PURE: the class's sharing is the model's -/
theorem fnd_lt {x : Int32} (h : fnd x) : x.toNatClampNeg < 4 := by
  rcases h with h | h | h | h | h <;> subst h <;> decide
def k4 : List Int32 := [0, 1, 2, 3]
theorem chS_congr {f g : Nat → Int32} (h : ∀ j, j < 4 → f j = g j) {mask k found : Int32} (hk : fnd k) (hf : fnd found) : chS f mask k found = chS g mask k found := by
  unfold chS
  rw [h _ (fnd_lt hk), h _ (fnd_lt hf)]
theorem chF_congr {f g : Nat → Int32} (h : ∀ j, j < 4 → f j = g j) (mask : Int32) : chF f mask = chF g mask := by
  unfold chF
  rw [chS_congr h f0 fm, chS_congr h f1 (chS_fnd f0 fm), chS_congr h f2 (chS_fnd f1 (chS_fnd f0 fm)), chS_congr h f3 (chS_fnd f2 (chS_fnd f1 (chS_fnd f0 fm)))]
theorem m16_bit : m16.all (fun r => k4.all (fun k => !(hs r k) || (decide (r &&& ((1 <<< (k &&& 31)) ^^^ (-1 : Int32)) = r - (1 <<< (k &&& 31))) && decide (r - (1 <<< (k &&& 31)) ∈ m16) && decide (popc (r - (1 <<< (k &&& 31))) + 1 = popc r) && k4.all (fun j => decide (hs (r - (1 <<< (k &&& 31))) j = (hs r j && decide (j ≠ k))))))) = true := by decide +kernel
theorem m16_b {r k : Int32} (hr : r ∈ m16) (hk : k ∈ k4) (h : hs r k = true) : (r &&& ((1 <<< (k &&& 31)) ^^^ (-1 : Int32)) = r - (1 <<< (k &&& 31))) ∧ r - (1 <<< (k &&& 31)) ∈ m16 ∧ popc (r - (1 <<< (k &&& 31))) + 1 = popc r ∧ ∀ j, j ∈ k4 → hs (r - (1 <<< (k &&& 31))) j = (hs r j && decide (j ≠ k)) := by
  have q := List.all_eq_true.mp (List.all_eq_true.mp m16_bit r hr) k hk
  rw [h] at q
  have q2 := q
  simp only [Bool.not_true, Bool.false_or, Bool.and_eq_true] at q2
  obtain ⟨⟨⟨a, b⟩, c⟩, d⟩ := q2
  exact ⟨of_decide_eq_true a, of_decide_eq_true b, of_decide_eq_true c, fun j hj => of_decide_eq_true (List.all_eq_true.mp d j hj)⟩
theorem k4_of {x : Int32} (h : x = 0 ∨ x = 1 ∨ x = 2 ∨ x = 3) : x ∈ k4 := by
  rcases h with h | h | h | h <;> subst h <;> decide
theorem k4_lt {x : Int32} (h : x ∈ k4) : x.toNatClampNeg < 4 := by
  have q : k4.all (fun x => decide (x.toNatClampNeg < 4)) = true := by decide +kernel
  exact of_decide_eq_true (List.all_eq_true.mp q x h)
theorem k4_inj {x y : Int32} (hx : x ∈ k4) (hy : y ∈ k4) (h : x.toNatClampNeg = y.toNatClampNeg) : x = y := by
  have q : k4.all (fun x => k4.all (fun y => !(decide (x.toNatClampNeg = y.toNatClampNeg)) || decide (x = y))) = true := by decide +kernel
  have q2 := List.all_eq_true.mp (List.all_eq_true.mp q x hx) y hy
  rw [decide_eq_true h] at q2
  exact of_decide_eq_true (by simpa using q2)
theorem upd_id {f : Nat → Int32} {k : Nat} {v : Int32} (h : v = f k) : upd f k v = f := by
  funext j
  unfold upd
  split
  · rename_i e; rw [e, h]
  · rfl
theorem m16_0 {r : Int32} (h : r ∈ m16) (h0 : ¬ 0 < r) : r = 0 := by
  have q := List.all_eq_true.mp m16_popc r h
  simp only [Bool.and_eq_true, Bool.or_eq_true] at q
  rcases q.2 with q | q
  · exact absurd (of_decide_eq_true q) h0
  · exact of_decide_eq_true q
theorem gv_z {g mer : Nat → Int32} : ∀ (n : Nat) (rest : Int32) (ld : Nat → Int32), rest ∈ m16 → (∀ k, k ∈ k4 → hs rest k = true → 0 ≤ g k.toNatClampNeg - ld k.toNatClampNeg) → gv g mer n rest 0 ld = (ld, 0) := by
  intro n
  induction n with
  | zero => intro rest ld _ _; rfl
  | succ n ih =>
    intro rest ld hr hg
    by_cases h0 : 0 < rest
    · obtain ⟨q1, q2⟩ := chF_in (mer := mer) hr h0
      have hk := k4_of q2
      obtain ⟨b1, b2, b3, b4⟩ := m16_b hr hk q1
      rw [gv_k h0 rfl, if_pos (hg _ hk q1), Int32.sub_self, Int32.add_zero, upd_id rfl]
      refine ih _ _ b2 fun k hk2 hh => hg k hk2 ?_
      rw [b4 k hk2] at hh
      exact (Bool.and_eq_true_iff.mp hh).1
    · rw [gv_0 h0]
theorem cgv_gv {g l mer : Nat → Int32} (hgl : ∀ j, j < 4 → 0 ≤ g j - l j) : ∀ (n : Nat) (rest left : Int32) (ld : Nat → Int32), rest ∈ m16 → 0 ≤ left → (∀ k, k ∈ k4 → hs rest k = true → ld k.toNatClampNeg = l k.toNatClampNeg) → cgv g l mer n rest left ld = gv g mer n rest left ld := by
  intro n
  induction n with
  | zero => intro rest left ld _ _ _; rfl
  | succ n ih =>
    intro rest left ld hr hl hld
    by_cases h0 : 0 < rest
    · obtain ⟨q1, q2⟩ := chF_in (mer := mer) hr h0
      have hk := k4_of q2
      obtain ⟨b1, b2, b3, b4⟩ := m16_b hr hk q1
      by_cases hp : 0 < left
      · rw [gv_k h0 rfl, cgv_k hp rfl (by rcases q2 with e | e | e | e <;> rw [e] <;> decide), b1, hld _ hk q1]
        have hm : (if g (chF mer rest).toNatClampNeg - l (chF mer rest).toNatClampNeg < left then g (chF mer rest).toNatClampNeg - l (chF mer rest).toNatClampNeg else left) = (if left ≤ g (chF mer rest).toNatClampNeg - l (chF mer rest).toNatClampNeg then left else g (chF mer rest).toNatClampNeg - l (chF mer rest).toNatClampNeg) := by
          by_cases e : left ≤ g (chF mer rest).toNatClampNeg - l (chF mer rest).toNatClampNeg
          · rw [if_neg (Int32.not_lt.mpr e), if_pos e]
          · rw [if_pos (Int32.not_le.mp e), if_neg e]
        rw [hm]
        refine ih _ _ _ b2 ?_ ?_
        · have hd := hgl _ (k4_lt hk)
          generalize g (chF mer rest).toNatClampNeg - l (chF mer rest).toNatClampNeg = d at hd ⊢
          split
          · rw [Int32.sub_self]; exact Int32.le_refl _
          · rename_i e
            rw [i_le] at hl hd e ⊢
            have := i_lo left
            have := i_hi left
            have := i_hi d
            rw [t0] at *
            rw [i_sub (by omega) (by omega)]
            omega
        · intro k hk2 hh
          rw [b4 k hk2] at hh
          obtain ⟨c1, c2⟩ := Bool.and_eq_true_iff.mp hh
          unfold upd
          rw [if_neg (fun e => of_decide_eq_true c2 (k4_inj hk2 hk e))]
          exact hld k hk2 c1
      · have hz : left = 0 := by
          rw [i_le] at hl
          rw [i_lt] at hp
          rw [← Int32.toInt_inj]
          rw [t0] at *
          omega
        subst hz
        rw [cgv_0 hp, gv_z _ _ _ hr]
        intro k hk2 hh
        rw [hld k hk2 hh]
        exact hgl _ (k4_lt hk2)
    · rw [gv_0 h0]
      have e := m16_0 hr h0
      subst e
      exact cgv_m rfl
theorem gv_congr {g g' mer mer' : Nat → Int32} (hg : ∀ j, j < 4 → g j = g' j) (hm : ∀ j, j < 4 → mer j = mer' j) : ∀ (n : Nat) (rest left : Int32) (ld ld' : Nat → Int32), (∀ j, j < 4 → ld j = ld' j) → (gv g mer n rest left ld).2 = (gv g' mer' n rest left ld').2 ∧ ∀ j, j < 4 → (gv g mer n rest left ld).1 j = (gv g' mer' n rest left ld').1 j := by
  intro n
  induction n with
  | zero => intro rest left ld ld' h; exact ⟨rfl, h⟩
  | succ n ih =>
    intro rest left ld ld' h
    by_cases h0 : 0 < rest
    · rw [gv_k h0 rfl, gv_k h0 rfl, ← chF_congr hm rest]
      have hk := fnd_lt (chF_fnd mer rest)
      rw [← hg _ hk, ← h _ hk]
      refine ih _ _ _ _ fun j hj => ?_
      unfold upd
      split
      · rfl
      · exact h j hj
    · rw [gv_0 h0, gv_0 h0]
      exact ⟨rfl, h⟩
theorem gv_eq {g g' mer mer' : Nat → Int32} (hg : ∀ j, j < 4 → g j = g' j) (hm : ∀ j, j < 4 → mer j = mer' j) : ∀ (n : Nat) (rest left : Int32) (ld : Nat → Int32), gv g mer n rest left ld = gv g' mer' n rest left ld := by
  intro n
  induction n with
  | zero => intro rest left ld; rfl
  | succ n ih =>
    intro rest left ld
    by_cases h0 : 0 < rest
    · rw [gv_k h0 rfl, gv_k h0 rfl, ← chF_congr hm rest]
      have hk := fnd_lt (chF_fnd mer rest)
      rw [← hg _ hk]
      exact ih _ _ _
    · rw [gv_0 h0, gv_0 h0]
/-- what was given and what is left are together what was there -/
theorem gv_sum {g mer : Nat → Int32} : ∀ (n : Nat) (rest left : Int32) (ld : Nat → Int32), (gv g mer n rest left ld).1 0 + (gv g mer n rest left ld).1 1 + (gv g mer n rest left ld).1 2 + (gv g mer n rest left ld).1 3 + (gv g mer n rest left ld).2 = ld 0 + ld 1 + ld 2 + ld 3 + left := by
  intro n
  induction n with
  | zero => intro rest left ld; rfl
  | succ n ih =>
    intro rest left ld
    by_cases h0 : 0 < rest
    · rw [gv_k h0 rfl, ih]
      have hk := fnd_lt (chF_fnd mer rest)
      generalize (if left ≤ g (chF mer rest).toNatClampNeg - ld (chF mer rest).toNatClampNeg then left else g (chF mer rest).toNatClampNeg - ld (chF mer rest).toNatClampNeg) = m
      generalize (chF mer rest).toNatClampNeg = k at hk ⊢
      have hc : k = 0 ∨ k = 1 ∨ k = 2 ∨ k = 3 := by omega
      rcases hc with e | e | e | e <;> subst e <;> simp [upd] <;> grind
    · rw [gv_0 h0]
def sI (p : Nat) (s : Nat → Int32) : Nat → Int32 := fun k => bif Nat.blt k 4 then s (4 * (p - 2) + k) else 0
def cI (s : Nat → Int32) : Nat → Nat → Nat → Int32 := fun _ p => sI p s
theorem aS_0 {c v : Int32} : aS false c v = c := rfl
theorem aS_1 {c v : Int32} : aS true c v = c + v := rfl
theorem sh_sum {s : Nat → Int32} {mask : Int32} : cSum (cI s) 0 3 mask = sx (md g0 s) mask 0 4 + sx (md g0 s) mask 1 5 + sx (md g0 s) mask 2 6 + sx (md g0 s) mask 3 7 := by
  unfold cSum sx
  rw [show cI s 0 3 0 = s 4 from rfl, show cI s 0 3 1 = s 5 from rfl, show cI s 0 3 2 = s 6 from rfl, show cI s 0 3 3 = s 7 from rfl, md_33]
  cases hs mask 0 <;> cases hs mask 1 <;> cases hs mask 2 <;> cases hs mask 3 <;> simp [aS]
theorem sh_could {s : Nat → Int32} {mask : Int32} : cSum (cI s) 0 2 mask = sCould (md g0 s) mask := by
  unfold cSum sCould sx
  rw [show cI s 0 2 0 = s 0 from rfl, show cI s 0 2 1 = s 1 from rfl, show cI s 0 2 2 = s 2 from rfl, show cI s 0 2 3 = s 3 from rfl, md_33]
  cases hs mask 0 <;> cases hs mask 1 <;> cases hs mask 2 <;> cases hs mask 3 <;> simp [aS]
theorem sh_left {s : Nat → Int32} {due mask : Int32} : due - cSum (cI s) 0 3 mask = sLeft (md g0 s) due mask := by
  rw [sh_sum]
  unfold sLeft
  grind
def okk (s : Nat → Int32) (k : Nat) : Prop := (50 ≤ (s k).toInt ∧ (s k).toInt ≤ 500) ∧ (0 ≤ (s (4 + k)).toInt ∧ (s (4 + k)).toInt ≤ (s k).toInt) ∧ (1 ≤ (s (8 + k)).toInt ∧ (s (8 + k)).toInt ≤ 99) ∧ (0 ≤ (s (12 + k)).toInt ∧ (s (12 + k)).toInt ≤ 4) ∧ (0 ≤ (s (16 + k)).toInt ∧ (s (16 + k)).toInt ≤ 3) ∧ (s (16 + k) = 1 → 0 < s (20 + k)) ∧ (0 ≤ (s (20 + k)).toInt ∧ (s (20 + k)).toInt ≤ 4)
/-- a sum's bounds -/
theorem sh_sumB {s : Nat → Int32} {mask : Int32} (h : ∀ k, k < 4 → okk s k) : 0 ≤ (cSum (cI s) 0 3 mask).toInt ∧ (cSum (cI s) 0 3 mask).toInt ≤ 2000 := by
  have a0 := (h 0 (by decide)); have a1 := (h 1 (by decide)); have a2 := (h 2 (by decide)); have a3 := (h 3 (by decide))
  obtain ⟨g0, l0, -⟩ := a0
  obtain ⟨g1, l1, -⟩ := a1
  obtain ⟨g2, l2, -⟩ := a2
  obtain ⟨g3, l3, -⟩ := a3
  have hz : ∀ (b : Bool) (acc v : Int32) (N : Int), 0 ≤ acc.toInt → acc.toInt ≤ N → 0 ≤ v.toInt → v.toInt ≤ 500 → N ≤ 1500 → 0 ≤ (aS b acc v).toInt ∧ (aS b acc v).toInt ≤ N + 500 := by
    intro b acc v N c1 c2 c3 c4 c5
    cases b
    · rw [aS_0]; omega
    · rw [aS_1, i_add (by omega) (by omega)]; omega
  unfold cSum
  rw [show cI s 0 3 0 = s 4 from rfl, show cI s 0 3 1 = s 5 from rfl, show cI s 0 3 2 = s 6 from rfl, show cI s 0 3 3 = s 7 from rfl]
  have e0 := hz (hs mask 0) 0 (s 4) 0 (by rw [t0]; omega) (by rw [t0]; omega) l0.1 (Int.le_trans l0.2 g0.2) (by omega)
  have e1 := hz (hs mask 1) _ (s 5) _ e0.1 e0.2 l1.1 (Int.le_trans l1.2 g1.2) (by omega)
  have e2 := hz (hs mask 2) _ (s 6) _ e1.1 e1.2 l2.1 (Int.le_trans l2.2 g2.2) (by omega)
  have e3 := hz (hs mask 3) _ (s 7) _ e2.1 e2.2 l3.1 (Int.le_trans l3.2 g3.2) (by omega)
  omega
theorem sh_gl {s : Nat → Int32} (h : ∀ k, k < 4 → okk s k) : ∀ j, j < 4 → 0 ≤ sI 2 s j - sI 3 s j := by
  intro j hj
  obtain ⟨g, l, -⟩ := h j hj
  have e1 : sI 2 s j = s j := by
    unfold sI
    rw [show Nat.blt j 4 = true from Nat.ble_eq.mpr hj]
    show s (4 * (2 - 2) + j) = s j
    rw [show 4 * (2 - 2) + j = j by omega]
  have e2 : sI 3 s j = s (4 + j) := by
    unfold sI
    rw [show Nat.blt j 4 = true from Nat.ble_eq.mpr hj]
    rfl
  rw [e1, e2, i_le, t0, i_sub (by omega) (by omega)]
  omega
theorem sh_ld0 {s ld : Nat → Int32} {mask : Int32} : cLd0 (cI s) 0 mask ld = sLd0 (md g0 s) mask ld := by
  unfold cLd0 sLd0 sx aZ
  rfl
theorem sLd0_at {s ld : Nat → Int32} {mask : Int32} : sLd0 (md g0 s) mask ld 0 = sx (md g0 s) mask 0 4 ∧ sLd0 (md g0 s) mask ld 1 = sx (md g0 s) mask 1 5 ∧ sLd0 (md g0 s) mask ld 2 = sx (md g0 s) mask 2 6 ∧ sLd0 (md g0 s) mask ld 3 = sx (md g0 s) mask 3 7 := ⟨rfl, rfl, rfl, rfl⟩
/-- what is shared out -/
theorem sh_gv {s ld : Nat → Int32} {due mask : Int32} (h : ∀ k, k < 4 → okk s k) (hm : mask ∈ m16) (hd : 0 ≤ due.toInt ∧ due.toInt ≤ 1800) : cGv (cI s) 0 mask due ld = sGv (md g0 s) due mask ld := by
  unfold cGv sGv
  rw [sh_left, sh_ld0]
  have hB := sh_sumB (mask := mask) h
  have e : (if sLeft (md g0 s) due mask < 0 then 0 else sLeft (md g0 s) due mask) = (if 0 ≤ sLeft (md g0 s) due mask then sLeft (md g0 s) due mask else 0) := by
    by_cases q : 0 ≤ sLeft (md g0 s) due mask
    · rw [if_pos q, if_neg (Int32.not_lt.mpr q)]
    · rw [if_neg q, if_pos (Int32.not_le.mp q)]
  rw [e]
  show cgv (sI 2 s) (sI 3 s) (sI 4 s) 4 mask _ _ = _
  have hgl := sh_gl h
  rw [cgv_gv hgl 4 mask _ _ hm (by split; · assumption
                                   · exact Int32.le_refl _)]
  · have hG : ∀ j, j < 4 → sI 2 s j = mG (md g0 s) j := by
      intro j hj
      unfold sI mG
      rw [show Nat.blt j 4 = true from Nat.ble_eq.mpr hj, md_33, show 4 * (2 - 2) + j = j by omega]
      rfl
    have hM : ∀ j, j < 4 → sI 4 s j = mM (md g0 s) j := by
      intro j hj
      unfold sI mM
      rw [show Nat.blt j 4 = true from Nat.ble_eq.mpr hj, md_33]
      rfl
    exact gv_eq hG hM _ _ _ _
  · intro k hk hh
    have hz : k = 0 ∨ k = 1 ∨ k = 2 ∨ k = 3 := by simpa [k4] using hk
    rcases hz with e | e | e | e <;> subst e
    · show sx (md g0 s) mask 0 4 = s 4
      unfold sx; rw [if_pos hh]; rfl
    · show sx (md g0 s) mask 1 5 = s 5
      unfold sx; rw [if_pos hh]; rfl
    · show sx (md g0 s) mask 2 6 = s 6
      unfold sx; rw [if_pos hh]; rfl
    · show sx (md g0 s) mask 3 7 = s 7
      unfold sx; rw [if_pos hh]; rfl
theorem sEn_iff {D : Nat → Nat → Int32} {all mask could dk : Int32} : sEn D all mask could dk = f_b (dk = 0 ∧ (hs mask 0 = true → ¬ could - D 33 0 < all) ∧ (hs mask 1 = true → ¬ could - D 33 1 < all) ∧ (hs mask 2 = true → ¬ could - D 33 2 < all) ∧ (hs mask 3 = true → ¬ could - D 33 3 < all)) := by
  unfold sEn sEn1 f_b
  by_cases h : dk = 0
  · cases hs mask 0 <;> cases hs mask 1 <;> cases hs mask 2 <;> cases hs mask 3 <;> by_cases q0 : could - D 33 0 < all <;> by_cases q1 : could - D 33 1 < all <;> by_cases q2 : could - D 33 2 < all <;> by_cases q3 : could - D 33 3 < all <;> simp [h, q0, q1, q2, q3]
  · simp [h]
def bSi (b : Bool) (x : Int) : Int := if b = true then x else 0
def bMi (b : Bool) (acc v : Int) : Int := if b = true then (if acc < v then v else acc) else acc
theorem aS_i {b : Bool} {acc v : Int32} (h1 : 0 ≤ acc.toInt ∧ acc.toInt ≤ 1500) (h2 : 0 ≤ v.toInt ∧ v.toInt ≤ 500) : (aS b acc v).toInt = acc.toInt + bSi b v.toInt := by
  cases b
  · show acc.toInt = acc.toInt + 0
    omega
  · show (acc + v).toInt = acc.toInt + v.toInt
    exact i_add (by omega) (by omega)
theorem aM_i {b : Bool} {acc v : Int32} : (aM b acc v).toInt = bMi b acc.toInt v.toInt := by
  cases b
  · rfl
  · show (if acc < v then v else acc).toInt = if acc.toInt < v.toInt then v.toInt else acc.toInt
    by_cases q : acc < v
    · rw [if_pos q, if_pos (i_lt.mp q)]
    · rw [if_neg q, if_neg (fun z => q (i_lt.mpr z))]
theorem bMi_at {b : Bool} {acc v : Int} (h : 0 ≤ acc ∧ acc ≤ 500) (hv : 0 ≤ v ∧ v ≤ 500) : 0 ≤ bMi b acc v ∧ bMi b acc v ≤ 500 ∧ acc ≤ bMi b acc v := by
  unfold bMi
  cases b
  · simp; omega
  · simp only [if_true]; split <;> omega
theorem m16_none {m : Int32} (h : m ∈ m16) (h0 : hs m 0 = false) (h1 : hs m 1 = false) (h2 : hs m 2 = false) (h3 : hs m 3 = false) : m = 0 := by
  have hz := List.all_eq_true.mp m16_zero m h
  rw [h0, h1, h2, h3] at hz
  simpa using hz
theorem sh_en {s : Nat → Int32} {due mask dk : Int32} (h : ∀ k, k < 4 → okk s k) (hm : mask ∈ m16) (hd : 0 ≤ due.toInt ∧ due.toInt ≤ 1800) (hdk : mask = 0 → dk = due) : f_b (dk = 0 ∧ ¬ cSum (cI s) 0 2 mask - cMax (cI s) 0 2 mask < due) = sEn (md g0 s) due mask (sCould (md g0 s) mask) dk := by
  rw [sEn_iff, ← sh_could, md_33]
  have a0 := (h 0 (by decide)); have a1 := (h 1 (by decide)); have a2 := (h 2 (by decide)); have a3 := (h 3 (by decide))
  obtain ⟨g0, -⟩ := a0
  obtain ⟨g1, -⟩ := a1
  obtain ⟨g2, -⟩ := a2
  obtain ⟨g3, -⟩ := a3
  have n0 := m16_none hm
  have eS : cSum (cI s) 0 2 mask = aS (hs mask 3) (aS (hs mask 2) (aS (hs mask 1) (aS (hs mask 0) 0 (s 0)) (s 1)) (s 2)) (s 3) := rfl
  have eM : cMax (cI s) 0 2 mask = aM (hs mask 3) (aM (hs mask 2) (aM (hs mask 1) (aM (hs mask 0) 0 (s 0)) (s 1)) (s 2)) (s 3) := rfl
  rw [eS, eM]
  generalize hs mask 0 = b0 at *
  generalize hs mask 1 = b1 at *
  generalize hs mask 2 = b2 at *
  generalize hs mask 3 = b3 at *
  have x0 : (aS b0 0 (s 0)).toInt = bSi b0 (s 0).toInt := by
    rw [aS_i (by rw [t0]; omega) (by omega), t0]; omega
  have x1 : (aS b1 (aS b0 0 (s 0)) (s 1)).toInt = bSi b0 (s 0).toInt + bSi b1 (s 1).toInt := by
    rw [aS_i (by rw [x0]; unfold bSi; split <;> omega) (by omega), x0]
  have x2 : (aS b2 (aS b1 (aS b0 0 (s 0)) (s 1)) (s 2)).toInt = bSi b0 (s 0).toInt + bSi b1 (s 1).toInt + bSi b2 (s 2).toInt := by
    rw [aS_i (by rw [x1]; unfold bSi; split <;> split <;> omega) (by omega), x1]
  have x3 : (aS b3 (aS b2 (aS b1 (aS b0 0 (s 0)) (s 1)) (s 2)) (s 3)).toInt = bSi b0 (s 0).toInt + bSi b1 (s 1).toInt + bSi b2 (s 2).toInt + bSi b3 (s 3).toInt := by
    rw [aS_i (by rw [x2]; unfold bSi; split <;> split <;> split <;> omega) (by omega), x2]
  have y3 : (aM b3 (aM b2 (aM b1 (aM b0 0 (s 0)) (s 1)) (s 2)) (s 3)).toInt = bMi b3 (bMi b2 (bMi b1 (bMi b0 0 (s 0).toInt) (s 1).toInt) (s 2).toInt) (s 3).toInt := by
    rw [aM_i, aM_i, aM_i, aM_i, t0]
  generalize aS b3 (aS b2 (aS b1 (aS b0 0 (s 0)) (s 1)) (s 2)) (s 3) = cd at *
  generalize aM b3 (aM b2 (aM b1 (aM b0 0 (s 0)) (s 1)) (s 2)) (s 3) = mx at *
  have z0 := bMi_at (b := b0) (acc := 0) (v := (s 0).toInt) (by omega) (by omega)
  have z1 := bMi_at (b := b1) (acc := bMi b0 0 (s 0).toInt) (v := (s 1).toInt) (by omega) (by omega)
  have z2 := bMi_at (b := b2) (acc := bMi b1 (bMi b0 0 (s 0).toInt) (s 1).toInt) (v := (s 2).toInt) (by omega) (by omega)
  have z3 := bMi_at (b := b3) (acc := bMi b2 (bMi b1 (bMi b0 0 (s 0).toInt) (s 1).toInt) (s 2).toInt) (v := (s 3).toInt) (by omega) (by omega)
  have hcd : 0 ≤ cd.toInt ∧ cd.toInt ≤ 2000 := by
    rw [x3]; unfold bSi; split <;> split <;> split <;> split <;> omega
  have s0 : (cd - s 0).toInt = cd.toInt - (s 0).toInt := i_sub (by omega) (by omega)
  have s1 : (cd - s 1).toInt = cd.toInt - (s 1).toInt := i_sub (by omega) (by omega)
  have s2 : (cd - s 2).toInt = cd.toInt - (s 2).toInt := i_sub (by omega) (by omega)
  have s3 : (cd - s 3).toInt = cd.toInt - (s 3).toInt := i_sub (by omega) (by omega)
  have sm : (cd - mx).toInt = cd.toInt - mx.toInt := i_sub (by omega) (by omega)
  have hiff : (dk = 0 ∧ ¬ cd - mx < due) ↔ (dk = 0 ∧ (b0 = true → ¬ cd - s 0 < due) ∧ (b1 = true → ¬ cd - s 1 < due) ∧ (b2 = true → ¬ cd - s 2 < due) ∧ (b3 = true → ¬ cd - s 3 < due)) := by
    simp only [i_lt, s0, s1, s2, s3, sm, y3]
    refine and_congr_right fun hdk0 => ?_
    have hn : b0 = false → b1 = false → b2 = false → b3 = false → due.toInt = 0 := by
      intro c0 c1 c2 c3
      rw [← hdk (n0 c0 c1 c2 c3), hdk0]; rfl
    clear n0 hdk hdk0 x0 x1 x2 y3 z0 z1 z2 z3 s0 s1 s2 s3 sm eS eM
    generalize (s 0).toInt = c0 at *
    generalize (s 1).toInt = c1 at *
    generalize (s 2).toInt = c2 at *
    generalize (s 3).toInt = c3 at *
    generalize due.toInt = du at *
    rw [x3]
    cases b0 <;> cases b1 <;> cases b2 <;> cases b3 <;> simp [bSi, bMi] at * <;> (try omega) <;> (repeat' split) <;> omega
  by_cases q : dk = 0 ∧ ¬ cd - mx < due
  · rw [f_b_t q, f_b_t (hiff.mp q)]
  · rw [f_b_f q, f_b_f (fun z => q (hiff.mpr z))]

