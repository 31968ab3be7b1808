/-! THE MODEL SHARES A LOAD OUT -/
def mk2 (D : Nat → Nat → Int32) (ld ob : Nat → Int32) : Nat → Nat → Int32 := fun q => if q = 37 then ld else if q = 32 then ob else D q
theorem mk2_37 {D : Nat → Nat → Int32} {ld ob : Nat → Int32} {k : Nat} {v : Int32} : up2 (mk2 D ld ob) 37 k v = mk2 D (upd ld k v) ob := by
  funext q
  unfold up2 mk2
  by_cases h : q = 37
  · subst h; rfl
  · simp [h]
theorem mk2_32 {D : Nat → Nat → Int32} {ld ob : Nat → Int32} {k : Nat} {v : Int32} : up2 (mk2 D ld ob) 32 k v = mk2 D ld (upd ob k v) := by
  funext q
  unfold up2 mk2
  by_cases h : q = 32
  · subst h; rfl
  · simp [h]
theorem mk2_self (D : Nat → Nat → Int32) : D = mk2 D (D 37) (D 32) := by
  funext q
  unfold mk2
  by_cases h : q = 37
  · subst h; rfl
  · by_cases h2 : q = 32
    · subst h2; rfl
    · simp [h, h2]
def sx (D : Nat → Nat → Int32) (mask k : Int32) (j : Nat) : Int32 := if hs mask k = true then D 33 j else 0

def popc (r : Int32) : Nat := (if hs r 0 = true then 1 else 0) + (if hs r 1 = true then 1 else 0) + (if hs r 2 = true then 1 else 0) + (if hs r 3 = true then 1 else 0)
def m16 : List Int32 := [0, 1, 2, 3, 4, 5, 6, 7, 8, 9, 10, 11, 12, 13, 14, 15]
theorem m16_step : m16.all (fun r => ([0, 1, 2, 3] : List Int32).all (fun k => !(hs r k) || (decide (r - (1 <<< (k &&& 31)) ∈ m16) && decide (popc (r - (1 <<< (k &&& 31))) + 1 = popc r)))) = true := by decide +kernel
theorem m16_zero : m16.all (fun r => decide (r = 0) || hs r 0 || hs r 1 || hs r 2 || hs r 3) = true := by decide +kernel
theorem m16_popc : m16.all (fun r => decide (popc r ≤ 4) && (decide (0 < r) || decide (r = 0))) = true := by decide +kernel
theorem chS_or {mer : Nat → Int32} {mask k found : Int32} (h : found = -1 ∨ hs mask found = true) : chS mer mask k found = -1 ∨ hs mask (chS mer mask k found) = true := by
  unfold chS
  split
  · rename_i q; exact Or.inr q.1
  · exact h
theorem chS_none {mer : Nat → Int32} {mask k found : Int32} (hk : k ≠ -1) (h : chS mer mask k found = -1) : found = -1 ∧ hs mask k = false := by
  unfold chS at h
  split at h
  · exact absurd h hk
  · rename_i q
    refine ⟨h, ?_⟩
    cases e : hs mask k
    · rfl
    · exact absurd ⟨e, Or.inl h⟩ q
/-- the set found is one of the mask -/
theorem chF_in {mer : Nat → Int32} {mask : Int32} (h : mask ∈ m16) (h0 : 0 < mask) : hs mask (chF mer mask) = true ∧ (chF mer mask = 0 ∨ chF mer mask = 1 ∨ chF mer mask = 2 ∨ chF mer mask = 3) := by
  have ho : chF mer mask = -1 ∨ hs mask (chF mer mask) = true := chS_or (chS_or (chS_or (chS_or (Or.inl rfl))))
  have hne : ¬ chF mer mask = -1 := by
    intro e
    obtain ⟨e3, g3⟩ := chS_none (by decide) e
    obtain ⟨e2, g2⟩ := chS_none (by decide) e3
    obtain ⟨e1, g1⟩ := chS_none (by decide) e2
    obtain ⟨-, g0⟩ := chS_none (by decide) e1
    have hz := List.all_eq_true.mp m16_zero mask h
    rw [g0, g1, g2, g3] at hz
    have : mask = 0 := by simpa using hz
    subst this
    exact absurd h0 (by decide)
  refine ⟨ho.resolve_left hne, ?_⟩
  rcases chF_fnd mer mask with e | e | e | e | e
  · exact absurd e hne
  · exact Or.inl e
  · exact Or.inr (Or.inl e)
  · exact Or.inr (Or.inr (Or.inl e))
  · exact Or.inr (Or.inr (Or.inr e))
/-- what is left is given by merits -/
def gv (g mer : Nat → Int32) : Nat → Int32 → Int32 → (Nat → Int32) → (Nat → Int32) × Int32
  | 0, _, left, ld => (ld, left)
  | n + 1, rest, left, ld => if 0 < rest then gv g mer n (rest - (1 <<< (chF mer rest &&& 31))) (left - (if left ≤ g (chF mer rest).toNatClampNeg - ld (chF mer rest).toNatClampNeg then left else g (chF mer rest).toNatClampNeg - ld (chF mer rest).toNatClampNeg)) (upd ld (chF mer rest).toNatClampNeg (ld (chF mer rest).toNatClampNeg + (if left ≤ g (chF mer rest).toNatClampNeg - ld (chF mer rest).toNatClampNeg then left else g (chF mer rest).toNatClampNeg - ld (chF mer rest).toNatClampNeg))) else (ld, left)
theorem gv_k {g mer : Nat → Int32} {n : Nat} {rest left k : Int32} {ld : Nat → Int32} (h0 : 0 < rest) (hk : chF mer rest = k) : gv g mer (n + 1) rest left ld = gv g mer n (rest - (1 <<< (k &&& 31))) (left - (if left ≤ g k.toNatClampNeg - ld k.toNatClampNeg then left else g k.toNatClampNeg - ld k.toNatClampNeg)) (upd ld k.toNatClampNeg (ld k.toNatClampNeg + (if left ≤ g k.toNatClampNeg - ld k.toNatClampNeg then left else g k.toNatClampNeg - ld k.toNatClampNeg))) := by
  subst hk
  show (if 0 < rest then _ else _) = _
  rw [if_pos h0]
theorem gv_0 {g mer : Nat → Int32} {n : Nat} {rest left : Int32} {ld : Nat → Int32} (h0 : ¬ 0 < rest) : gv g mer n rest left ld = (ld, left) := by
  cases n with
  | zero => rfl
  | succ n =>
    show (if 0 < rest then _ else _) = _
    rw [if_neg h0]
def mG (D : Nat → Nat → Int32) : Nat → Int32 := fun j => D 33 j
def mM (D : Nat → Nat → Int32) : Nat → Int32 := fun j => D 33 (8 + j)

/-- what sharing leaves: the loads, and the numbers of the object -/
def sLd0 (D : Nat → Nat → Int32) (mask : Int32) (ld : Nat → Int32) : Nat → Int32 := upd (upd (upd (upd ld 0 (sx D mask 0 4)) 1 (sx D mask 1 5)) 2 (sx D mask 2 6)) 3 (sx D mask 3 7)
def sLeft (D : Nat → Nat → Int32) (all mask : Int32) : Int32 := all - sx D mask 0 4 - sx D mask 1 5 - sx D mask 2 6 - sx D mask 3 7
def sCould (D : Nat → Nat → Int32) (mask : Int32) : Int32 := 0 + sx D mask 0 0 + sx D mask 1 1 + sx D mask 2 2 + sx D mask 3 3
def sGv (D : Nat → Nat → Int32) (all mask : Int32) (ld : Nat → Int32) : (Nat → Int32) × Int32 := gv (mG D) (mM D) 4 mask (if 0 ≤ sLeft D all mask then sLeft D all mask else 0) (sLd0 D mask ld)
def sEn1 (D : Nat → Nat → Int32) (all mask could e k : Int32) (j : Nat) : Int32 := if e = 0 then 0 else if hs mask k = true then (if could - D 33 j < all then 0 else 1) else 1
def sEn (D : Nat → Nat → Int32) (all mask could dk : Int32) : Int32 := sEn1 D all mask could (sEn1 D all mask could (sEn1 D all mask could (sEn1 D all mask could (f_b (dk = 0)) 0 0) 1 1) 2 2) 3 3
def sRes (could : Int32) (ld : Nat → Int32) : Int32 := could - ld 0 - ld 1 - ld 2 - ld 3
def sFu (D : Nat → Nat → Int32) (ld : Nat → Int32) : Int32 := 0 + D 33 8 * ld 0 / 10 + D 33 9 * ld 1 / 10 + D 33 10 * ld 2 / 10 + D 33 11 * ld 3 / 10
def sObT (D : Nat → Nat → Int32) (all mask could : Int32) (r : (Nat → Int32) × Int32) (ob : Nat → Int32) : Nat → Int32 := upd (upd (upd (upd ob 8 r.2) 10 (sRes could r.1)) 11 (sEn D all mask could r.2)) 12 (sFu D r.1)
def sOb (D : Nat → Nat → Int32) (all mask : Int32) (ld ob : Nat → Int32) : Nat → Int32 := sObT D all mask (sCould D mask) (sGv D all mask ld) (upd ob 9 (if 0 ≤ sLeft D all mask then 0 else -(sLeft D all mask)))
