/-! THE MODEL: the cheapest sets for an hour -/
def cnS (s : Nat → Int32) (mask k can : Int32) (j : Nat) : Int32 := if can = 0 then 0 else if hs mask k = true then (if s j = 3 then 0 else 1) else 1

def canF (s : Nat → Int32) (mask : Int32) : Int32 := cnS s mask 3 (cnS s mask 2 (cnS s mask 1 (cnS s mask 0 1 16) 17) 18) 19
def isF (can en found fu least : Int32) : Bool := decide (¬ can = 0 ∧ ¬ en = 0 ∧ (found = -1 ∨ fu < least))
theorem m16_nI {i : Nat} (h : i < 16) : nI i ∈ m16 := by
  have h2 : (List.range 16).all (fun i => decide (nI i ∈ m16)) = true := by decide +kernel
  exact of_decide_eq_true (List.all_eq_true.mp h2 i (List.mem_range.mpr h))
/-- found, its fuel, and the scratch, behind the masks i and on -/
def beT (s : Nat → Int32) (hour mask : Int32) (x : Int32 × (Int32 × ((Nat → Int32) × (Nat → Int32)))) : Int32 × (Int32 × ((Nat → Int32) × (Nat → Int32))) :=
  (if isF (canF s mask) (sOb (md g0 s) (lodF s hour) mask x.2.2.1 x.2.2.2 11) x.1 (sOb (md g0 s) (lodF s hour) mask x.2.2.1 x.2.2.2 12) x.2.1 = true then mask else x.1, if isF (canF s mask) (sOb (md g0 s) (lodF s hour) mask x.2.2.1 x.2.2.2 11) x.1 (sOb (md g0 s) (lodF s hour) mask x.2.2.1 x.2.2.2 12) x.2.1 = true then sOb (md g0 s) (lodF s hour) mask x.2.2.1 x.2.2.2 12 else x.2.1, (sGv (md g0 s) (lodF s hour) mask x.2.2.1).1, sOb (md g0 s) (lodF s hour) mask x.2.2.1 x.2.2.2)
def beI (s : Nat → Int32) (hour : Int32) : Nat → Nat → Int32 × (Int32 × ((Nat → Int32) × (Nat → Int32))) → Int32 × (Int32 × ((Nat → Int32) × (Nat → Int32)))
  | 0, _, x => x
  | d + 1, i, x => beI s hour d (i + 1) (beT s hour (nI i) x)

