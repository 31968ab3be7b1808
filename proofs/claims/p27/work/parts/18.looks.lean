/-! THE MODEL: looks at the hour of now -/
def nowF (s : Nat → Int32) : Int32 := if s 34 = 48 then 47 else s 34
def runF (s : Nat → Int32) : Int32 := mkF (fun j => s (16 + j)) 2
theorem nowF_in {s : Nat → Int32} {H : Nat} (hs : s 34 = nI H) (hH : H ≤ 48) : z_inb (40 + nowF s) 376 = true := by
  unfold nowF
  split
  · rfl
  · rw [hs]; exact hrA (c := 40) 40 rfl (by omega) (by decide)
def nLd (s ld : Nat → Int32) : Nat → Int32 := (sGv (md g0 s) (lodF s (nowF s)) (runF s) ld).1
def nOb (s ld ob : Nat → Int32) : Nat → Int32 := sOb (md g0 s) (lodF s (nowF s)) (runF s) ld ob

def wrS (s : Nat → Int32) (j : Nat) (n : Int32) : Int32 := n + (if s j = 1 then 1 else 0)
def wrmN (s : Nat → Int32) : Int32 := wrS s 19 (wrS s 18 (wrS s 17 (wrS s 16 0)))
def fulF (s : Nat → Int32) : Int32 := s 24 + s 25 + s 26 + s 27
theorem m16_and {m b : Int32} (h : m ∈ m16) (hb : b ∈ m16) : (m &&& b) ∈ m16 := by
  have h2 : m16.all (fun m => m16.all (fun b => decide ((m &&& b) ∈ m16))) = true := by decide +kernel
  exact of_decide_eq_true (List.all_eq_true.mp (List.all_eq_true.mp h2 m h) b hb)
