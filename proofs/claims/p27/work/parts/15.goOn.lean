/-! THE MODEL: an hour goes by -/
def md (D : Nat → Nat → Int32) (s : Nat → Int32) : Nat → Nat → Int32 := fun q => if q = 33 then s else D q
theorem mk2_33 {D : Nat → Nat → Int32} {s ld ob : Nat → Int32} {k : Nat} {v : Int32} : up2 (mk2 (md D s) ld ob) 33 k v = mk2 (md D (upd s k v)) ld ob := by
  funext q
  unfold up2 mk2 md
  by_cases h : q = 37
  · subst h; rfl
  · by_cases h2 : q = 32
    · subst h2; rfl
    · by_cases h3 : q = 33
      · subst h3; rfl
      · simp [h, h2, h3]
theorem md_self (D : Nat → Nat → Int32) : D = md D (D 33) := by
  funext q
  unfold md
  by_cases h : q = 33
  · subst h; rfl
  · simp [h]
theorem md_md {D : Nat → Nat → Int32} {s t : Nat → Int32} : md (md D s) t = md D t := by
  funext q
  unfold md
  by_cases h : q = 33 <;> simp [h]
/-- the load of an hour -/
def lodF (s : Nat → Int32) (h : Int32) : Int32 := s (40 + h).toNatClampNeg + (if s 37 = 1 then 0 else s 32)

def wrmF (s : Nat → Int32) : Nat → Int32 := upd (upd (upd s 35 (s 35 + (if s 37 = 1 then 1 else if s 35 ≤ 0 then 0 else -1))) 36 (if (s 35 + (if s 37 = 1 then 1 else if s 35 ≤ 0 then 0 else -1)) ≤ s 33 then s 36 else 1)) 34 (s 34 + 1)
def recF (s ob : Nat → Int32) (all mask : Int32) : Nat → Int32 := upd (upd (upd (upd (upd (upd s (88 + 6 * s 34).toNatClampNeg all) (88 + 6 * s 34 + 1).toNatClampNeg (ob 8)) (88 + 6 * s 34 + 2).toNatClampNeg (ob 9)) (88 + 6 * s 34 + 3).toNatClampNeg (ob 10)) (88 + 6 * s 34 + 4).toNatClampNeg (if ob 11 = 0 then 0 else 1)) (88 + 6 * s 34 + 5).toNatClampNeg mask
def wuS (s : Nat → Int32) (i j : Nat) : Nat → Int32 := if s i = 1 then upd (upd s j (s j - 1)) i (if s j - 1 = 0 then 2 else 1) else s
def wuF (s : Nat → Int32) : Nat → Int32 := wuS (wuS (wuS (wuS s 16 20) 17 21) 18 22) 19 23
def cntF (s ob : Nat → Int32) : Nat → Int32 := upd (upd s 38 (s 38 + (if ob 8 ≤ 0 then 0 else 1))) 39 (s 39 + (if ob 11 = 0 then 1 else 0))
def fuS (s ld : Nat → Int32) (mask k : Int32) (i j q n : Nat) : Nat → Int32 := upd (upd s i (s i + s j * ld n / 10)) q (s q + (if hs mask k = true then 1 else 0))
def fuF (s ld : Nat → Int32) (mask : Int32) : Nat → Int32 := fuS (fuS (fuS (fuS s ld mask 0 24 8 28 0) ld mask 1 25 9 29 1) ld mask 2 26 10 30 2) ld mask 3 27 11 31 3
def gMask (s : Nat → Int32) : Int32 := mkF (fun j => wuF s (16 + j)) 2
def gAll (s : Nat → Int32) : Int32 := lodF (wuF s) (wuF s 34)
def gLd (D : Nat → Nat → Int32) (s ld : Nat → Int32) : Nat → Int32 := (sGv (md D (wuF s)) (gAll s) (gMask s) ld).1
def gOb (D : Nat → Nat → Int32) (s ld ob : Nat → Int32) : Nat → Int32 := sOb (md D (wuF s)) (gAll s) (gMask s) ld ob
/-- the model's island behind an hour -/
def goF (D : Nat → Nat → Int32) (s ld ob : Nat → Int32) : Nat → Int32 := wrmF (recF (fuF (cntF (wuF s) (gOb D s ld ob)) (gLd D s ld) (gMask s)) (gOb D s ld ob) (gAll s) (gMask s))
theorem wuS_o {s : Nat → Int32} {i j k : Nat} (h1 : k ≠ i) (h2 : k ≠ j) : wuS s i j k = s k := by
  unfold wuS
  split
  · simp [upd, h1, h2]
  · rfl
theorem wuF_o {s : Nat → Int32} {k : Nat} (h : k < 16 ∨ 24 ≤ k) : wuF s k = s k := by
  unfold wuF
  rw [wuS_o (by omega) (by omega), wuS_o (by omega) (by omega), wuS_o (by omega) (by omega), wuS_o (by omega) (by omega)]
theorem cnt_34 {s ob ld : Nat → Int32} {mask : Int32} : fuF (cntF s ob) ld mask 34 = s 34 := by
  simp [fuF, fuS, cntF, upd]
