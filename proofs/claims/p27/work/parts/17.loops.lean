/-! THE MODEL: loops with a counter: hours, copies -/
theorem inb_nI {i n : Nat} (h : i < n) (hn : n < 2 ^ 31) : z_inb (nI i) n = true := by
  unfold z_inb
  rw [nI_clamp (by omega)]
  have h1 : ¬ nI i < 0 := nI_pos (by omega)
  have h2 : Nat.blt i n = true := Nat.ble_eq.mpr h
  simp [h1, h2]
theorem nI_mul (a b : Nat) : nI a * nI b = nI (a * b) := (Int32.ofNat_mul a b).symm
theorem hrA {H c n : Nat} (x : Int32) (hx : x = nI c) (h : c + H < n) (hn : n < 2 ^ 31) : z_inb (x + nI H) n = true := by
  rw [hx, nI_add]
  exact inb_nI h hn
theorem hrB {H j : Nat} (x : Int32) (hx : x = nI j) (hj : j < 6) (h : H < 48) : z_inb (88 + 6 * nI H + x) 376 = true := by
  rw [hx, show (88 : Int32) = nI 88 from rfl, show (6 : Int32) = nI 6 from rfl, nI_mul, nI_add, nI_add]
  exact inb_nI (by omega) (by decide)
theorem hrB0 {H : Nat} (h : H < 48) : z_inb (88 + 6 * nI H) 376 = true := by
  rw [show (88 : Int32) = nI 88 from rfl, show (6 : Int32) = nI 6 from rfl, nI_mul, nI_add]
  exact inb_nI (by omega) (by decide)
def g0 : Nat → Nat → Int32 := fun _ _ => 0
theorem md_33 {D : Nat → Nat → Int32} {s : Nat → Int32} : md D s 33 = s := rfl
theorem mG_md {D : Nat → Nat → Int32} {s : Nat → Int32} : mG (md D s) = mG (md g0 s) := rfl
theorem mM_md {D : Nat → Nat → Int32} {s : Nat → Int32} : mM (md D s) = mM (md g0 s) := rfl
theorem sx_md {D : Nat → Nat → Int32} {s : Nat → Int32} {m k : Int32} {j : Nat} : sx (md D s) m k j = sx (md g0 s) m k j := rfl
theorem sLeft_md {D : Nat → Nat → Int32} {s : Nat → Int32} {a m : Int32} : sLeft (md D s) a m = sLeft (md g0 s) a m := rfl
theorem sCould_md {D : Nat → Nat → Int32} {s : Nat → Int32} {m : Int32} : sCould (md D s) m = sCould (md g0 s) m := rfl
theorem sLd0_md {D : Nat → Nat → Int32} {s ld : Nat → Int32} {m : Int32} : sLd0 (md D s) m ld = sLd0 (md g0 s) m ld := rfl
theorem sEn1_md {D : Nat → Nat → Int32} {s : Nat → Int32} {a m c e k : Int32} {j : Nat} : sEn1 (md D s) a m c e k j = sEn1 (md g0 s) a m c e k j := rfl
theorem sFu_md {D : Nat → Nat → Int32} {s ld : Nat → Int32} : sFu (md D s) ld = sFu (md g0 s) ld := rfl
theorem sGv_md {D : Nat → Nat → Int32} {s ld : Nat → Int32} {all mask : Int32} : sGv (md D s) all mask ld = sGv (md g0 s) all mask ld := by
  unfold sGv
  rw [mG_md, mM_md, sLeft_md, sLd0_md]
theorem sOb_md {D : Nat → Nat → Int32} {s ld ob : Nat → Int32} {all mask : Int32} : sOb (md D s) all mask ld ob = sOb (md g0 s) all mask ld ob := by
  unfold sOb sObT sEn
  rw [sGv_md, sLeft_md, sCould_md, sFu_md]
  simp only [sEn1_md (D := D)]
theorem gLd_md {D : Nat → Nat → Int32} {s ld : Nat → Int32} : gLd D s ld = gLd g0 s ld := by
  unfold gLd
  rw [sGv_md]
theorem gOb_md {D : Nat → Nat → Int32} {s ld ob : Nat → Int32} : gOb D s ld ob = gOb g0 s ld ob := by
  unfold gOb
  rw [sOb_md]
theorem goF_md {D : Nat → Nat → Int32} {s ld ob : Nat → Int32} : goF D s ld ob = goF g0 s ld ob := by
  unfold goF
  rw [gOb_md, gLd_md]
abbrev S3 : Type := (Nat → Int32) × ((Nat → Int32) × (Nat → Int32))
def goT (x : S3) : S3 := (goF g0 x.1 x.2.1 x.2.2, gLd g0 x.1 x.2.1, gOb g0 x.1 x.2.1 x.2.2)
def goI : Nat → S3 → S3
  | 0, x => x
  | n + 1, x => goI n (goT x)
theorem rec_at {H j : Nat} (hH : H < 48) (hj : j < 6) : (88 + 6 * nI H + nI j : Int32).toNatClampNeg = 88 + 6 * H + j := by
  rw [show (88 : Int32) = nI 88 from rfl, show (6 : Int32) = nI 6 from rfl, nI_mul, nI_add, nI_add, nI_clamp (by omega)]
theorem wrmF_34 {s : Nat → Int32} : wrmF s 34 = s 34 + 1 := by simp [wrmF, upd]
theorem recF_o {s ob : Nat → Int32} {all mask : Int32} {H k : Nat} (hs : s 34 = nI H) (hH : H < 48) (hk : k < 88 + 6 * H ∨ 88 + 6 * H + 6 ≤ k) : recF s ob all mask k = s k := by
  unfold recF
  have e0 : (88 + 6 * s 34).toNatClampNeg = 88 + 6 * H := by
    have := rec_at hH (show 0 < 6 by decide)
    rw [nI_0, Int32.add_zero] at this
    rw [hs]; exact this
  have e1 : (88 + 6 * s 34 + 1).toNatClampNeg = 88 + 6 * H + 1 := by rw [hs]; exact rec_at hH (show 1 < 6 by decide)
  have e2 : (88 + 6 * s 34 + 2).toNatClampNeg = 88 + 6 * H + 2 := by rw [hs]; exact rec_at hH (show 2 < 6 by decide)
  have e3 : (88 + 6 * s 34 + 3).toNatClampNeg = 88 + 6 * H + 3 := by rw [hs]; exact rec_at hH (show 3 < 6 by decide)
  have e4 : (88 + 6 * s 34 + 4).toNatClampNeg = 88 + 6 * H + 4 := by rw [hs]; exact rec_at hH (show 4 < 6 by decide)
  have e5 : (88 + 6 * s 34 + 5).toNatClampNeg = 88 + 6 * H + 5 := by rw [hs]; exact rec_at hH (show 5 < 6 by decide)
  rw [e0, e1, e2, e3, e4, e5]
  simp only [upd]
  rw [if_neg (by omega), if_neg (by omega), if_neg (by omega), if_neg (by omega), if_neg (by omega), if_neg (by omega)]
theorem goF_34 {D : Nat → Nat → Int32} {s ld ob : Nat → Int32} {H : Nat} (hs : s 34 = nI H) (hH : H < 48) : goF D s ld ob 34 = nI (H + 1) := by
  have e34 : wuF s 34 = s 34 := wuF_o (Or.inr (by decide))
  have q : fuF (cntF (wuF s) (gOb D s ld ob)) (gLd D s ld) (gMask s) 34 = s 34 := by rw [cnt_34, e34]
  unfold goF
  rw [wrmF_34, recF_o (by rw [q]; exact hs) hH (Or.inl (by omega)), q, hs, nI_1]
theorem goI_s {n : Nat} {x : S3} : goI (n + 1) x = goI n (goT x) := rfl
theorem goT_1 {x : S3} : (goT x).1 = goF g0 x.1 x.2.1 x.2.2 := by simp only [goT]
theorem goT_2 {x : S3} : (goT x).2.1 = gLd g0 x.1 x.2.1 := by simp only [goT]
theorem goT_3 {x : S3} : (goT x).2.2 = gOb g0 x.1 x.2.1 x.2.2 := by simp only [goT]
theorem goT_34 {x : S3} {H : Nat} (h : x.1 34 = nI H) (hH : H < 48) : (goT x).1 34 = nI (H + 1) := by
  rw [goT_1]
  exact goF_34 h hH

/-- the first n places are g's -/
def cpN (f g : Nat → Int32) (n : Nat) : Nat → Int32 := fun j => if j < n then g j else f j
theorem cpN_0 {f g : Nat → Int32} : cpN f g 0 = f := by
  funext j
  unfold cpN
  rw [if_neg (Nat.not_lt_zero j)]
theorem cpN_s {f g : Nat → Int32} {n : Nat} : upd (cpN f g n) n (g n) = cpN f g (n + 1) := by
  funext j
  simp only [cpN, upd]
  by_cases h : j = n
  · subst h
    rw [if_pos rfl, if_pos (Nat.lt_succ_self j)]
  · rw [if_neg h]
    by_cases h2 : j < n
    · rw [if_pos h2, if_pos (by omega)]
    · rw [if_neg h2, if_neg (by omega)]

