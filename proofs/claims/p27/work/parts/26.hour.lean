/-! PURE: an hour; validity -/
def z0 : Nat → Int32 := fun _ => 0
def shL (s : Nat → Int32) (all mask : Int32) : Nat → Int32 := (sGv (md g0 s) all mask z0).1
def shO (s : Nat → Int32) (all mask : Int32) : Nat → Int32 := sOb (md g0 s) all mask z0 z0
theorem sLd0_j {s ld ld' : Nat → Int32} {mask : Int32} : ∀ j, j < 4 → sLd0 (md g0 s) mask ld j = sLd0 (md g0 s) mask ld' j := by
  intro j hj
  have hc : j = 0 ∨ j = 1 ∨ j = 2 ∨ j = 3 := by omega
  rcases hc with e | e | e | e <;> subst e <;> rfl
theorem sGv_can {s ld : Nat → Int32} {all mask : Int32} : (sGv (md g0 s) all mask ld).2 = (sGv (md g0 s) all mask z0).2 ∧ ∀ j, j < 4 → (sGv (md g0 s) all mask ld).1 j = shL s all mask j :=
  gv_congr (fun _ _ => rfl) (fun _ _ => rfl) _ _ _ _ _ sLd0_j
section OBAT
variable {D : Nat → Nat → Int32} {ld ob : Nat → Int32} {all mask : Int32}
theorem oa_8 : sOb D all mask ld ob 8 = (sGv D all mask ld).2 := by unfold sOb sObT; simp [upd]
theorem oa_9 : sOb D all mask ld ob 9 = (if 0 ≤ sLeft D all mask then 0 else -(sLeft D all mask)) := by unfold sOb sObT; simp [upd]
theorem oa_10 : sOb D all mask ld ob 10 = sRes (sCould D mask) (sGv D all mask ld).1 := by unfold sOb sObT; simp [upd]
theorem oa_11 : sOb D all mask ld ob 11 = sEn D all mask (sCould D mask) (sGv D all mask ld).2 := by unfold sOb sObT; simp [upd]
theorem oa_12 : sOb D all mask ld ob 12 = sFu D (sGv D all mask ld).1 := by unfold sOb sObT; simp [upd]
theorem oa_o {k : Nat} (h : k < 8) : sOb D all mask ld ob k = ob k := by
  unfold sOb sObT
  simp only [upd]
  rw [if_neg (by omega), if_neg (by omega), if_neg (by omega), if_neg (by omega), if_neg (by omega)]
end OBAT
section OBC
variable {C : Nat → Nat → Nat → Int32} {f : Nat} {mask due : Int32} {ld sh : Nat → Int32}
theorem ca_1 : cOb C f mask due ld sh 1 = (cGv C f mask due ld).2 := by unfold cOb cObT; simp [upd]
theorem ca_2 : cOb C f mask due ld sh 2 = (if cSum C f 3 mask - due < 0 then 0 else cSum C f 3 mask - due) := by unfold cOb cObT; simp [upd]
theorem ca_3 : cOb C f mask due ld sh 3 = cSum C f 2 mask - cSum C f 3 mask - ((if due - cSum C f 3 mask < 0 then 0 else due - cSum C f 3 mask) - (cGv C f mask due ld).2) := by unfold cOb cObT; simp [upd]
theorem ca_4 : cOb C f mask due ld sh 4 = f_b ((cGv C f mask due ld).2 = 0 ∧ ¬ cSum C f 2 mask - cMax C f 2 mask < due) := by unfold cOb cObT; simp [upd]
end OBC
theorem sOb_8 {s ld ob : Nat → Int32} {all mask : Int32} : sOb (md g0 s) all mask ld ob 8 = shO s all mask 8 := by
  unfold shO
  rw [oa_8, oa_8, sGv_can.1]
theorem sOb_9 {s ld ob : Nat → Int32} {all mask : Int32} : sOb (md g0 s) all mask ld ob 9 = shO s all mask 9 := by
  unfold shO
  rw [oa_9, oa_9]
theorem sRes_c {c : Int32} {a b : Nat → Int32} (h : ∀ j, j < 4 → a j = b j) : sRes c a = sRes c b := by
  unfold sRes
  rw [h 0 (by decide), h 1 (by decide), h 2 (by decide), h 3 (by decide)]
theorem sFu_c {D : Nat → Nat → Int32} {a b : Nat → Int32} (h : ∀ j, j < 4 → a j = b j) : sFu D a = sFu D b := by
  unfold sFu
  rw [h 0 (by decide), h 1 (by decide), h 2 (by decide), h 3 (by decide)]
theorem sOb_10 {s ld ob : Nat → Int32} {all mask : Int32} : sOb (md g0 s) all mask ld ob 10 = shO s all mask 10 := by
  unfold shO
  rw [oa_10, oa_10]
  exact sRes_c sGv_can.2
theorem sOb_11 {s ld ob : Nat → Int32} {all mask : Int32} : sOb (md g0 s) all mask ld ob 11 = shO s all mask 11 := by
  unfold shO
  rw [oa_11, oa_11, sGv_can.1]
theorem sOb_12 {s ld ob : Nat → Int32} {all mask : Int32} : sOb (md g0 s) all mask ld ob 12 = shO s all mask 12 := by
  unfold shO
  rw [oa_12, oa_12]
  exact sFu_c sGv_can.2
theorem shO_11 {s : Nat → Int32} {all mask : Int32} : z_isB (shO s all mask 11) = true := by
  unfold shO
  rw [oa_11, sEn_iff]
  exact f_bB _
/-- what the class's sharing tells -/
theorem c_sh {s ld sh : Nat → Int32} {due mask : Int32} (h : ∀ k, k < 4 → okk s k) (hm : mask ∈ m16) (hd : 0 ≤ due.toInt ∧ due.toInt ≤ 1800) :
    (∀ j, j < 4 → (cGv (cI s) 0 mask due ld).1 j = shL s due mask j) ∧ cOb (cI s) 0 mask due ld sh 1 = shO s due mask 8 ∧ cOb (cI s) 0 mask due ld sh 2 = shO s due mask 9 ∧ cOb (cI s) 0 mask due ld sh 3 = shO s due mask 10 ∧ cOb (cI s) 0 mask due ld sh 4 = shO s due mask 11 := by
  have e := sh_gv (ld := ld) h hm hd
  have hB := sh_sumB (mask := mask) h
  have hg := sGv_can (s := s) (ld := ld) (all := due) (mask := mask)
  refine ⟨fun j hj => by rw [e]; exact hg.2 j hj, ?_, ?_, ?_, ?_⟩
  · rw [ca_1, e, ← sOb_8 (ld := ld) (ob := z0), oa_8]
  · rw [ca_2, ← sOb_9 (ld := ld) (ob := z0), oa_9, ← sh_left]
    generalize cSum (cI s) 0 3 mask = c at hB
    have a1 := i_sub (a := c) (b := due) (by omega) (by omega)
    have a2 := i_sub (a := due) (b := c) (by omega) (by omega)
    by_cases q : 0 ≤ due - c
    · rw [if_pos q]
      rw [i_le, t0, a2] at q
      by_cases q2 : c - due < 0
      · rw [if_pos q2]
      · rw [if_neg q2]
        rw [i_lt, t0, a1] at q2
        rw [← Int32.toInt_inj, a1, t0]; omega
    · rw [if_neg q]
      rw [i_le, t0, a2] at q
      rw [if_neg (by rw [i_lt, t0, a1]; omega), Int32.neg_sub]
  · have hs := gv_sum (g := mG (md g0 s)) (mer := mM (md g0 s)) 4 mask (if 0 ≤ sLeft (md g0 s) due mask then sLeft (md g0 s) due mask else 0) (sLd0 (md g0 s) mask ld)
    obtain ⟨p0, p1, p2, p3⟩ := sLd0_at (s := s) (ld := ld) (mask := mask)
    rw [p0, p1, p2, p3, ← sh_sum] at hs
    change (sGv (md g0 s) due mask ld).1 0 + (sGv (md g0 s) due mask ld).1 1 + (sGv (md g0 s) due mask ld).1 2 + (sGv (md g0 s) due mask ld).1 3 + (sGv (md g0 s) due mask ld).2 = _ at hs
    rw [ca_3, e, ← sOb_10 (ld := ld) (ob := z0), oa_10]
    have e2 : (if due - cSum (cI s) 0 3 mask < 0 then 0 else due - cSum (cI s) 0 3 mask) = (if 0 ≤ sLeft (md g0 s) due mask then sLeft (md g0 s) due mask else 0) := by
      rw [sh_left]
      by_cases q : 0 ≤ sLeft (md g0 s) due mask
      · rw [if_pos q, if_neg (Int32.not_lt.mpr q)]
      · rw [if_neg q, if_pos (Int32.not_le.mp q)]
    rw [e2, sh_could]
    unfold sRes
    generalize (if 0 ≤ sLeft (md g0 s) due mask then sLeft (md g0 s) due mask else 0) = lf at hs ⊢
    generalize (sGv (md g0 s) due mask ld).1 0 = r0 at hs ⊢
    generalize (sGv (md g0 s) due mask ld).1 1 = r1 at hs ⊢
    generalize (sGv (md g0 s) due mask ld).1 2 = r2 at hs ⊢
    generalize (sGv (md g0 s) due mask ld).1 3 = r3 at hs ⊢
    generalize (sGv (md g0 s) due mask ld).2 = dk at hs ⊢
    generalize sCould (md g0 s) mask = cc
    generalize cSum (cI s) 0 3 mask = ll at hs ⊢
    grind
  · rw [ca_4, e, ← sOb_11 (ld := ld) (ob := z0), oa_11]
    refine sh_en h hm hd fun e0 => ?_
    subst e0
    unfold sGv
    rw [gv_0 (by decide)]
    have el : sLeft (md g0 s) due 0 = due := by
      unfold sLeft sx
      rw [show hs 0 0 = false from rfl, show hs 0 1 = false from rfl, show hs 0 2 = false from rfl, show hs 0 3 = false from rfl]
      simp
    rw [el, if_pos (by rw [i_le, t0]; exact hd.1)]
/-- the island behind an hour -/
def goN (s : Nat → Int32) : Nat → Int32 := goF g0 s z0 z0
theorem cntF_c {s ob ob' : Nat → Int32} (h8 : ob 8 = ob' 8) (h11 : ob 11 = ob' 11) : cntF s ob = cntF s ob' := by unfold cntF; rw [h8, h11]
theorem fuF_c {s ld ld' : Nat → Int32} {m : Int32} (h : ∀ j, j < 4 → ld j = ld' j) : fuF s ld m = fuF s ld' m := by
  unfold fuF fuS
  rw [h 0 (by decide), h 1 (by decide), h 2 (by decide), h 3 (by decide)]
theorem recF_c {s ob ob' : Nat → Int32} {a m : Int32} (h8 : ob 8 = ob' 8) (h9 : ob 9 = ob' 9) (h10 : ob 10 = ob' 10) (h11 : ob 11 = ob' 11) : recF s ob a m = recF s ob' a m := by
  unfold recF; rw [h8, h9, h10, h11]
theorem goF_can {s ld ob : Nat → Int32} : goF g0 s ld ob = goN s := by
  unfold goN goF gOb gLd
  rw [cntF_c (ob' := shO (wuF s) (gAll s) (gMask s)) sOb_8 sOb_11, recF_c (ob' := shO (wuF s) (gAll s) (gMask s)) sOb_8 sOb_9 sOb_10 sOb_11, fuF_c (ld' := shL (wuF s) (gAll s) (gMask s)) sGv_can.2]
  rfl
def goM : Nat → (Nat → Int32) → (Nat → Int32)
  | 0, s => s
  | n + 1, s => goM n (goN s)
theorem goI_M : ∀ (n : Nat) (x : S3), (goI n x).1 = goM n x.1
  | 0, x => rfl
  | n + 1, x => by
    rw [goI_s, goI_M n (goT x), goT_1, goF_can]
    rfl

