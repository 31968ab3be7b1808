/-! PURE: the island behind an hour, place by place -/
def bfA (s ld : Nat → Int32) : Nat → Int32 := bfS (bfS (bfS (bfS s ld 0) ld 1) ld 2) ld 3
def crcF (s sh : Nat → Int32) (H : Nat) (all mask : Int32) : Nat → Int32 := upd (upd (upd (upd (upd (upd s (88 + 6 * H + 0) all) (88 + 6 * H + 1) (sh 1)) (88 + 6 * H + 2) (sh 2)) (88 + 6 * H + 3) (sh 3)) (88 + 6 * H + 4) (if sh 4 = 0 then 0 else 1)) (88 + 6 * H + 5) mask
def rcN (s : Nat → Int32) (H : Nat) (a b c d e f : Int32) : Nat → Int32 := upd (upd (upd (upd (upd (upd s (88 + 6 * H + 0) a) (88 + 6 * H + 1) b) (88 + 6 * H + 2) c) (88 + 6 * H + 3) d) (88 + 6 * H + 4) e) (88 + 6 * H + 5) f
theorem crcF_n {s sh : Nat → Int32} {H : Nat} {all mask : Int32} : crcF s sh H all mask = rcN s H all (sh 1) (sh 2) (sh 3) (if sh 4 = 0 then 0 else 1) mask := rfl
theorem rcN_o {s : Nat → Int32} {H j : Nat} {a b c d e f : Int32} (hj : j < 88 + 6 * H ∨ 88 + 6 * H + 6 ≤ j) : rcN s H a b c d e f j = s j := by
  unfold rcN
  simp only [upd]
  rw [if_neg (by omega), if_neg (by omega), if_neg (by omega), if_neg (by omega), if_neg (by omega), if_neg (by omega)]
section RC
variable {s : Nat → Int32} {H : Nat} {a b c d e f : Int32}
theorem rcN_0 : rcN s H a b c d e f (88 + 6 * H + 0) = a := by
  unfold rcN; simp only [upd]
  rw [if_neg (by omega), if_neg (by omega), if_neg (by omega), if_neg (by omega), if_neg (by omega), if_pos trivial]
theorem rcN_1 : rcN s H a b c d e f (88 + 6 * H + 1) = b := by
  unfold rcN; simp only [upd]
  rw [if_neg (by omega), if_neg (by omega), if_neg (by omega), if_neg (by omega), if_pos trivial]
theorem rcN_2 : rcN s H a b c d e f (88 + 6 * H + 2) = c := by
  unfold rcN; simp only [upd]
  rw [if_neg (by omega), if_neg (by omega), if_neg (by omega), if_pos trivial]
theorem rcN_3 : rcN s H a b c d e f (88 + 6 * H + 3) = d := by
  unfold rcN; simp only [upd]
  rw [if_neg (by omega), if_neg (by omega), if_pos trivial]
theorem rcN_4 : rcN s H a b c d e f (88 + 6 * H + 4) = e := by
  unfold rcN; simp only [upd]
  rw [if_neg (by omega), if_pos trivial]
theorem rcN_5 : rcN s H a b c d e f (88 + 6 * H + 5) = f := by
  unfold rcN; simp only [upd]
  rw [if_pos trivial]
end RC
theorem recF_n {s ob : Nat → Int32} {all mask : Int32} {H : Nat} (hs : s 34 = nI H) (hH : H < 48) : recF s ob all mask = rcN s H all (ob 8) (ob 9) (ob 10) (if ob 11 = 0 then 0 else 1) mask := by
  unfold recF rcN
  have e0 : (88 + 6 * s 34).toNatClampNeg = 88 + 6 * H + 0 := by
    have := rec_at hH (show 0 < 6 by decide)
    rw [nI_0, Int32.add_zero] at this
    rw [hs]; exact this
  have e1 : (88 + 6 * s 34 + 1).toNatClampNeg = 88 + 6 * H + 1 := by rw [hs]; exact rec_at hH (show 1 < 6 by decide)
  have e2 : (88 + 6 * s 34 + 2).toNatClampNeg = 88 + 6 * H + 2 := by rw [hs]; exact rec_at hH (show 2 < 6 by decide)
  have e3 : (88 + 6 * s 34 + 3).toNatClampNeg = 88 + 6 * H + 3 := by rw [hs]; exact rec_at hH (show 3 < 6 by decide)
  have e4 : (88 + 6 * s 34 + 4).toNatClampNeg = 88 + 6 * H + 4 := by rw [hs]; exact rec_at hH (show 4 < 6 by decide)
  have e5 : (88 + 6 * s 34 + 5).toNatClampNeg = 88 + 6 * H + 5 := by rw [hs]; exact rec_at hH (show 5 < 6 by decide)
  rw [e0, e1, e2, e3, e4, e5]
-- fuel
theorem bfS_o {s ld : Nat → Int32} {k j : Nat} (h1 : j ≠ 24 + k) (h2 : j ≠ 28 + k) : bfS s ld k j = s j := by
  unfold bfS
  split
  · simp only [upd]; rw [if_neg h2, if_neg h1]
  · rfl
theorem bfS_a {s ld : Nat → Int32} {k : Nat} : bfS s ld k (24 + k) = if s (16 + k) = 2 then s (24 + k) + s (8 + k) * ld k / 10 else s (24 + k) := by
  unfold bfS
  split
  · simp only [upd]; rw [if_neg (by omega), if_pos trivial]
  · rfl
theorem bfS_b {s ld : Nat → Int32} {k : Nat} : bfS s ld k (28 + k) = if s (16 + k) = 2 then s (28 + k) + 1 else s (28 + k) := by
  unfold bfS
  split
  · simp only [upd]; rw [if_pos trivial]
  · rfl
theorem bfA_o {s ld : Nat → Int32} {j : Nat} (h : j < 24 ∨ 32 ≤ j) : bfA s ld j = s j := by
  unfold bfA
  rw [bfS_o (by omega) (by omega), bfS_o (by omega) (by omega), bfS_o (by omega) (by omega), bfS_o (by omega) (by omega)]
theorem fuS_o {s ld : Nat → Int32} {m x : Int32} {i q j n k : Nat} (h1 : j ≠ i) (h2 : j ≠ k) : fuS s ld m x i q k n j = s j := by
  unfold fuS; simp only [upd]; rw [if_neg h2, if_neg h1]
theorem fuS_a {s ld : Nat → Int32} {m x : Int32} {i q n k : Nat} (h : i ≠ k) : fuS s ld m x i q k n i = s i + s q * ld n / 10 := by
  unfold fuS; simp only [upd]; rw [if_neg h, if_pos trivial]
theorem fuS_b {s ld : Nat → Int32} {m x : Int32} {i q n k : Nat} (h : k ≠ i) : fuS s ld m x i q k n k = s k + (if hs m x = true then 1 else 0) := by
  unfold fuS; simp only [upd]; rw [if_pos trivial]
theorem fuF_o {s ld : Nat → Int32} {m : Int32} {j : Nat} (h : j < 24 ∨ 32 ≤ j) : fuF s ld m j = s j := by
  unfold fuF
  rw [fuS_o (by omega) (by omega), fuS_o (by omega) (by omega), fuS_o (by omega) (by omega), fuS_o (by omega) (by omega)]
theorem bfA_a0 {s ld : Nat → Int32} : bfA s ld 24 = if s 16 = 2 then s 24 + s 8 * ld 0 / 10 else s 24 := by
  unfold bfA
  rw [bfS_o (by decide) (by decide)]
  rw [bfS_o (by decide) (by decide)]
  rw [bfS_o (by decide) (by decide)]
  rw [show bfS s ld 0 24 = _ from bfS_a (k := 0)]
theorem bfA_b0 {s ld : Nat → Int32} : bfA s ld 28 = if s 16 = 2 then s 28 + 1 else s 28 := by
  unfold bfA
  rw [bfS_o (by decide) (by decide)]
  rw [bfS_o (by decide) (by decide)]
  rw [bfS_o (by decide) (by decide)]
  rw [show bfS s ld 0 28 = _ from bfS_b (k := 0)]
theorem fuF_a0 {s ld : Nat → Int32} {m : Int32} : fuF s ld m 24 = s 24 + s 8 * ld 0 / 10 := by
  unfold fuF
  rw [fuS_o (by decide) (by decide)]
  rw [fuS_o (by decide) (by decide)]
  rw [fuS_o (by decide) (by decide)]
  rw [fuS_a (by decide)]
theorem fuF_b0 {s ld : Nat → Int32} {m : Int32} : fuF s ld m 28 = s 28 + (if hs m 0 = true then 1 else 0) := by
  unfold fuF
  rw [fuS_o (by decide) (by decide)]
  rw [fuS_o (by decide) (by decide)]
  rw [fuS_o (by decide) (by decide)]
  rw [fuS_b (by decide)]
theorem bfA_a1 {s ld : Nat → Int32} : bfA s ld 25 = if s 17 = 2 then s 25 + s 9 * ld 1 / 10 else s 25 := by
  unfold bfA
  rw [bfS_o (by decide) (by decide)]
  rw [bfS_o (by decide) (by decide)]
  rw [show bfS (bfS s ld 0) ld 1 25 = _ from bfS_a (k := 1)]
  rw [show (16 + 1 : Nat) = 17 from rfl, show (24 + 1 : Nat) = 25 from rfl, show (8 + 1 : Nat) = 9 from rfl]
  simp only [bfS_o (k := 0) (show 17 ≠ 24 by decide) (show 17 ≠ 28 by decide)]
  simp only [bfS_o (k := 0) (show 25 ≠ 24 by decide) (show 25 ≠ 28 by decide)]
  simp only [bfS_o (k := 0) (show 9 ≠ 24 by decide) (show 9 ≠ 28 by decide)]
theorem bfA_b1 {s ld : Nat → Int32} : bfA s ld 29 = if s 17 = 2 then s 29 + 1 else s 29 := by
  unfold bfA
  rw [bfS_o (by decide) (by decide)]
  rw [bfS_o (by decide) (by decide)]
  rw [show bfS (bfS s ld 0) ld 1 29 = _ from bfS_b (k := 1)]
  rw [show (16 + 1 : Nat) = 17 from rfl, show (28 + 1 : Nat) = 29 from rfl]
  simp only [bfS_o (k := 0) (show 17 ≠ 24 by decide) (show 17 ≠ 28 by decide)]
  simp only [bfS_o (k := 0) (show 29 ≠ 24 by decide) (show 29 ≠ 28 by decide)]
theorem fuF_a1 {s ld : Nat → Int32} {m : Int32} : fuF s ld m 25 = s 25 + s 9 * ld 1 / 10 := by
  unfold fuF
  rw [fuS_o (by decide) (by decide)]
  rw [fuS_o (by decide) (by decide)]
  rw [fuS_a (by decide)]
  rw [fuS_o (by decide) (by decide)]
  rw [fuS_o (by decide) (by decide)]
theorem fuF_b1 {s ld : Nat → Int32} {m : Int32} : fuF s ld m 29 = s 29 + (if hs m 1 = true then 1 else 0) := by
  unfold fuF
  rw [fuS_o (by decide) (by decide)]
  rw [fuS_o (by decide) (by decide)]
  rw [fuS_b (by decide)]
  rw [fuS_o (by decide) (by decide)]
theorem bfA_a2 {s ld : Nat → Int32} : bfA s ld 26 = if s 18 = 2 then s 26 + s 10 * ld 2 / 10 else s 26 := by
  unfold bfA
  rw [bfS_o (by decide) (by decide)]
  rw [show bfS (bfS (bfS s ld 0) ld 1) ld 2 26 = _ from bfS_a (k := 2)]
  rw [show (16 + 2 : Nat) = 18 from rfl, show (24 + 2 : Nat) = 26 from rfl, show (8 + 2 : Nat) = 10 from rfl]
  simp only [bfS_o (k := 1) (show 18 ≠ 25 by decide) (show 18 ≠ 29 by decide)]
  simp only [bfS_o (k := 1) (show 26 ≠ 25 by decide) (show 26 ≠ 29 by decide)]
  simp only [bfS_o (k := 1) (show 10 ≠ 25 by decide) (show 10 ≠ 29 by decide)]
  simp only [bfS_o (k := 0) (show 18 ≠ 24 by decide) (show 18 ≠ 28 by decide)]
  simp only [bfS_o (k := 0) (show 26 ≠ 24 by decide) (show 26 ≠ 28 by decide)]
  simp only [bfS_o (k := 0) (show 10 ≠ 24 by decide) (show 10 ≠ 28 by decide)]
theorem bfA_b2 {s ld : Nat → Int32} : bfA s ld 30 = if s 18 = 2 then s 30 + 1 else s 30 := by
  unfold bfA
  rw [bfS_o (by decide) (by decide)]
  rw [show bfS (bfS (bfS s ld 0) ld 1) ld 2 30 = _ from bfS_b (k := 2)]
  rw [show (16 + 2 : Nat) = 18 from rfl, show (28 + 2 : Nat) = 30 from rfl]
  simp only [bfS_o (k := 1) (show 18 ≠ 25 by decide) (show 18 ≠ 29 by decide)]
  simp only [bfS_o (k := 1) (show 30 ≠ 25 by decide) (show 30 ≠ 29 by decide)]
  simp only [bfS_o (k := 0) (show 18 ≠ 24 by decide) (show 18 ≠ 28 by decide)]
  simp only [bfS_o (k := 0) (show 30 ≠ 24 by decide) (show 30 ≠ 28 by decide)]
theorem fuF_a2 {s ld : Nat → Int32} {m : Int32} : fuF s ld m 26 = s 26 + s 10 * ld 2 / 10 := by
  unfold fuF
  rw [fuS_o (by decide) (by decide)]
  rw [fuS_a (by decide)]
  rw [fuS_o (by decide) (by decide)]
  rw [fuS_o (by decide) (by decide)]
  rw [fuS_o (by decide) (by decide)]
  rw [fuS_o (by decide) (by decide)]
theorem fuF_b2 {s ld : Nat → Int32} {m : Int32} : fuF s ld m 30 = s 30 + (if hs m 2 = true then 1 else 0) := by
  unfold fuF
  rw [fuS_o (by decide) (by decide)]
  rw [fuS_b (by decide)]
  rw [fuS_o (by decide) (by decide)]
  rw [fuS_o (by decide) (by decide)]
theorem bfA_a3 {s ld : Nat → Int32} : bfA s ld 27 = if s 19 = 2 then s 27 + s 11 * ld 3 / 10 else s 27 := by
  unfold bfA
  rw [show bfS (bfS (bfS (bfS s ld 0) ld 1) ld 2) ld 3 27 = _ from bfS_a (k := 3)]
  rw [show (16 + 3 : Nat) = 19 from rfl, show (24 + 3 : Nat) = 27 from rfl, show (8 + 3 : Nat) = 11 from rfl]
  simp only [bfS_o (k := 2) (show 19 ≠ 26 by decide) (show 19 ≠ 30 by decide)]
  simp only [bfS_o (k := 2) (show 27 ≠ 26 by decide) (show 27 ≠ 30 by decide)]
  simp only [bfS_o (k := 2) (show 11 ≠ 26 by decide) (show 11 ≠ 30 by decide)]
  simp only [bfS_o (k := 1) (show 19 ≠ 25 by decide) (show 19 ≠ 29 by decide)]
  simp only [bfS_o (k := 1) (show 27 ≠ 25 by decide) (show 27 ≠ 29 by decide)]
  simp only [bfS_o (k := 1) (show 11 ≠ 25 by decide) (show 11 ≠ 29 by decide)]
  simp only [bfS_o (k := 0) (show 19 ≠ 24 by decide) (show 19 ≠ 28 by decide)]
  simp only [bfS_o (k := 0) (show 27 ≠ 24 by decide) (show 27 ≠ 28 by decide)]
  simp only [bfS_o (k := 0) (show 11 ≠ 24 by decide) (show 11 ≠ 28 by decide)]
theorem bfA_b3 {s ld : Nat → Int32} : bfA s ld 31 = if s 19 = 2 then s 31 + 1 else s 31 := by
  unfold bfA
  rw [show bfS (bfS (bfS (bfS s ld 0) ld 1) ld 2) ld 3 31 = _ from bfS_b (k := 3)]
  rw [show (16 + 3 : Nat) = 19 from rfl, show (28 + 3 : Nat) = 31 from rfl]
  simp only [bfS_o (k := 2) (show 19 ≠ 26 by decide) (show 19 ≠ 30 by decide)]
  simp only [bfS_o (k := 2) (show 31 ≠ 26 by decide) (show 31 ≠ 30 by decide)]
  simp only [bfS_o (k := 1) (show 19 ≠ 25 by decide) (show 19 ≠ 29 by decide)]
  simp only [bfS_o (k := 1) (show 31 ≠ 25 by decide) (show 31 ≠ 29 by decide)]
  simp only [bfS_o (k := 0) (show 19 ≠ 24 by decide) (show 19 ≠ 28 by decide)]
  simp only [bfS_o (k := 0) (show 31 ≠ 24 by decide) (show 31 ≠ 28 by decide)]
theorem fuF_a3 {s ld : Nat → Int32} {m : Int32} : fuF s ld m 27 = s 27 + s 11 * ld 3 / 10 := by
  unfold fuF
  rw [fuS_a (by decide)]
  rw [fuS_o (by decide) (by decide)]
  rw [fuS_o (by decide) (by decide)]
  rw [fuS_o (by decide) (by decide)]
  rw [fuS_o (by decide) (by decide)]
  rw [fuS_o (by decide) (by decide)]
  rw [fuS_o (by decide) (by decide)]
theorem fuF_b3 {s ld : Nat → Int32} {m : Int32} : fuF s ld m 31 = s 31 + (if hs m 3 = true then 1 else 0) := by
  unfold fuF
  rw [fuS_b (by decide)]
  rw [fuS_o (by decide) (by decide)]
  rw [fuS_o (by decide) (by decide)]
  rw [fuS_o (by decide) (by decide)]
theorem gv_un {g mer : Nat → Int32} {k : Int32} (hk : k ∈ k4) : ∀ (n : Nat) (rest left : Int32) (ld : Nat → Int32), rest ∈ m16 → hs rest k = false → (gv g mer n rest left ld).1 k.toNatClampNeg = ld k.toNatClampNeg := by
  intro n
  induction n with
  | zero => intro rest left ld _ _; rfl
  | succ n ih =>
    intro rest left ld hr hh
    by_cases h0 : 0 < rest
    · obtain ⟨q1, q2⟩ := chF_in (mer := mer) hr h0
      have hc := k4_of q2
      obtain ⟨b1, b2, b3, b4⟩ := m16_b hr hc q1
      rw [gv_k h0 rfl, ih _ _ _ b2 (by rw [b4 k hk, hh]; rfl)]
      unfold upd
      rw [if_neg]
      intro e
      have := k4_inj hk hc e
      rw [this, q1] at hh
      cases hh
    · rw [gv_0 h0]
theorem mkF_hs {ph : Nat → Int32} {w : Int32} : (hs (mkF ph w) 0 = decide (ph 0 = w)) ∧ (hs (mkF ph w) 1 = decide (ph 1 = w)) ∧ (hs (mkF ph w) 2 = decide (ph 2 = w)) ∧ (hs (mkF ph w) 3 = decide (ph 3 = w)) := by
  unfold mkF mkS
  by_cases h0 : ph 0 = w <;> by_cases h1 : ph 1 = w <;> by_cases h2 : ph 2 = w <;> by_cases h3 : ph 3 = w <;> simp only [h0, h1, h2, h3, if_true, if_false] <;> decide
theorem shL_0 {s : Nat → Int32} {all m : Int32} (hm : m ∈ m16) : (hs m 0 = false → shL s all m 0 = 0) ∧ (hs m 1 = false → shL s all m 1 = 0) ∧ (hs m 2 = false → shL s all m 2 = 0) ∧ (hs m 3 = false → shL s all m 3 = 0) := by
  obtain ⟨p0, p1, p2, p3⟩ := sLd0_at (s := s) (ld := z0) (mask := m)
  refine ⟨fun h => ?_, fun h => ?_, fun h => ?_, fun h => ?_⟩
  · have q := gv_un (g := mG (md g0 s)) (mer := mM (md g0 s)) (k := 0) (by decide) 4 m (if 0 ≤ sLeft (md g0 s) all m then sLeft (md g0 s) all m else 0) (sLd0 (md g0 s) m z0) hm h
    refine q.trans (p0.trans ?_)
    unfold sx; rw [h]; rfl
  · have q := gv_un (g := mG (md g0 s)) (mer := mM (md g0 s)) (k := 1) (by decide) 4 m (if 0 ≤ sLeft (md g0 s) all m then sLeft (md g0 s) all m else 0) (sLd0 (md g0 s) m z0) hm h
    refine q.trans (p1.trans ?_)
    unfold sx; rw [h]; rfl
  · have q := gv_un (g := mG (md g0 s)) (mer := mM (md g0 s)) (k := 2) (by decide) 4 m (if 0 ≤ sLeft (md g0 s) all m then sLeft (md g0 s) all m else 0) (sLd0 (md g0 s) m z0) hm h
    refine q.trans (p2.trans ?_)
    unfold sx; rw [h]; rfl
  · have q := gv_un (g := mG (md g0 s)) (mer := mM (md g0 s)) (k := 3) (by decide) 4 m (if 0 ≤ sLeft (md g0 s) all m then sLeft (md g0 s) all m else 0) (sLd0 (md g0 s) m z0) hm h
    refine q.trans (p3.trans ?_)
    unfold sx; rw [h]; rfl
/-- the model's island behind an hour, in layers -/
theorem goN_l {s : Nat → Int32} {H : Nat} (hs : s 34 = nI H) (hH : H < 48) : goN s = wrmF (rcN (fuF (cntF (wuF s) (shO (wuF s) (gAll s) (gMask s))) (shL (wuF s) (gAll s) (gMask s)) (gMask s)) H (gAll s) (shO (wuF s) (gAll s) (gMask s) 8) (shO (wuF s) (gAll s) (gMask s) 9) (shO (wuF s) (gAll s) (gMask s) 10) (if shO (wuF s) (gAll s) (gMask s) 11 = 0 then 0 else 1) (gMask s)) := by
  have e34 : wuF s 34 = s 34 := wuF_o (Or.inr (by decide))
  unfold goN goF gOb gLd
  rw [recF_n (H := H) (by rw [cnt_34, e34]; exact hs) hH]
  rfl
theorem cntF_o {s ob : Nat → Int32} {j : Nat} (h1 : j ≠ 38) (h2 : j ≠ 39) : cntF s ob j = s j := by
  unfold cntF; simp only [upd]; rw [if_neg h2, if_neg h1]
theorem wrmF_o {s : Nat → Int32} {j : Nat} (h1 : j ≠ 34) (h2 : j ≠ 35) (h3 : j ≠ 36) : wrmF s j = s j := by
  unfold wrmF; simp only [upd]; rw [if_neg h1, if_neg h3, if_neg h2]
def wmv (s : Nat → Int32) : Int32 := s 35 + (if s 37 = 1 then 1 else if s 35 ≤ 0 then 0 else -1)
theorem wrmF_35 {s : Nat → Int32} : wrmF s 35 = wmv s := by
  unfold wrmF; simp only [upd]; rw [if_neg (by decide), if_neg (by decide), if_pos trivial]; rfl
theorem wrmF_36 {s : Nat → Int32} : wrmF s 36 = if wmv s ≤ s 33 then s 36 else 1 := by
  unfold wrmF; simp only [upd]; rw [if_neg (by decide), if_pos trivial]; rfl
section GN
variable {s : Nat → Int32} {H : Nat}
theorem gN_o (hh : s 34 = nI H) (hH : H < 48) {j : Nat} (h : j < 24 ∨ 32 ≤ j) (h2 : j < 34 ∨ 37 ≤ j) (h3 : j ≠ 38) (h4 : j ≠ 39) (h5 : j < 88 + 6 * H ∨ 88 + 6 * H + 6 ≤ j) : goN s j = wuF s j := by
  rw [goN_l hh hH, wrmF_o (by omega) (by omega) (by omega), rcN_o h5, fuF_o h, cntF_o h3 h4]
theorem gN_a0 (hh : s 34 = nI H) (hH : H < 48) : goN s 24 = s 24 + s 8 * shL (wuF s) (gAll s) (gMask s) 0 / 10 := by
  rw [goN_l hh hH, wrmF_o (by decide) (by decide) (by decide), rcN_o (by omega), fuF_a0, cntF_o (by decide) (by decide), cntF_o (by decide) (by decide), wuF_o (by decide), wuF_o (by decide)]
theorem gN_b0 (hh : s 34 = nI H) (hH : H < 48) : goN s 28 = s 28 + (if hs (gMask s) 0 = true then 1 else 0) := by
  rw [goN_l hh hH, wrmF_o (by decide) (by decide) (by decide), rcN_o (by omega), fuF_b0, cntF_o (by decide) (by decide), wuF_o (by decide)]
theorem gN_a1 (hh : s 34 = nI H) (hH : H < 48) : goN s 25 = s 25 + s 9 * shL (wuF s) (gAll s) (gMask s) 1 / 10 := by
  rw [goN_l hh hH, wrmF_o (by decide) (by decide) (by decide), rcN_o (by omega), fuF_a1, cntF_o (by decide) (by decide), cntF_o (by decide) (by decide), wuF_o (by decide), wuF_o (by decide)]
theorem gN_b1 (hh : s 34 = nI H) (hH : H < 48) : goN s 29 = s 29 + (if hs (gMask s) 1 = true then 1 else 0) := by
  rw [goN_l hh hH, wrmF_o (by decide) (by decide) (by decide), rcN_o (by omega), fuF_b1, cntF_o (by decide) (by decide), wuF_o (by decide)]
theorem gN_a2 (hh : s 34 = nI H) (hH : H < 48) : goN s 26 = s 26 + s 10 * shL (wuF s) (gAll s) (gMask s) 2 / 10 := by
  rw [goN_l hh hH, wrmF_o (by decide) (by decide) (by decide), rcN_o (by omega), fuF_a2, cntF_o (by decide) (by decide), cntF_o (by decide) (by decide), wuF_o (by decide), wuF_o (by decide)]
theorem gN_b2 (hh : s 34 = nI H) (hH : H < 48) : goN s 30 = s 30 + (if hs (gMask s) 2 = true then 1 else 0) := by
  rw [goN_l hh hH, wrmF_o (by decide) (by decide) (by decide), rcN_o (by omega), fuF_b2, cntF_o (by decide) (by decide), wuF_o (by decide)]
theorem gN_a3 (hh : s 34 = nI H) (hH : H < 48) : goN s 27 = s 27 + s 11 * shL (wuF s) (gAll s) (gMask s) 3 / 10 := by
  rw [goN_l hh hH, wrmF_o (by decide) (by decide) (by decide), rcN_o (by omega), fuF_a3, cntF_o (by decide) (by decide), cntF_o (by decide) (by decide), wuF_o (by decide), wuF_o (by decide)]
theorem gN_b3 (hh : s 34 = nI H) (hH : H < 48) : goN s 31 = s 31 + (if hs (gMask s) 3 = true then 1 else 0) := by
  rw [goN_l hh hH, wrmF_o (by decide) (by decide) (by decide), rcN_o (by omega), fuF_b3, cntF_o (by decide) (by decide), wuF_o (by decide)]
theorem gN_r0 (hh : s 34 = nI H) (hH : H < 48) : goN s (88 + 6 * H + 0) = gAll s := by
  rw [goN_l hh hH, wrmF_o (by omega) (by omega) (by omega), rcN_0]
theorem gN_r1 (hh : s 34 = nI H) (hH : H < 48) : goN s (88 + 6 * H + 1) = shO (wuF s) (gAll s) (gMask s) 8 := by
  rw [goN_l hh hH, wrmF_o (by omega) (by omega) (by omega), rcN_1]
theorem gN_r2 (hh : s 34 = nI H) (hH : H < 48) : goN s (88 + 6 * H + 2) = shO (wuF s) (gAll s) (gMask s) 9 := by
  rw [goN_l hh hH, wrmF_o (by omega) (by omega) (by omega), rcN_2]
theorem gN_r3 (hh : s 34 = nI H) (hH : H < 48) : goN s (88 + 6 * H + 3) = shO (wuF s) (gAll s) (gMask s) 10 := by
  rw [goN_l hh hH, wrmF_o (by omega) (by omega) (by omega), rcN_3]
theorem gN_r4 (hh : s 34 = nI H) (hH : H < 48) : goN s (88 + 6 * H + 4) = if shO (wuF s) (gAll s) (gMask s) 11 = 0 then 0 else 1 := by
  rw [goN_l hh hH, wrmF_o (by omega) (by omega) (by omega), rcN_4]
theorem gN_r5 (hh : s 34 = nI H) (hH : H < 48) : goN s (88 + 6 * H + 5) = gMask s := by
  rw [goN_l hh hH, wrmF_o (by omega) (by omega) (by omega), rcN_5]
theorem gN_34 (hh : s 34 = nI H) (hH : H < 48) : goN s 34 = nI (H + 1) := goF_34 hh hH
theorem lay_o {a b c d e f : Int32} {X : Nat → Int32} {j : Nat} (h : j < 24 ∨ 32 ≤ j) (h3 : j ≠ 38) (h4 : j ≠ 39) (h5 : j < 88 + 6 * H ∨ 88 + 6 * H + 6 ≤ j) (ob : Nat → Int32) (m : Int32) : rcN (fuF (cntF (wuF s) ob) X m) H a b c d e f j = wuF s j := by
  rw [rcN_o h5, fuF_o h, cntF_o h3 h4]
theorem wmv_c {a b : Nat → Int32} (h35 : a 35 = b 35) (h37 : a 37 = b 37) : wmv a = wmv b := by unfold wmv; rw [h35, h37]
theorem gN_35 (hh : s 34 = nI H) (hH : H < 48) : goN s 35 = wmv s := by
  rw [goN_l hh hH, wrmF_35]
  refine wmv_c ?_ ?_
  · rw [lay_o (by decide) (by decide) (by decide) (by omega), wuF_o (by decide)]
  · rw [lay_o (by decide) (by decide) (by decide) (by omega), wuF_o (by decide)]
theorem gN_36 (hh : s 34 = nI H) (hH : H < 48) : goN s 36 = if wmv s ≤ s 33 then s 36 else 1 := by
  rw [goN_l hh hH, wrmF_36]
  rw [wmv_c (b := s) (by rw [lay_o (by decide) (by decide) (by decide) (by omega), wuF_o (by decide)]) (by rw [lay_o (by decide) (by decide) (by decide) (by omega), wuF_o (by decide)])]
  rw [lay_o (by decide) (by decide) (by decide) (by omega), wuF_o (by decide), lay_o (by decide) (by decide) (by decide) (by omega), wuF_o (by decide)]
theorem gN_38 (hh : s 34 = nI H) (hH : H < 48) : goN s 38 = s 38 + (if shO (wuF s) (gAll s) (gMask s) 8 ≤ 0 then 0 else 1) := by
  rw [goN_l hh hH, wrmF_o (by decide) (by decide) (by decide), rcN_o (by omega), fuF_o (by decide)]
  unfold cntF; simp only [upd]
  rw [if_neg (by decide), if_pos trivial, wuF_o (by decide)]
theorem gN_39 (hh : s 34 = nI H) (hH : H < 48) : goN s 39 = s 39 + (if shO (wuF s) (gAll s) (gMask s) 11 = 0 then 1 else 0) := by
  rw [goN_l hh hH, wrmF_o (by decide) (by decide) (by decide), rcN_o (by omega), fuF_o (by decide)]
  unfold cntF; simp only [upd]
  rw [if_pos trivial, wuF_o (by decide)]
end GN

