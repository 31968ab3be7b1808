/-! THE CLASS: the digest -/
-- doubles
def one64 : UInt64 := 4607182418800017408
def two64 : UInt64 := 4611686018427387904
def big64 : UInt64 := 4841369599423283200
def nfb (v : UInt64) : Bool := decide (v &&& 0x7fffffffffffffff ≤ 0x7ff0000000000000)
theorem nfb_v {v : UInt64} (h : nfb v = true) : vf_n64 v := by
  unfold nfb at h
  unfold vf_n64
  exact of_decide_eq_true h
def geb (v : UInt64) : Bool := decide (0 ≤ Op.cmpValue (FP.dcmp v one64) .g)
def okL : Nat → UInt64 → Int64 → Bool
  | 0, _, _ => false
  | f + 1, v, e => bif geb v then nfb (FP.dsub v one64) && nfb (FP.dmul (FP.dsub v one64) big64) else decide (¬ lg_cmp e (Int64.ofNat 0) ≤ 0) && nfb (FP.dmul v two64) && okL f (FP.dmul v two64) (e - Int64.ofNat 1)
def rnL : Nat → UInt64 → Int64 → UInt64 × Int64
  | 0, v, e => (v, e)
  | f + 1, v, e => bif geb v then (v, e) else rnL f (FP.dmul v two64) (e - Int64.ofNat 1)
def rsC (x : UInt64 × Int64) : Int64 := (x.2 <<< ((52 : Int32).toInt64 &&& 63)) + FP.d2l (FP.dmul (FP.dsub x.1 one64) big64)
def rsM (x : UInt64 × Int64) : Int64 := x.2 * 4503599627370496 + FP.d2l (FP.dmul (FP.dsub x.1 one64) big64)
def zcb (v : UInt64) : Bool := decide (¬ 0 < Op.cmpValue (FP.dcmp v 0) .g)
def zmb (v : UInt64) : Bool := decide (Op.cmpValue (FP.dcmp v 0) .l = 0)
def chk (v : UInt64) : Bool := (zcb v == zmb v) && (zcb v || (okL 8 v 1023 && decide (rsC (rnL 8 v 1023) = rsM (rnL 8 v 1023))))
def bitV (v : UInt64) : Int64 := bif zcb v then Int64.ofNat 0 else rsC (rnL 8 v 1023)
def shV (a b : Nat) : UInt64 := FP.ddiv (FP.i2d (nI a)) (FP.i2d (nI b))
theorem chk_1 : chk one64 = true := by decide +kernel
theorem chk_s : ∀ b, b < 49 → ∀ a, a < 49 → 0 < b → a ≤ b → chk (shV a b) = true := by decide +kernel

theorem cb_lt {xs : Nat → Int32} {L : Nat} {o_ : z_Rs} {M' : Mem} {kk : Nat} (x w : UInt64) (e : Int64) (C : Nat → Nat → Nat → Int32) (D : Nat → Nat → Int32) (E : Nat → Int64) (hg : ¬ 0 ≤ (Op.cmpValue (FP.dcmp w (4607182418800017408 : UInt64)) .g)) (he : ¬ lg_cmp e (Int64.ofNat 0) ≤ 0) (hn : vf_n64 (FP.dmul w 4611686018427387904)) (K : z_Ev xs L m_X4_bitsOfShare (15, [some (aD x), none, some (aD (FP.dmul w 4611686018427387904)), none, some (aL (e - Int64.ofNat 1)), none], [], (C, D, E)) o_ M' kk) : z_Ev xs L m_X4_bitsOfShare (15, [some (aD x), none, some (aD w), none, some (aL e), none], [], (C, D, E)) o_ M' kk := by
  refine z_Ev_blk 4 (c' := ((if 0 ≤ (Op.cmpValue (FP.dcmp w (4607182418800017408 : UInt64)) .g) then 43 else 21), [some (aD x), none, some (aD w), none, some (aL e), none], [], (C, D, E))) rfl trivial ?_
  refine z_Ev_else (hg) ?_
  refine z_Ev_blk 4 (c' := ((if (lg_cmp e (Int64.ofNat 0)) ≤ 0 then 43 else 28), [some (aD x), none, some (aD w), none, some (aL e), none], [], (C, D, E))) rfl trivial ?_
  refine z_Ev_else (he) ?_
  refine z_Ev_blk 9 (c' := (15, [some (aD x), none, some (aD (FP.dmul w (4611686018427387904 : UInt64))), none, some (aL (e - (Int64.ofNat 1))), none], [], (C, D, E))) rfl ⟨(hn), trivial⟩ ?_
  exact K
theorem cb_ge {xs : Nat → Int32} {L : Nat} (x w : UInt64) (e : Int64) (C : Nat → Nat → Nat → Int32) (D : Nat → Nat → Int32) (E : Nat → Int64) (hg : 0 ≤ (Op.cmpValue (FP.dcmp w (4607182418800017408 : UInt64)) .g)) (hn : vf_n64 (FP.dsub w 4607182418800017408)) (hn1 : vf_n64 (FP.dmul (FP.dsub w 4607182418800017408) 4841369599423283200)) : z_Ev xs L m_X4_bitsOfShare (15, [some (aD x), none, some (aD w), none, some (aL e), none], [], (C, D, E)) (.inl (some (aL ((e <<< ((52 : Int32).toInt64 &&& 63)) + FP.d2l (FP.dmul (FP.dsub w 4607182418800017408) 4841369599423283200))))) (C, D, E) 0 := by
  refine z_Ev_blk 4 (c' := ((if 0 ≤ (Op.cmpValue (FP.dcmp w (4607182418800017408 : UInt64)) .g) then 43 else 21), [some (aD x), none, some (aD w), none, some (aL e), none], [], (C, D, E))) rfl trivial ?_
  refine z_Ev_if (hg) ?_
  refine z_Ev_blk 10 (c' := (57, [some (aD x), none, some (aD w), none, some (aL e), none], [aL ((e <<< ((52 : Int32).toInt64 &&& 63)) + (FP.d2l (FP.dmul (FP.dsub w (4607182418800017408 : UInt64)) (4841369599423283200 : UInt64))))], (C, D, E))) rfl ⟨(hn), (hn1), trivial⟩ ?_
  exact z_Ev_lretE rfl rfl (by rfl) (by rfl)
theorem cb_all {xs : Nat → Int32} {L : Nat} (x : UInt64) (C : Nat → Nat → Nat → Int32) (D : Nat → Nat → Int32) (E : Nat → Int64) : ∀ (f : Nat) (w : UInt64) (e : Int64), okL f w e = true → z_Ev xs L m_X4_bitsOfShare (15, [some (aD x), none, some (aD w), none, some (aL e), none], [], (C, D, E)) (.inl (some (aL (rsC (rnL f w e))))) (C, D, E) 0 := by
  intro f
  induction f with
  | zero => intro w e h; cases h
  | succ f ih =>
    intro w e h
    unfold okL at h
    unfold rnL
    cases hg : geb w with
    | true =>
      rw [hg] at h
      obtain ⟨n1, n2⟩ := Bool.and_eq_true_iff.mp h
      exact cb_ge x w e C D E (of_decide_eq_true hg) (nfb_v n1) (nfb_v n2)
    | false =>
      rw [hg] at h
      obtain ⟨h, n3⟩ := Bool.and_eq_true_iff.mp h
      obtain ⟨n1, n2⟩ := Bool.and_eq_true_iff.mp h
      exact cb_lt x w e C D E (of_decide_eq_false hg) (of_decide_eq_true n1) (nfb_v n2) (ih _ _ n3)
theorem cb_z {xs : Nat → Int32} {L : Nat} (v : UInt64) (C : Nat → Nat → Nat → Int32) (D : Nat → Nat → Int32) (E : Nat → Int64) (hz : ¬ 0 < (Op.cmpValue (FP.dcmp v (0 : UInt64)) .g)) : z_Mt xs L m_X4_bitsOfShare [aD v] (C, D, E) (.inl (some (aL (Int64.ofNat 0)))) (C, D, E) 0 := by
  refine z_Ev_blk 4 (c' := ((if 0 < (Op.cmpValue (FP.dcmp v (0 : UInt64)) .g) then 8 else 6), [some (aD v), none, none, none, none, none], [], (C, D, E))) rfl trivial ?_
  refine z_Ev_else (hz) ?_
  refine z_Ev_blk 1 (c' := (7, [some (aD v), none, none, none, none, none], [aL (Int64.ofNat 0)], (C, D, E))) rfl trivial ?_
  exact z_Ev_lretE rfl rfl (by rfl) (by rfl)
theorem cb_b {xs : Nat → Int32} {L : Nat} {o_ : z_Rs} {M' : Mem} {kk : Nat} (v : UInt64) (C : Nat → Nat → Nat → Int32) (D : Nat → Nat → Int32) (E : Nat → Int64) (hz : 0 < (Op.cmpValue (FP.dcmp v (0 : UInt64)) .g)) (K : z_Ev xs L m_X4_bitsOfShare (15, [some (aD v), none, some (aD v), none, some (aL (1023 : Int64)), none], [], (C, D, E)) o_ M' kk) : z_Mt xs L m_X4_bitsOfShare [aD v] (C, D, E) o_ M' kk := by
  refine z_Ev_blk 4 (c' := ((if 0 < (Op.cmpValue (FP.dcmp v (0 : UInt64)) .g) then 8 else 6), [some (aD v), none, none, none, none, none], [], (C, D, E))) rfl trivial ?_
  refine z_Ev_if (hz) ?_
  refine z_Ev_blk 4 (c' := (15, [some (aD v), none, some (aD v), none, some (aL (1023 : Int64)), none], [], (C, D, E))) rfl trivial ?_
  exact K
theorem c_bits {xs : Nat → Int32} {L : Nat} (v : UInt64) (C : Nat → Nat → Nat → Int32) (D : Nat → Nat → Int32) (E : Nat → Int64) (h : chk v = true) : z_Mt xs L m_X4_bitsOfShare [aD v] (C, D, E) (.inl (some (aL (bitV v)))) (C, D, E) 0 := by
  unfold chk at h
  unfold bitV
  cases hz : zcb v with
  | true => exact cb_z v C D E (of_decide_eq_true hz)
  | false =>
    rw [hz] at h
    obtain ⟨-, h⟩ := Bool.and_eq_true_iff.mp h
    obtain ⟨h, -⟩ := Bool.and_eq_true_iff.mp h
    refine cb_b v C D E (Decidable.byContradiction fun z => absurd (decide_eq_true z) (by rw [show decide (¬ 0 < Op.cmpValue (FP.dcmp v 0) .g) = zcb v from rfl, hz]; decide)) ?_
    exact cb_all v C D E 8 v 1023 h
def dgI (h : Int64) (x : Int32) : Int64 := 31 * h + x.toInt64
def dgL (h y : Int64) : Int64 := 31 * h + y
def itN (f : Nat → Int32) : Nat → Nat → Int64 → Int64
  | 0, _, h => h
  | d + 1, w, h => itN f d (w + 1) (dgI h (f w))
def itS (s : Nat → Int32) : Nat → Nat → Int64 → Int64
  | 0, _, h => h
  | d + 1, k, h => itS s d (k + 1) (dgI (itN (tolV s k) 9 0 h) (dwV s k))
def itH (s : Nat → Int32) : Nat → Nat → Int64 → Int64
  | 0, _, h => h
  | d + 1, k, h => itH s d (k + 1) (itN (houV s k) 7 0 h)
def chD (s : Nat → Int32) (k : Nat) (h : Int64) : Int64 := dgI (dgI h (chV s k 0)) (chV s k 1)
def shareV (s : Nat → Int32) (H a : Nat) : UInt64 := if H = 0 then one64 else shV a H
def digV (s tx : Nat → Int32) (H a c : Nat) (x : Int32) : Int64 :=
  itN tx c 0 (dgI (dgL (dgI (dgI (dgI (chD s 47 (chD s 20 (chD s 0 (itH s 48 0 (itS s 4 0 (dgI (dgI (itN (cntV s x) 15 0 3041) (s 32)) (s 33))))))) (fdV s H)) (ifsV s H)) (bsV s H)) (bitV (shareV s H a))) (nI c))

theorem dg_a {xs : Nat → Int32} {L : Nat} {o_ : z_Rs} {M' : Mem} {kk : Nat} (w : Nat) (V : Int32) (h : Int64) (T LD SH : Nat → Int32) (n t : Nat → Int32) (v : Nat → Nat → Int32) (ld sh o cd pl ka kb kc : Nat → Int32) (D : Nat → Nat → Int32) (E : Nat → Int64) (hw : w < 15) (hC : z_Mt xs L m_X4_count [aR 0 16, aI (nI w)] (cm n t v ld sh o cd pl ka kb kc, D, E) (.inl (some (aI V))) (cm n T v LD SH o cd pl ka kb kc, D, E) 0) (K : z_Ev xs L m_X4_digest (6, [some (aR 0 16), some (aL (dgI h V)), none, some (aI (nI (w + 1))), none], [], (cm n T v LD SH o cd pl ka kb kc, D, E)) o_ M' kk) : z_Ev xs L m_X4_digest (6, [some (aR 0 16), some (aL h), none, some (aI (nI w)), none], [], (cm n t v ld sh o cd pl ka kb kc, D, E)) o_ M' kk := by
  refine z_Ev_blk 3 (c' := ((if (14 : Int32) < (nI w) then 31 else 12), [some (aR 0 16), some (aL h), none, some (aI (nI w)), none], [], (cm n t v ld sh o cd pl ka kb kc, D, E))) rfl trivial ?_
  refine z_Ev_else (nI_nlt (b := w) (a := 14) (by omega) (by omega)) ?_
  refine z_Ev_blk 5 (c' := (19, [some (aR 0 16), some (aL h), none, some (aI (nI w)), none], [aI (nI w), aR 0 16, aL ((31 : Int64) * h)], (cm n t v ld sh o cd pl ka kb kc, D, E))) rfl trivial ?_
  refine z_Ev_call0 (m' := m_X4_count) (as := [aR 0 16, aI (nI w)]) (r := [aL ((31 : Int64) * h)]) (hC) rfl rfl ?_
  refine z_Ev_blk 5 (c' := (6, [some (aR 0 16), some (aL (((31 : Int64) * h) + (V.toInt64))), none, some (aI ((nI w) + (1 : Int32))), none], [], (cm n T v LD SH o cd pl ka kb kc, D, E))) rfl trivial ?_
  refine z_Ev_fgt [true, true, false, true, false] ?_
  exact z_Ev_eq (c := (6, [some (aR 0 16), some (aL (((31 : Int64) * h) + (V.toInt64))), none, some (aI ((nI w) + (1 : Int32))), none], [], (cm n T v LD SH o cd pl ka kb kc, D, E))) (c' := (6, [some (aR 0 16), some (aL (dgI h V)), none, some (aI (nI (w + 1))), none], [], (cm n T v LD SH o cd pl ka kb kc, D, E))) (by first | rfl | (rw [nI_1]; done) | (rw [nI_1]; rfl)) K
theorem dg_b {xs : Nat → Int32} {L : Nat} {o_ : z_Rs} {M' : Mem} {kk : Nat} (h : Int64)  (n t : Nat → Int32) (v : Nat → Nat → Int32) (ld sh o cd pl ka kb kc : Nat → Int32) (D : Nat → Nat → Int32) (E : Nat → Int64)  (K : z_Ev xs L m_X4_digest (59, [some (aR 0 16), some (aL (dgI (dgI h (n 32)) (n 33))), none, some (aI (nI 0)), none], [], (cm n t v ld sh o cd pl ka kb kc, D, E)) o_ M' kk) : z_Ev xs L m_X4_digest (6, [some (aR 0 16), some (aL h), none, some (aI (nI 15)), none], [], (cm n t v ld sh o cd pl ka kb kc, D, E)) o_ M' kk := by
  refine z_Ev_blk 3 (c' := ((if (14 : Int32) < (nI 15) then 31 else 12), [some (aR 0 16), some (aL h), none, some (aI (nI 15)), none], [], (cm n t v ld sh o cd pl ka kb kc, D, E))) rfl trivial ?_
  refine z_Ev_if (by decide) ?_
  refine z_Ev_blk 5 (c' := ((if (2 : Int32) ≤ (0 : Int32) then 57 else 38), [some (aR 0 16), some (aL h), none, some (aI (0 : Int32)), none], [], (cm n t v ld sh o cd pl ka kb kc, D, E))) rfl trivial ?_
  refine z_Ev_else (by decide) ?_
  refine z_Ev_blk 5 (c' := (45, [some (aR 0 16), some (aL h), none, some (aI (0 : Int32)), none], [aI (0 : Int32), aR 0 16, aL ((31 : Int64) * h)], (cm n t v ld sh o cd pl ka kb kc, D, E))) rfl trivial ?_
  refine z_Ev_call0 (m' := m_X4_setting) (as := [aR 0 16, aI (0 : Int32)]) (r := [aL ((31 : Int64) * h)]) (c_setting_0 n t v ld sh o cd pl ka kb kc D E) rfl rfl ?_
  refine z_Ev_blk 8 (c' := ((if (2 : Int32) ≤ (1 : Int32) then 57 else 38), [some (aR 0 16), some (aL (((31 : Int64) * h) + ((n 32).toInt64))), none, some (aI (1 : Int32)), none], [], (cm n t v ld sh o cd pl ka kb kc, D, E))) rfl trivial ?_
  refine z_Ev_else (by decide) ?_
  refine z_Ev_blk 5 (c' := (45, [some (aR 0 16), some (aL (((31 : Int64) * h) + ((n 32).toInt64))), none, some (aI (1 : Int32)), none], [aI (1 : Int32), aR 0 16, aL ((31 : Int64) * (((31 : Int64) * h) + ((n 32).toInt64)))], (cm n t v ld sh o cd pl ka kb kc, D, E))) rfl trivial ?_
  refine z_Ev_call0 (m' := m_X4_setting) (as := [aR 0 16, aI (1 : Int32)]) (r := [aL ((31 : Int64) * (((31 : Int64) * h) + ((n 32).toInt64)))]) (c_setting_1 n t v ld sh o cd pl ka kb kc D E) rfl rfl ?_
  refine z_Ev_blk 8 (c' := ((if (2 : Int32) ≤ (2 : Int32) then 57 else 38), [some (aR 0 16), some (aL (((31 : Int64) * (((31 : Int64) * h) + ((n 32).toInt64))) + ((n 33).toInt64))), none, some (aI (2 : Int32)), none], [], (cm n t v ld sh o cd pl ka kb kc, D, E))) rfl trivial ?_
  refine z_Ev_if (by decide) ?_
  refine z_Ev_blk 2 (c' := (59, [some (aR 0 16), some (aL (((31 : Int64) * (((31 : Int64) * h) + ((n 32).toInt64))) + ((n 33).toInt64))), none, some (aI (0 : Int32)), none], [], (cm n t v ld sh o cd pl ka kb kc, D, E))) rfl trivial ?_
  refine z_Ev_fgt [true, true, false, true, false] ?_
  exact z_Ev_eq (c := (59, [some (aR 0 16), some (aL (((31 : Int64) * (((31 : Int64) * h) + ((n 32).toInt64))) + ((n 33).toInt64))), none, some (aI (0 : Int32)), none], [], (cm n t v ld sh o cd pl ka kb kc, D, E))) (c' := (59, [some (aR 0 16), some (aL (dgI (dgI h (n 32)) (n 33))), none, some (aI (nI 0)), none], [], (cm n t v ld sh o cd pl ka kb kc, D, E))) (by first | rfl | (rw [nI_1]; done) | (rw [nI_1]; rfl)) K
theorem dg_c0 {xs : Nat → Int32} {L : Nat} {o_ : z_Rs} {M' : Mem} {kk : Nat} (k : Nat) (h : Int64)  (n t : Nat → Int32) (v : Nat → Nat → Int32) (ld sh o cd pl ka kb kc : Nat → Int32) (D : Nat → Nat → Int32) (E : Nat → Int64) (hk : k < 4) (K : z_Ev xs L m_X4_digest (67, [some (aR 0 16), some (aL h), none, some (aI (nI k)), some (aI (nI 0))], [], (cm n t v ld sh o cd pl ka kb kc, D, E)) o_ M' kk) : z_Ev xs L m_X4_digest (59, [some (aR 0 16), some (aL h), none, some (aI (nI k)), none], [], (cm n t v ld sh o cd pl ka kb kc, D, E)) o_ M' kk := by
  refine z_Ev_blk 3 (c' := ((if (4 : Int32) ≤ (nI k) then 114 else 64), [some (aR 0 16), some (aL h), none, some (aI (nI k)), none], [], (cm n t v ld sh o cd pl ka kb kc, D, E))) rfl trivial ?_
  refine z_Ev_else (nI_ge (b := 4) hk (by decide)) ?_
  refine z_Ev_blk 2 (c' := (67, [some (aR 0 16), some (aL h), none, some (aI (nI k)), some (aI (0 : Int32))], [], (cm n t v ld sh o cd pl ka kb kc, D, E))) rfl trivial ?_
  refine z_Ev_fgt [true, true, false, true, true] ?_
  exact z_Ev_eq (c := (67, [some (aR 0 16), some (aL h), none, some (aI (nI k)), some (aI (0 : Int32))], [], (cm n t v ld sh o cd pl ka kb kc, D, E))) (c' := (67, [some (aR 0 16), some (aL h), none, some (aI (nI k)), some (aI (nI 0))], [], (cm n t v ld sh o cd pl ka kb kc, D, E))) (by first | rfl | (rw [nI_1]; done) | (rw [nI_1]; rfl)) K
theorem dg_c {xs : Nat → Int32} {L : Nat} {o_ : z_Rs} {M' : Mem} {kk : Nat} (k w : Nat) (V : Int32) (h : Int64) (T LD SH : Nat → Int32) (n t : Nat → Int32) (v : Nat → Nat → Int32) (ld sh o cd pl ka kb kc : Nat → Int32) (D : Nat → Nat → Int32) (E : Nat → Int64) (hw : w < 9) (hC : z_Mt xs L m_X4_setOf [aR 0 16, aI (nI k), aI (nI w)] (cm n t v ld sh o cd pl ka kb kc, D, E) (.inl (some (aI V))) (cm n T v LD SH o cd pl ka kb kc, D, E) 0) (K : z_Ev xs L m_X4_digest (67, [some (aR 0 16), some (aL (dgI h V)), none, some (aI (nI k)), some (aI (nI (w + 1)))], [], (cm n T v LD SH o cd pl ka kb kc, D, E)) o_ M' kk) : z_Ev xs L m_X4_digest (67, [some (aR 0 16), some (aL h), none, some (aI (nI k)), some (aI (nI w))], [], (cm n t v ld sh o cd pl ka kb kc, D, E)) o_ M' kk := by
  refine z_Ev_blk 3 (c' := ((if (8 : Int32) < (nI w) then 95 else 74), [some (aR 0 16), some (aL h), none, some (aI (nI k)), some (aI (nI w))], [], (cm n t v ld sh o cd pl ka kb kc, D, E))) rfl trivial ?_
  refine z_Ev_else (nI_nlt (b := w) (a := 8) (by omega) (by omega)) ?_
  refine z_Ev_blk 6 (c' := (83, [some (aR 0 16), some (aL h), none, some (aI (nI k)), some (aI (nI w))], [aI (nI w), aI (nI k), aR 0 16, aL ((31 : Int64) * h)], (cm n t v ld sh o cd pl ka kb kc, D, E))) rfl trivial ?_
  refine z_Ev_call0 (m' := m_X4_setOf) (as := [aR 0 16, aI (nI k), aI (nI w)]) (r := [aL ((31 : Int64) * h)]) (hC) rfl rfl ?_
  refine z_Ev_blk 5 (c' := (67, [some (aR 0 16), some (aL (((31 : Int64) * h) + (V.toInt64))), none, some (aI (nI k)), some (aI ((nI w) + (1 : Int32)))], [], (cm n T v LD SH o cd pl ka kb kc, D, E))) rfl trivial ?_
  refine z_Ev_fgt [true, true, false, true, true] ?_
  exact z_Ev_eq (c := (67, [some (aR 0 16), some (aL (((31 : Int64) * h) + (V.toInt64))), none, some (aI (nI k)), some (aI ((nI w) + (1 : Int32)))], [], (cm n T v LD SH o cd pl ka kb kc, D, E))) (c' := (67, [some (aR 0 16), some (aL (dgI h V)), none, some (aI (nI k)), some (aI (nI (w + 1)))], [], (cm n T v LD SH o cd pl ka kb kc, D, E))) (by first | rfl | (rw [nI_1]; done) | (rw [nI_1]; rfl)) K
theorem dg_d {xs : Nat → Int32} {L : Nat} {o_ : z_Rs} {M' : Mem} {kk : Nat} (k : Nat) (V : Int32) (h : Int64) (T LD SH : Nat → Int32) (n t : Nat → Int32) (v : Nat → Nat → Int32) (ld sh o cd pl ka kb kc : Nat → Int32) (D : Nat → Nat → Int32) (E : Nat → Int64) (hC : z_Mt xs L m_X4_ifLost [aR 0 16, aI (nI k)] (cm n t v ld sh o cd pl ka kb kc, D, E) (.inl (some (aI V))) (cm n T v LD SH o cd pl ka kb kc, D, E) 0) (K : z_Ev xs L m_X4_digest (59, [some (aR 0 16), some (aL (dgI h V)), none, some (aI (nI (k + 1))), none], [], (cm n T v LD SH o cd pl ka kb kc, D, E)) o_ M' kk) : z_Ev xs L m_X4_digest (67, [some (aR 0 16), some (aL h), none, some (aI (nI k)), some (aI (nI 9))], [], (cm n t v ld sh o cd pl ka kb kc, D, E)) o_ M' kk := by
  refine z_Ev_blk 3 (c' := ((if (8 : Int32) < (nI 9) then 95 else 74), [some (aR 0 16), some (aL h), none, some (aI (nI k)), some (aI (nI 9))], [], (cm n t v ld sh o cd pl ka kb kc, D, E))) rfl trivial ?_
  refine z_Ev_if (by decide) ?_
  refine z_Ev_blk 5 (c' := (102, [some (aR 0 16), some (aL h), none, some (aI (nI k)), some (aI (nI 9))], [aI (nI k), aR 0 16, aL ((31 : Int64) * h)], (cm n t v ld sh o cd pl ka kb kc, D, E))) rfl trivial ?_
  refine z_Ev_call0 (m' := m_X4_ifLost) (as := [aR 0 16, aI (nI k)]) (r := [aL ((31 : Int64) * h)]) (hC) rfl rfl ?_
  refine z_Ev_blk 5 (c' := (59, [some (aR 0 16), some (aL (((31 : Int64) * h) + (V.toInt64))), none, some (aI ((nI k) + (1 : Int32))), some (aI (nI 9))], [], (cm n T v LD SH o cd pl ka kb kc, D, E))) rfl trivial ?_
  refine z_Ev_fgt [true, true, false, true, false] ?_
  exact z_Ev_eq (c := (59, [some (aR 0 16), some (aL (((31 : Int64) * h) + (V.toInt64))), none, some (aI ((nI k) + (1 : Int32))), none], [], (cm n T v LD SH o cd pl ka kb kc, D, E))) (c' := (59, [some (aR 0 16), some (aL (dgI h V)), none, some (aI (nI (k + 1))), none], [], (cm n T v LD SH o cd pl ka kb kc, D, E))) (by first | rfl | (rw [nI_1]; done) | (rw [nI_1]; rfl)) K
theorem dg_e {xs : Nat → Int32} {L : Nat} {o_ : z_Rs} {M' : Mem} {kk : Nat} (h : Int64)  (n t : Nat → Int32) (v : Nat → Nat → Int32) (ld sh o cd pl ka kb kc : Nat → Int32) (D : Nat → Nat → Int32) (E : Nat → Int64)  (K : z_Ev xs L m_X4_digest (116, [some (aR 0 16), some (aL h), none, some (aI (nI 0)), none], [], (cm n t v ld sh o cd pl ka kb kc, D, E)) o_ M' kk) : z_Ev xs L m_X4_digest (59, [some (aR 0 16), some (aL h), none, some (aI (nI 4)), none], [], (cm n t v ld sh o cd pl ka kb kc, D, E)) o_ M' kk := by
  refine z_Ev_blk 3 (c' := ((if (4 : Int32) ≤ (nI 4) then 114 else 64), [some (aR 0 16), some (aL h), none, some (aI (nI 4)), none], [], (cm n t v ld sh o cd pl ka kb kc, D, E))) rfl trivial ?_
  refine z_Ev_if (by decide) ?_
  refine z_Ev_blk 2 (c' := (116, [some (aR 0 16), some (aL h), none, some (aI (0 : Int32)), none], [], (cm n t v ld sh o cd pl ka kb kc, D, E))) rfl trivial ?_
  refine z_Ev_fgt [true, true, false, true, false] ?_
  exact z_Ev_eq (c := (116, [some (aR 0 16), some (aL h), none, some (aI (0 : Int32)), none], [], (cm n t v ld sh o cd pl ka kb kc, D, E))) (c' := (116, [some (aR 0 16), some (aL h), none, some (aI (nI 0)), none], [], (cm n t v ld sh o cd pl ka kb kc, D, E))) (by first | rfl | (rw [nI_1]; done) | (rw [nI_1]; rfl)) K
theorem dg_f0 {xs : Nat → Int32} {L : Nat} {o_ : z_Rs} {M' : Mem} {kk : Nat} (k : Nat) (h : Int64)  (n t : Nat → Int32) (v : Nat → Nat → Int32) (ld sh o cd pl ka kb kc : Nat → Int32) (D : Nat → Nat → Int32) (E : Nat → Int64) (hk : k < 48) (K : z_Ev xs L m_X4_digest (125, [some (aR 0 16), some (aL h), none, some (aI (nI k)), some (aI (nI 0))], [], (cm n t v ld sh o cd pl ka kb kc, D, E)) o_ M' kk) : z_Ev xs L m_X4_digest (116, [some (aR 0 16), some (aL h), none, some (aI (nI k)), none], [], (cm n t v ld sh o cd pl ka kb kc, D, E)) o_ M' kk := by
  refine z_Ev_blk 3 (c' := ((if (48 : Int32) ≤ (nI k) then 159 else 122), [some (aR 0 16), some (aL h), none, some (aI (nI k)), none], [], (cm n t v ld sh o cd pl ka kb kc, D, E))) rfl trivial ?_
  refine z_Ev_else (nI_ge (b := 48) hk (by decide)) ?_
  refine z_Ev_blk 2 (c' := (125, [some (aR 0 16), some (aL h), none, some (aI (nI k)), some (aI (0 : Int32))], [], (cm n t v ld sh o cd pl ka kb kc, D, E))) rfl trivial ?_
  refine z_Ev_fgt [true, true, false, true, true] ?_
  exact z_Ev_eq (c := (125, [some (aR 0 16), some (aL h), none, some (aI (nI k)), some (aI (0 : Int32))], [], (cm n t v ld sh o cd pl ka kb kc, D, E))) (c' := (125, [some (aR 0 16), some (aL h), none, some (aI (nI k)), some (aI (nI 0))], [], (cm n t v ld sh o cd pl ka kb kc, D, E))) (by first | rfl | (rw [nI_1]; done) | (rw [nI_1]; rfl)) K
theorem dg_f {xs : Nat → Int32} {L : Nat} {o_ : z_Rs} {M' : Mem} {kk : Nat} (k w : Nat) (V : Int32) (h : Int64) (T LD SH : Nat → Int32) (n t : Nat → Int32) (v : Nat → Nat → Int32) (ld sh o cd pl ka kb kc : Nat → Int32) (D : Nat → Nat → Int32) (E : Nat → Int64) (hw : w < 7) (hC : z_Mt xs L m_X4_hour [aR 0 16, aI (nI k), aI (nI w)] (cm n t v ld sh o cd pl ka kb kc, D, E) (.inl (some (aI V))) (cm n T v LD SH o cd pl ka kb kc, D, E) 0) (K : z_Ev xs L m_X4_digest (125, [some (aR 0 16), some (aL (dgI h V)), none, some (aI (nI k)), some (aI (nI (w + 1)))], [], (cm n T v LD SH o cd pl ka kb kc, D, E)) o_ M' kk) : z_Ev xs L m_X4_digest (125, [some (aR 0 16), some (aL h), none, some (aI (nI k)), some (aI (nI w))], [], (cm n t v ld sh o cd pl ka kb kc, D, E)) o_ M' kk := by
  refine z_Ev_blk 3 (c' := ((if (7 : Int32) ≤ (nI w) then 153 else 132), [some (aR 0 16), some (aL h), none, some (aI (nI k)), some (aI (nI w))], [], (cm n t v ld sh o cd pl ka kb kc, D, E))) rfl trivial ?_
  refine z_Ev_else (nI_ge (b := 7) hw (by decide)) ?_
  refine z_Ev_blk 6 (c' := (141, [some (aR 0 16), some (aL h), none, some (aI (nI k)), some (aI (nI w))], [aI (nI w), aI (nI k), aR 0 16, aL ((31 : Int64) * h)], (cm n t v ld sh o cd pl ka kb kc, D, E))) rfl trivial ?_
  refine z_Ev_call0 (m' := m_X4_hour) (as := [aR 0 16, aI (nI k), aI (nI w)]) (r := [aL ((31 : Int64) * h)]) (hC) rfl rfl ?_
  refine z_Ev_blk 5 (c' := (125, [some (aR 0 16), some (aL (((31 : Int64) * h) + (V.toInt64))), none, some (aI (nI k)), some (aI ((nI w) + (1 : Int32)))], [], (cm n T v LD SH o cd pl ka kb kc, D, E))) rfl trivial ?_
  refine z_Ev_fgt [true, true, false, true, true] ?_
  exact z_Ev_eq (c := (125, [some (aR 0 16), some (aL (((31 : Int64) * h) + (V.toInt64))), none, some (aI (nI k)), some (aI ((nI w) + (1 : Int32)))], [], (cm n T v LD SH o cd pl ka kb kc, D, E))) (c' := (125, [some (aR 0 16), some (aL (dgI h V)), none, some (aI (nI k)), some (aI (nI (w + 1)))], [], (cm n T v LD SH o cd pl ka kb kc, D, E))) (by first | rfl | (rw [nI_1]; done) | (rw [nI_1]; rfl)) K
theorem dg_g {xs : Nat → Int32} {L : Nat} {o_ : z_Rs} {M' : Mem} {kk : Nat} (k : Nat) (h : Int64)  (n t : Nat → Int32) (v : Nat → Nat → Int32) (ld sh o cd pl ka kb kc : Nat → Int32) (D : Nat → Nat → Int32) (E : Nat → Int64)  (K : z_Ev xs L m_X4_digest (116, [some (aR 0 16), some (aL h), none, some (aI (nI (k + 1))), none], [], (cm n t v ld sh o cd pl ka kb kc, D, E)) o_ M' kk) : z_Ev xs L m_X4_digest (125, [some (aR 0 16), some (aL h), none, some (aI (nI k)), some (aI (nI 7))], [], (cm n t v ld sh o cd pl ka kb kc, D, E)) o_ M' kk := by
  refine z_Ev_blk 3 (c' := ((if (7 : Int32) ≤ (nI 7) then 153 else 132), [some (aR 0 16), some (aL h), none, some (aI (nI k)), some (aI (nI 7))], [], (cm n t v ld sh o cd pl ka kb kc, D, E))) rfl trivial ?_
  refine z_Ev_if (by decide) ?_
  refine z_Ev_blk 2 (c' := (116, [some (aR 0 16), some (aL h), none, some (aI ((nI k) + (1 : Int32))), some (aI (nI 7))], [], (cm n t v ld sh o cd pl ka kb kc, D, E))) rfl trivial ?_
  refine z_Ev_fgt [true, true, false, true, false] ?_
  exact z_Ev_eq (c := (116, [some (aR 0 16), some (aL h), none, some (aI ((nI k) + (1 : Int32))), none], [], (cm n t v ld sh o cd pl ka kb kc, D, E))) (c' := (116, [some (aR 0 16), some (aL h), none, some (aI (nI (k + 1))), none], [], (cm n t v ld sh o cd pl ka kb kc, D, E))) (by first | rfl | (rw [nI_1]; done) | (rw [nI_1]; rfl)) K
theorem dg_h {xs : Nat → Int32} {L : Nat} {o_ : z_Rs} {M' : Mem} {kk : Nat} (h : Int64)  (n t : Nat → Int32) (v : Nat → Nat → Int32) (ld sh o cd pl ka kb kc : Nat → Int32) (D : Nat → Nat → Int32) (E : Nat → Int64)  (K : z_Ev xs L m_X4_digest (159, [some (aR 0 16), some (aL h), none, none, none], [], (cm n t v ld sh o cd pl ka kb kc, D, E)) o_ M' kk) : z_Ev xs L m_X4_digest (116, [some (aR 0 16), some (aL h), none, some (aI (nI 48)), none], [], (cm n t v ld sh o cd pl ka kb kc, D, E)) o_ M' kk := by
  refine z_Ev_blk 3 (c' := ((if (48 : Int32) ≤ (nI 48) then 159 else 122), [some (aR 0 16), some (aL h), none, some (aI (nI 48)), none], [], (cm n t v ld sh o cd pl ka kb kc, D, E))) rfl trivial ?_
  refine z_Ev_if (by decide) ?_
  refine z_Ev_fgt [true, true, false, false, false] ?_
  exact z_Ev_eq (c := (159, [some (aR 0 16), some (aL h), none, none, none], [], (cm n t v ld sh o cd pl ka kb kc, D, E))) (c' := (159, [some (aR 0 16), some (aL h), none, none, none], [], (cm n t v ld sh o cd pl ka kb kc, D, E))) (by first | rfl | (rw [nI_1]; done) | (rw [nI_1]; rfl)) K
def KSL (xs : Nat → Int32) (L : Nat) (n : Nat → Int32) (v : Nat → Nat → Int32) (o cd pl ka kb kc : Nat → Int32) (D : Nat → Nat → Int32) (E : Nat → Int64) (m : Nat) (as : List AV) (r : AV) : Prop := KS xs L n v o cd pl ka kb kc D E m as r
theorem wch {xs : Nat → Int32} {L : Nat} (x V V2 : Int32) (h : Int64) (T LD SH T2 LD2 SH2 : Nat → Int32) (n t : Nat → Int32) (v : Nat → Nat → Int32) (ld sh o cd pl ka kb kc : Nat → Int32) (D : Nat → Nat → Int32) (E : Nat → Int64) (hC : z_Mt xs L m_X4_cheapest [aR 0 16, aI x, aI 0] (cm n t v ld sh o cd pl ka kb kc, D, E) (.inl (some (aI V))) (cm n T v LD SH o cd pl ka kb kc, D, E) 0) (hC2 : z_Mt xs L m_X4_cheapest [aR 0 16, aI x, aI 1] (cm n T v LD SH o cd pl ka kb kc, D, E) (.inl (some (aI V2))) (cm n T2 v LD2 SH2 o cd pl ka kb kc, D, E) 0) : z_Mt xs L m_X4_withCheapest [aR 0 16, aL h, aI x] (cm n t v ld sh o cd pl ka kb kc, D, E) (.inl (some (aL (dgI (dgI h V) V2)))) (cm n T2 v LD2 SH2 o cd pl ka kb kc, D, E) 0 := by
  refine z_Ev_blk 7 (c' := (11, [some (aR 0 16), some (aL h), none, some (aI x)], [aI (0 : Int32), aI x, aR 0 16, aL ((31 : Int64) * h), aL (31 : Int64)], (cm n t v ld sh o cd pl ka kb kc, D, E))) rfl trivial ?_
  refine z_Ev_call0 (m' := m_X4_cheapest) (as := [aR 0 16, aI x, aI (0 : Int32)]) (r := [aL ((31 : Int64) * h), aL (31 : Int64)]) (hC) rfl rfl ?_
  refine z_Ev_blk 6 (c' := (20, [some (aR 0 16), some (aL h), none, some (aI x)], [aI (1 : Int32), aI x, aR 0 16, aL ((31 : Int64) * (((31 : Int64) * h) + (V.toInt64)))], (cm n T v LD SH o cd pl ka kb kc, D, E))) rfl trivial ?_
  refine z_Ev_call0 (m' := m_X4_cheapest) (as := [aR 0 16, aI x, aI (1 : Int32)]) (r := [aL ((31 : Int64) * (((31 : Int64) * h) + (V.toInt64)))]) (hC2) rfl rfl ?_
  refine z_Ev_blk 2 (c' := (25, [some (aR 0 16), some (aL h), none, some (aI x)], [aL (((31 : Int64) * (((31 : Int64) * h) + (V.toInt64))) + (V2.toInt64))], (cm n T2 v LD2 SH2 o cd pl ka kb kc, D, E))) rfl trivial ?_
  exact z_Ev_lretE rfl rfl (by rfl) (by rfl)
theorem k_wch {xs : Nat → Int32} {L : Nat} (H k : Nat) (h : Int64) (n : Nat → Int32) (v : Nat → Nat → Int32) (o cd pl ka kb kc : Nat → Int32) (D : Nat → Nat → Int32) (E : Nat → Int64) (hV : Vs n H) (hk : k < 48) : KS xs L n v o cd pl ka kb kc D E m_X4_withCheapest [aR 0 16, aL h, aI (nI k)] (aL (chD n k h)) := by
  intro t ld sh
  obtain ⟨T, LD, SH, hC⟩ := k_cheapest (xs := xs) (L := L) H k 0 n v o cd pl ka kb kc D E hV hk (by decide) t ld sh
  obtain ⟨T2, LD2, SH2, hC2⟩ := k_cheapest (xs := xs) (L := L) H k 1 n v o cd pl ka kb kc D E hV hk (by decide) T LD SH
  exact ⟨T2, LD2, SH2, wch (nI k) _ _ h T LD SH T2 LD2 SH2 n t v ld sh o cd pl ka kb kc D E hC hC2⟩
theorem dg_t {xs : Nat → Int32} {L : Nat} {o_ : z_Rs} {M' : Mem} {kk : Nat} (c : Nat) (h h1 h2 h3 y : Int64) (u : UInt64) (V4 V5 V6 : Int32) (T1 LD1 SH1 T2 LD2 SH2 T3 LD3 SH3 T4 LD4 SH4 T5 LD5 SH5 T6 LD6 SH6 : Nat → Int32) (n t : Nat → Int32) (v : Nat → Nat → Int32) (ld sh o cd pl ka kb kc : Nat → Int32) (D : Nat → Nat → Int32) (E : Nat → Int64) (hC1 : z_Mt xs L m_X4_withCheapest [aR 0 16, aL h, aI 0] (cm n t v ld sh o cd pl ka kb kc, D, E) (.inl (some (aL h1))) (cm n T1 v LD1 SH1 o cd pl ka kb kc, D, E) 0) (hC2 : z_Mt xs L m_X4_withCheapest [aR 0 16, aL h1, aI 20] (cm n T1 v LD1 SH1 o cd pl ka kb kc, D, E) (.inl (some (aL h2))) (cm n T2 v LD2 SH2 o cd pl ka kb kc, D, E) 0) (hC3 : z_Mt xs L m_X4_withCheapest [aR 0 16, aL h2, aI 47] (cm n T2 v LD2 SH2 o cd pl ka kb kc, D, E) (.inl (some (aL h3))) (cm n T3 v LD3 SH3 o cd pl ka kb kc, D, E) 0) (hC4 : z_Mt xs L m_X4_firstDark [aR 0 16] (cm n T3 v LD3 SH3 o cd pl ka kb kc, D, E) (.inl (some (aI V4))) (cm n T4 v LD4 SH4 o cd pl ka kb kc, D, E) 0) (hC5 : z_Mt xs L m_X4_ifShed [aR 0 16] (cm n T4 v LD4 SH4 o cd pl ka kb kc, D, E) (.inl (some (aI V5))) (cm n T5 v LD5 SH5 o cd pl ka kb kc, D, E) 0) (hC6 : z_Mt xs L m_X4_bestStart [aR 0 16] (cm n T5 v LD5 SH5 o cd pl ka kb kc, D, E) (.inl (some (aI V6))) (cm n T6 v LD6 SH6 o cd pl ka kb kc, D, E) 0) (hS : z_Mt xs L m_X4_safeShare [aR 0 16] (cm n T6 v LD6 SH6 o cd pl ka kb kc, D, E) (.inl (some (aD u))) (cm n T6 v LD6 SH6 o cd pl ka kb kc, D, E) 0) (hB : z_Mt xs L m_X4_bitsOfShare [aD u] (cm n T6 v LD6 SH6 o cd pl ka kb kc, D, E) (.inl (some (aL y))) (cm n T6 v LD6 SH6 o cd pl ka kb kc, D, E) 0) (h6 : o 6 = nI c) (K : z_Ev xs L m_X4_digest (242, [some (aR 0 16), some (aL (dgI (dgL (dgI (dgI (dgI h3 V4) V5) V6) y) (nI c))), none, some (aI (nI 0)), none], [], (cm n T6 v LD6 SH6 o cd pl ka kb kc, D, E)) o_ M' kk) : z_Ev xs L m_X4_digest (159, [some (aR 0 16), some (aL h), none, none, none], [], (cm n t v ld sh o cd pl ka kb kc, D, E)) o_ M' kk := by
  refine z_Ev_blk 5 (c' := (164, [some (aR 0 16), some (aL h), none, none, none], [aI (0 : Int32), aL h, aR 0 16, aR 0 16, aR 0 16], (cm n t v ld sh o cd pl ka kb kc, D, E))) rfl trivial ?_
  refine z_Ev_call0 (m' := m_X4_withCheapest) (as := [aR 0 16, aL h, aI (0 : Int32)]) (r := [aR 0 16, aR 0 16]) (hC1) rfl rfl ?_
  refine z_Ev_blk 1 (c' := (169, [some (aR 0 16), some (aL h), none, none, none], [aI (20 : Int32), aL h1, aR 0 16, aR 0 16], (cm n T1 v LD1 SH1 o cd pl ka kb kc, D, E))) rfl trivial ?_
  refine z_Ev_call0 (m' := m_X4_withCheapest) (as := [aR 0 16, aL h1, aI (20 : Int32)]) (r := [aR 0 16]) (hC2) rfl rfl ?_
  refine z_Ev_blk 1 (c' := (174, [some (aR 0 16), some (aL h), none, none, none], [aI (47 : Int32), aL h2, aR 0 16], (cm n T2 v LD2 SH2 o cd pl ka kb kc, D, E))) rfl trivial ?_
  refine z_Ev_call0 (m' := m_X4_withCheapest) (as := [aR 0 16, aL h2, aI (47 : Int32)]) (r := []) (hC3) rfl rfl ?_
  refine z_Ev_blk 5 (c' := (184, [some (aR 0 16), some (aL h3), none, none, none], [aR 0 16, aL ((31 : Int64) * h3)], (cm n T3 v LD3 SH3 o cd pl ka kb kc, D, E))) rfl trivial ?_
  refine z_Ev_call0 (m' := m_X4_firstDark) (as := [aR 0 16]) (r := [aL ((31 : Int64) * h3)]) (hC4) rfl rfl ?_
  refine z_Ev_blk 7 (c' := (196, [some (aR 0 16), some (aL (((31 : Int64) * h3) + (V4.toInt64))), none, none, none], [aR 0 16, aL ((31 : Int64) * (((31 : Int64) * h3) + (V4.toInt64)))], (cm n T4 v LD4 SH4 o cd pl ka kb kc, D, E))) rfl trivial ?_
  refine z_Ev_call0 (m' := m_X4_ifShed) (as := [aR 0 16]) (r := [aL ((31 : Int64) * (((31 : Int64) * h3) + (V4.toInt64)))]) (hC5) rfl rfl ?_
  refine z_Ev_blk 7 (c' := (208, [some (aR 0 16), some (aL (((31 : Int64) * (((31 : Int64) * h3) + (V4.toInt64))) + (V5.toInt64))), none, none, none], [aR 0 16, aL ((31 : Int64) * (((31 : Int64) * (((31 : Int64) * h3) + (V4.toInt64))) + (V5.toInt64)))], (cm n T5 v LD5 SH5 o cd pl ka kb kc, D, E))) rfl trivial ?_
  refine z_Ev_call0 (m' := m_X4_bestStart) (as := [aR 0 16]) (r := [aL ((31 : Int64) * (((31 : Int64) * (((31 : Int64) * h3) + (V4.toInt64))) + (V5.toInt64)))]) (hC6) rfl rfl ?_
  refine z_Ev_blk 7 (c' := (220, [some (aR 0 16), some (aL (((31 : Int64) * (((31 : Int64) * (((31 : Int64) * h3) + (V4.toInt64))) + (V5.toInt64))) + (V6.toInt64))), none, none, none], [aR 0 16, aL ((31 : Int64) * (((31 : Int64) * (((31 : Int64) * (((31 : Int64) * h3) + (V4.toInt64))) + (V5.toInt64))) + (V6.toInt64)))], (cm n T6 v LD6 SH6 o cd pl ka kb kc, D, E))) rfl trivial ?_
  refine z_Ev_call0 (m' := m_X4_safeShare) (as := [aR 0 16]) (r := [aL ((31 : Int64) * (((31 : Int64) * (((31 : Int64) * (((31 : Int64) * h3) + (V4.toInt64))) + (V5.toInt64))) + (V6.toInt64)))]) (hS) rfl rfl ?_
  refine z_Ev_call0 (m' := m_X4_bitsOfShare) (as := [aD u]) (r := [aL ((31 : Int64) * (((31 : Int64) * (((31 : Int64) * (((31 : Int64) * h3) + (V4.toInt64))) + (V5.toInt64))) + (V6.toInt64)))]) (hB) rfl rfl ?_
  refine z_Ev_blk 7 (c' := (237, [some (aR 0 16), some (aL (((31 : Int64) * (((31 : Int64) * (((31 : Int64) * (((31 : Int64) * h3) + (V4.toInt64))) + (V5.toInt64))) + (V6.toInt64))) + y)), none, none, none], [aI (o 6), aL ((31 : Int64) * (((31 : Int64) * (((31 : Int64) * (((31 : Int64) * (((31 : Int64) * h3) + (V4.toInt64))) + (V5.toInt64))) + (V6.toInt64))) + y))], (cm n T6 v LD6 SH6 o cd pl ka kb kc, D, E))) rfl trivial ?_
  rw [h6]
  refine z_Ev_blk 5 (c' := (242, [some (aR 0 16), some (aL (((31 : Int64) * (((31 : Int64) * (((31 : Int64) * (((31 : Int64) * (((31 : Int64) * h3) + (V4.toInt64))) + (V5.toInt64))) + (V6.toInt64))) + y)) + ((nI c).toInt64))), none, some (aI (0 : Int32)), none], [], (cm n T6 v LD6 SH6 o cd pl ka kb kc, D, E))) rfl trivial ?_
  exact K
theorem dg_x {xs : Nat → Int32} {L : Nat} {o_ : z_Rs} {M' : Mem} {kk : Nat} (i c : Nat) (h : Int64) (n t : Nat → Int32) (v : Nat → Nat → Int32) (ld sh o cd pl ka kb kc : Nat → Int32) (D : Nat → Nat → Int32) (E : Nat → Int64) (h6 : o 6 = nI c) (hi : i < c) (hc : c ≤ 60) (K : z_Ev xs L m_X4_digest (242, [some (aR 0 16), some (aL (dgI h (cd i))), none, some (aI (nI (i + 1))), none], [], (cm n t v ld sh o cd pl ka kb kc, D, E)) o_ M' kk) : z_Ev xs L m_X4_digest (242, [some (aR 0 16), some (aL h), none, some (aI (nI i)), none], [], (cm n t v ld sh o cd pl ka kb kc, D, E)) o_ M' kk := by
  refine z_Ev_blk 3 (c' := (247, [some (aR 0 16), some (aL h), none, some (aI (nI i)), none], [aI (o 6), aI (nI i)], (cm n t v ld sh o cd pl ka kb kc, D, E))) rfl trivial ?_
  rw [h6]
  refine z_Ev_blk 1 (c' := ((if (nI c) ≤ (nI i) then 276 else 250), [some (aR 0 16), some (aL h), none, some (aI (nI i)), none], [], (cm n t v ld sh o cd pl ka kb kc, D, E))) rfl trivial ?_
  refine z_Ev_else (nI_ge hi (by omega)) ?_
  refine z_Ev_blk 3 (c' := ((if (60 : Int32) ≤ (nI i) then 276 else 256), [some (aR 0 16), some (aL h), none, some (aI (nI i)), none], [], (cm n t v ld sh o cd pl ka kb kc, D, E))) rfl trivial ?_
  refine z_Ev_else (nI_ge (b := 60) (by omega) (by decide)) ?_
  refine z_Ev_blk 7 (c' := (267, [some (aR 0 16), some (aL h), none, some (aI (nI i)), none], [aI (cd ((nI i).toNatClampNeg)), aL ((31 : Int64) * h)], (cm n t v ld sh o cd pl ka kb kc, D, E))) rfl ⟨(inb_nI (show i < 60 by omega) (by decide)), trivial⟩ ?_
  rw [nI_clamp (show i < 2 ^ 31 by omega)]
  refine z_Ev_blk 5 (c' := (242, [some (aR 0 16), some (aL (((31 : Int64) * h) + ((cd i).toInt64))), none, some (aI ((nI i) + (1 : Int32))), none], [], (cm n t v ld sh o cd pl ka kb kc, D, E))) rfl trivial ?_
  rw [nI_1]
  exact K
theorem dg_z {xs : Nat → Int32} {L : Nat} (c : Nat) (h : Int64) (n t : Nat → Int32) (v : Nat → Nat → Int32) (ld sh o cd pl ka kb kc : Nat → Int32) (D : Nat → Nat → Int32) (E : Nat → Int64) (h6 : o 6 = nI c) : z_Ev xs L m_X4_digest (242, [some (aR 0 16), some (aL h), none, some (aI (nI c)), none], [], (cm n t v ld sh o cd pl ka kb kc, D, E)) (.inl (some (aL h))) (cm n t v ld sh o cd pl ka kb kc, D, E) 0 := by
  refine z_Ev_blk 3 (c' := (247, [some (aR 0 16), some (aL h), none, some (aI (nI c)), none], [aI (o 6), aI (nI c)], (cm n t v ld sh o cd pl ka kb kc, D, E))) rfl trivial ?_
  rw [h6]
  refine z_Ev_blk 1 (c' := ((if (nI c) ≤ (nI c) then 276 else 250), [some (aR 0 16), some (aL h), none, some (aI (nI c)), none], [], (cm n t v ld sh o cd pl ka kb kc, D, E))) rfl trivial ?_
  refine z_Ev_if (Int32.le_refl _) ?_
  refine z_Ev_blk 1 (c' := (277, [some (aR 0 16), some (aL h), none, some (aI (nI c)), none], [aL h], (cm n t v ld sh o cd pl ka kb kc, D, E))) rfl trivial ?_
  exact z_Ev_lretE rfl rfl (by rfl) (by rfl)
/-- the digest, from a point of its own on -/
def DA (xs : Nat → Int32) (L : Nat) (n : Nat → Int32) (v : Nat → Nat → Int32) (o cd pl ka kb kc : Nat → Int32) (D : Nat → Nat → Int32) (E : Nat → Int64) (pc : Nat) (ls : Lc) (r : Int64) : Prop := ∀ t ld sh : Nat → Int32, ∃ t' ld' sh' : Nat → Int32, z_Ev xs L m_X4_digest (pc, ls, [], (cm n t v ld sh o cd pl ka kb kc, D, E)) (.inl (some (aL r))) (cm n t' v ld' sh' o cd pl ka kb kc, D, E) 0
theorem da_x {xs : Nat → Int32} {L : Nat} (c : Nat) (n : Nat → Int32) (v : Nat → Nat → Int32) (o cd pl ka kb kc : Nat → Int32) (D : Nat → Nat → Int32) (E : Nat → Int64) (h6 : o 6 = nI c) (hc : c ≤ 60) : ∀ (d i : Nat) (h : Int64), i + d = c → DA xs L n v o cd pl ka kb kc D E 242 [some (aR 0 16), some (aL h), none, some (aI (nI i)), none] (itN cd d i h) := by
  intro d
  induction d with
  | zero =>
    intro i h hd t ld sh
    have e : i = c := by omega
    subst e
    exact ⟨t, ld, sh, dg_z i h n t v ld sh o cd pl ka kb kc D E h6⟩
  | succ d ih =>
    intro i h hd t ld sh
    obtain ⟨t', ld', sh', K⟩ := ih (i + 1) (dgI h (cd i)) (by omega) t ld sh
    exact ⟨t', ld', sh', dg_x i c h n t v ld sh o cd pl ka kb kc D E h6 (by omega) hc K⟩
theorem da_f {xs : Nat → Int32} {L : Nat} (k : Nat) (n : Nat → Int32) (v : Nat → Nat → Int32) (o cd pl ka kb kc : Nat → Int32) (D : Nat → Nat → Int32) (E : Nat → Int64) (hk : k < 48) (r : Int64) : ∀ (d w : Nat) (h : Int64), w + d = 7 → DA xs L n v o cd pl ka kb kc D E 125 [some (aR 0 16), some (aL ((itN (houV n k) d w h))), none, some (aI (nI k)), some (aI (nI 7))] r → DA xs L n v o cd pl ka kb kc D E 125 [some (aR 0 16), some (aL h), none, some (aI (nI k)), some (aI (nI w))] r := by
  intro d
  induction d with
  | zero =>
    intro w h hd K
    have e : w = 7 := by omega
    subst e
    exact K
  | succ d ih =>
    intro w h hd K t ld sh
    obtain ⟨T, LD, SH, hC⟩ := k_hour (xs := xs) (L := L) k w n v o cd pl ka kb kc D E hk (by omega) t ld sh
    obtain ⟨t', ld', sh', Q⟩ := ih (w + 1) (dgI h (houV n k w)) (by omega) K T LD SH
    exact ⟨t', ld', sh', dg_f k w _ h T LD SH n t v ld sh o cd pl ka kb kc D E (by omega) hC Q⟩
theorem da_h {xs : Nat → Int32} {L : Nat} (n : Nat → Int32) (v : Nat → Nat → Int32) (o cd pl ka kb kc : Nat → Int32) (D : Nat → Nat → Int32) (E : Nat → Int64) (r : Int64) : ∀ (d k : Nat) (h : Int64), k + d = 48 → DA xs L n v o cd pl ka kb kc D E 159 [some (aR 0 16), some (aL ((itH n d k h))), none, none, none] r → DA xs L n v o cd pl ka kb kc D E 116 [some (aR 0 16), some (aL h), none, some (aI (nI k)), none] r := by
  intro d
  induction d with
  | zero =>
    intro k h hd K t ld sh
    have e : k = 48 := by omega
    subst e
    obtain ⟨t', ld', sh', Q⟩ := K t ld sh
    exact ⟨t', ld', sh', dg_h h n t v ld sh o cd pl ka kb kc D E Q⟩
  | succ d ih =>
    intro k h hd K t ld sh
    have K2 : DA xs L n v o cd pl ka kb kc D E 125 [some (aR 0 16), some (aL h), none, some (aI (nI k)), some (aI (nI 0))] r := by
      refine da_f k n v o cd pl ka kb kc D E (by omega) r 7 0 h rfl ?_
      intro t ld sh
      obtain ⟨t', ld', sh', Q⟩ := ih (k + 1) (itN (houV n k) 7 0 h) (by omega) K t ld sh
      exact ⟨t', ld', sh', dg_g k _ n t v ld sh o cd pl ka kb kc D E Q⟩
    obtain ⟨t', ld', sh', Q⟩ := K2 t ld sh
    exact ⟨t', ld', sh', dg_f0 k h n t v ld sh o cd pl ka kb kc D E (by omega) Q⟩
theorem da_c {xs : Nat → Int32} {L : Nat} (H k : Nat) (n : Nat → Int32) (v : Nat → Nat → Int32) (o cd pl ka kb kc : Nat → Int32) (D : Nat → Nat → Int32) (E : Nat → Int64) (hV : Vs n H) (hk : k < 4) (r : Int64) : ∀ (d w : Nat) (h : Int64), w + d = 9 → DA xs L n v o cd pl ka kb kc D E 67 [some (aR 0 16), some (aL ((itN (tolV n k) d w h))), none, some (aI (nI k)), some (aI (nI 9))] r → DA xs L n v o cd pl ka kb kc D E 67 [some (aR 0 16), some (aL h), none, some (aI (nI k)), some (aI (nI w))] r := by
  intro d
  induction d with
  | zero =>
    intro w h hd K
    have e : w = 9 := by omega
    subst e
    exact K
  | succ d ih =>
    intro w h hd K t ld sh
    obtain ⟨T, LD, SH, hC⟩ := k_setOf (xs := xs) (L := L) H k w n v o cd pl ka kb kc D E hV hk (by omega) t ld sh
    obtain ⟨t', ld', sh', Q⟩ := ih (w + 1) (dgI h (tolV n k w)) (by omega) K T LD SH
    exact ⟨t', ld', sh', dg_c k w _ h T LD SH n t v ld sh o cd pl ka kb kc D E (by omega) hC Q⟩
theorem da_s {xs : Nat → Int32} {L : Nat} (H : Nat) (n : Nat → Int32) (v : Nat → Nat → Int32) (o cd pl ka kb kc : Nat → Int32) (D : Nat → Nat → Int32) (E : Nat → Int64) (hV : Vs n H) (r : Int64) : ∀ (d k : Nat) (h : Int64), k + d = 4 → DA xs L n v o cd pl ka kb kc D E 116 [some (aR 0 16), some (aL ((itS n d k h))), none, some (aI (nI 0)), none] r → DA xs L n v o cd pl ka kb kc D E 59 [some (aR 0 16), some (aL h), none, some (aI (nI k)), none] r := by
  intro d
  induction d with
  | zero =>
    intro k h hd K t ld sh
    have e : k = 4 := by omega
    subst e
    obtain ⟨t', ld', sh', Q⟩ := K t ld sh
    exact ⟨t', ld', sh', dg_e h n t v ld sh o cd pl ka kb kc D E Q⟩
  | succ d ih =>
    intro k h hd K t ld sh
    have K2 : DA xs L n v o cd pl ka kb kc D E 67 [some (aR 0 16), some (aL h), none, some (aI (nI k)), some (aI (nI 0))] r := by
      refine da_c H k n v o cd pl ka kb kc D E hV (by omega) r 9 0 h rfl ?_
      intro t ld sh
      obtain ⟨T, LD, SH, hC⟩ := k_ifLost (xs := xs) (L := L) H k n v o cd pl ka kb kc D E hV (by omega) t ld sh
      obtain ⟨t', ld', sh', Q⟩ := ih (k + 1) (dgI (itN (tolV n k) 9 0 h) (dwV n k)) (by omega) K T LD SH
      exact ⟨t', ld', sh', dg_d k _ _ T LD SH n t v ld sh o cd pl ka kb kc D E hC Q⟩
    obtain ⟨t', ld', sh', Q⟩ := K2 t ld sh
    exact ⟨t', ld', sh', dg_c0 k h n t v ld sh o cd pl ka kb kc D E (by omega) Q⟩
theorem da_a {xs : Nat → Int32} {L : Nat} (H : Nat) (n : Nat → Int32) (v : Nat → Nat → Int32) (o cd pl ka kb kc : Nat → Int32) (D : Nat → Nat → Int32) (E : Nat → Int64) (hV : Vs n H) (r : Int64) : ∀ (d w : Nat) (h : Int64), w + d = 15 → DA xs L n v o cd pl ka kb kc D E 6 [some (aR 0 16), some (aL ((itN (cntV n (o 4)) d w h))), none, some (aI (nI 15)), none] r → DA xs L n v o cd pl ka kb kc D E 6 [some (aR 0 16), some (aL h), none, some (aI (nI w)), none] r := by
  intro d
  induction d with
  | zero =>
    intro w h hd K
    have e : w = 15 := by omega
    subst e
    exact K
  | succ d ih =>
    intro w h hd K t ld sh
    obtain ⟨T, LD, SH, hC⟩ := k_count (xs := xs) (L := L) H w n v o cd pl ka kb kc D E hV (by omega) t ld sh
    obtain ⟨t', ld', sh', Q⟩ := ih (w + 1) (dgI h (cntV n (o 4) w)) (by omega) K T LD SH
    exact ⟨t', ld', sh', dg_a w _ h T LD SH n t v ld sh o cd pl ka kb kc D E (by omega) hC Q⟩
theorem k_safe {xs : Nat → Int32} {L : Nat} (H a : Nat) (n t : Nat → Int32) (v : Nat → Nat → Int32) (ld sh o cd pl ka kb kc : Nat → Int32) (D : Nat → Nat → Int32) (E : Nat → Int64) (hV : Vs n H) (ha : sfN n H = nI a) (haH : a ≤ H) : z_Mt xs L m_X4_safeShare [aR 0 16] (cm n t v ld sh o cd pl ka kb kc, D, E) (.inl (some (aD (shareV n H a)))) (cm n t v ld sh o cd pl ka kb kc, D, E) 0 := by
  unfold shareV
  by_cases e : H = 0
  · subst e
    rw [if_pos rfl]
    exact c_safe0 n t v ld sh o cd pl ka kb kc D E hV.2.1.1
  · rw [if_neg e]
    exact c_safe H a n t v ld sh o cd pl ka kb kc D E hV.2.1.1 (by omega) hV.2.1.2 ha haH
theorem chk_share {s : Nat → Int32} {H a : Nat} (hH : H ≤ 48) (haH : a ≤ H) : chk (shareV s H a) = true := by
  unfold shareV
  by_cases e : H = 0
  · rw [if_pos e]; exact chk_1
  · rw [if_neg e]; exact chk_s H (by omega) a (by omega) (by omega) haH
theorem k_digest {xs : Nat → Int32} {L : Nat} (H a c : Nat) (n : Nat → Int32) (v : Nat → Nat → Int32) (o cd pl ka kb kc : Nat → Int32) (D : Nat → Nat → Int32) (E : Nat → Int64) (hV : Vs n H) (ha : sfN n H = nI a) (haH : a ≤ H) (h6 : o 6 = nI c) (hc : c ≤ 60) : KS xs L n v o cd pl ka kb kc D E m_X4_digest [aR 0 16] (aL (digV n cd H a c (o 4))) := by
  have K0 : DA xs L n v o cd pl ka kb kc D E 159 [some (aR 0 16), some (aL ((itH n 48 0 (itS n 4 0 (dgI (dgI (itN (cntV n (o 4)) 15 0 3041) (n 32)) (n 33)))))), none, none, none] (digV n cd H a c (o 4)) := by
    intro t ld sh
    obtain ⟨T1, LD1, SH1, hC1⟩ := k_wch (xs := xs) (L := L) H 0 (itH n 48 0 (itS n 4 0 (dgI (dgI (itN (cntV n (o 4)) 15 0 3041) (n 32)) (n 33)))) n v o cd pl ka kb kc D E hV (by decide) t ld sh
    obtain ⟨T2, LD2, SH2, hC2⟩ := k_wch (xs := xs) (L := L) H 20 (chD n 0 (itH n 48 0 (itS n 4 0 (dgI (dgI (itN (cntV n (o 4)) 15 0 3041) (n 32)) (n 33))))) n v o cd pl ka kb kc D E hV (by decide) T1 LD1 SH1
    obtain ⟨T3, LD3, SH3, hC3⟩ := k_wch (xs := xs) (L := L) H 47 (chD n 20 (chD n 0 (itH n 48 0 (itS n 4 0 (dgI (dgI (itN (cntV n (o 4)) 15 0 3041) (n 32)) (n 33)))))) n v o cd pl ka kb kc D E hV (by decide) T2 LD2 SH2
    obtain ⟨T4, LD4, SH4, hC4⟩ := k_firstDark (xs := xs) (L := L) H n v o cd pl ka kb kc D E hV T3 LD3 SH3
    obtain ⟨T5, LD5, SH5, hC5⟩ := k_ifShed (xs := xs) (L := L) H n v o cd pl ka kb kc D E hV T4 LD4 SH4
    obtain ⟨T6, LD6, SH6, hC6⟩ := k_bestStart (xs := xs) (L := L) H n v o cd pl ka kb kc D E hV T5 LD5 SH5
    obtain ⟨t', ld', sh', Q⟩ := da_x (xs := xs) (L := L) c n v o cd pl ka kb kc D E h6 hc c 0 _ (by omega) T6 LD6 SH6
    exact ⟨t', ld', sh', dg_t c _ _ _ _ _ _ _ _ _ T1 LD1 SH1 T2 LD2 SH2 T3 LD3 SH3 T4 LD4 SH4 T5 LD5 SH5 T6 LD6 SH6 n t v ld sh o cd pl ka kb kc D E hC1 hC2 hC3 hC4 hC5 hC6 (k_safe H a n T6 v LD6 SH6 o cd pl ka kb kc D E hV ha haH) (c_bits _ _ _ _ (chk_share (s := n) hV.2.1.2 haH)) h6 Q⟩
  intro t ld sh
  have K1 : DA xs L n v o cd pl ka kb kc D E 6 [some (aR 0 16), some (aL (3041 : Int64)), none, some (aI (nI 0)), none] (digV n cd H a c (o 4)) := by
    refine da_a H n v o cd pl ka kb kc D E hV _ 15 0 3041 rfl ?_
    intro t ld sh
    obtain ⟨t', ld', sh', Q⟩ := da_s (xs := xs) (L := L) H n v o cd pl ka kb kc D E hV _ 4 0 _ rfl (da_h n v o cd pl ka kb kc D E _ 48 0 _ rfl K0) t ld sh
    exact ⟨t', ld', sh', dg_b _ n t v ld sh o cd pl ka kb kc D E Q⟩
  obtain ⟨t', ld', sh', Q⟩ := K1 t ld sh
  refine ⟨t', ld', sh', ?_⟩
  refine z_Ev_blk 4 (c' := (6, [some (aR 0 16), some (aL (3041 : Int64)), none, some (aI (0 : Int32)), none], [], (cm n t v ld sh o cd pl ka kb kc, D, E))) rfl trivial ?_
  exact Q
