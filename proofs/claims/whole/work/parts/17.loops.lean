/-! THE MODEL: loops with a counter: hours, copies -/
theorem inb_nI {i n : Nat} (h : i < n) (hn : n < 2 ^ 31) : z_inb (nI i) n = true := by
  unfold z_inb
  rw [nI_clamp (by omega)]
  have h1 : ¬ nI i < 0 := nI_pos (by omega)
  have h2 : Nat.blt i n = true := Nat.ble_eq.mpr h
  simp [h1, h2]
theorem nI_mul (a b : Nat) : nI a * nI b = nI (a * b) := (Int32.ofNat_mul a b).symm
theorem hrA {H c n : Nat} (x : Int32) (hx : x = nI c) (h : c + H < n) (hn : n < 2 ^ 31) : z_inb (x + nI H) n = true := by
  rw [hx, nI_add]
  exact inb_nI h hn
theorem hrB {H j : Nat} (x : Int32) (hx : x = nI j) (hj : j < 6) (h : H < 48) : z_inb (88 + 6 * nI H + x) 376 = true := by
  rw [hx, show (88 : Int32) = nI 88 from rfl, show (6 : Int32) = nI 6 from rfl, nI_mul, nI_add, nI_add]
  exact inb_nI (by omega) (by decide)
theorem hrB0 {H : Nat} (h : H < 48) : z_inb (88 + 6 * nI H) 376 = true := by
  rw [show (88 : Int32) = nI 88 from rfl, show (6 : Int32) = nI 6 from rfl, nI_mul, nI_add]
  exact inb_nI (by omega) (by decide)
def g0 : Nat → Nat → Int32 := fun _ _ => 0
theorem md_33 {D : Nat → Nat → Int32} {s : Nat → Int32} : md D s 33 = s := rfl
theorem mG_md {D : Nat → Nat → Int32} {s : Nat → Int32} : mG (md D s) = mG (md g0 s) := rfl
theorem mM_md {D : Nat → Nat → Int32} {s : Nat → Int32} : mM (md D s) = mM (md g0 s) := rfl
theorem sx_md {D : Nat → Nat → Int32} {s : Nat → Int32} {m k : Int32} {j : Nat} : sx (md D s) m k j = sx (md g0 s) m k j := rfl
theorem sLeft_md {D : Nat → Nat → Int32} {s : Nat → Int32} {a m : Int32} : sLeft (md D s) a m = sLeft (md g0 s) a m := rfl
theorem sCould_md {D : Nat → Nat → Int32} {s : Nat → Int32} {m : Int32} : sCould (md D s) m = sCould (md g0 s) m := rfl
theorem sLd0_md {D : Nat → Nat → Int32} {s ld : Nat → Int32} {m : Int32} : sLd0 (md D s) m ld = sLd0 (md g0 s) m ld := rfl
theorem sEn1_md {D : Nat → Nat → Int32} {s : Nat → Int32} {a m c e k : Int32} {j : Nat} : sEn1 (md D s) a m c e k j = sEn1 (md g0 s) a m c e k j := rfl
theorem sFu_md {D : Nat → Nat → Int32} {s ld : Nat → Int32} : sFu (md D s) ld = sFu (md g0 s) ld := rfl
theorem sGv_md {D : Nat → Nat → Int32} {s ld : Nat → Int32} {all mask : Int32} : sGv (md D s) all mask ld = sGv (md g0 s) all mask ld := by
  unfold sGv
  rw [mG_md, mM_md, sLeft_md, sLd0_md]
theorem sOb_md {D : Nat → Nat → Int32} {s ld ob : Nat → Int32} {all mask : Int32} : sOb (md D s) all mask ld ob = sOb (md g0 s) all mask ld ob := by
  unfold sOb sObT sEn
  rw [sGv_md, sLeft_md, sCould_md, sFu_md]
  simp only [sEn1_md (D := D)]
theorem gLd_md {D : Nat → Nat → Int32} {s ld : Nat → Int32} : gLd D s ld = gLd g0 s ld := by
  unfold gLd
  rw [sGv_md]
theorem gOb_md {D : Nat → Nat → Int32} {s ld ob : Nat → Int32} : gOb D s ld ob = gOb g0 s ld ob := by
  unfold gOb
  rw [sOb_md]
theorem goF_md {D : Nat → Nat → Int32} {s ld ob : Nat → Int32} : goF D s ld ob = goF g0 s ld ob := by
  unfold goF
  rw [gOb_md, gLd_md]
theorem E_goOn {xs : Nat → Int32} {L : Nat} (C : Nat → Nat → Nat → Int32) (s a v t ld ob : Nat → Int32) (E : Nat → Int64) {H : Nat} (hs : s 34 = nI H) (hH : H < 48) :
    z_Mt xs L m_X5_goOn [aR 0 32] (C, dm s a v t ld ob, E) (.inl none) (C, dm (goF g0 s ld ob) a v t (gLd g0 s ld) (gOb g0 s ld ob), E) 0 := by
  have q := e_goOn (xs := xs) (L := L) C (dm s a v t ld ob) s ld ob E (by rw [hs]; exact hrA (c := 40) 40 rfl (by omega) (by decide)) (by rw [hs]; exact hrB0 hH) (by rw [hs]; exact hrB 1 rfl (by decide) hH) (by rw [hs]; exact hrB 2 rfl (by decide) hH) (by rw [hs]; exact hrB 3 rfl (by decide) hH) (by rw [hs]; exact hrB 4 rfl (by decide) hH) (by rw [hs]; exact hrB 5 rfl (by decide) hH)
  rw [dm_mk, dm_mk, goF_md, gLd_md, gOb_md] at q
  exact q
abbrev S3 : Type := (Nat → Int32) × ((Nat → Int32) × (Nat → Int32))
def goT (x : S3) : S3 := (goF g0 x.1 x.2.1 x.2.2, gLd g0 x.1 x.2.1, gOb g0 x.1 x.2.1 x.2.2)
def goI : Nat → S3 → S3
  | 0, x => x
  | n + 1, x => goI n (goT x)
theorem rec_at {H j : Nat} (hH : H < 48) (hj : j < 6) : (88 + 6 * nI H + nI j : Int32).toNatClampNeg = 88 + 6 * H + j := by
  rw [show (88 : Int32) = nI 88 from rfl, show (6 : Int32) = nI 6 from rfl, nI_mul, nI_add, nI_add, nI_clamp (by omega)]
theorem wrmF_34 {s : Nat → Int32} : wrmF s 34 = s 34 + 1 := by simp [wrmF, upd]
theorem recF_o {s ob : Nat → Int32} {all mask : Int32} {H k : Nat} (hs : s 34 = nI H) (hH : H < 48) (hk : k < 88 + 6 * H ∨ 88 + 6 * H + 6 ≤ k) : recF s ob all mask k = s k := by
  unfold recF
  have e0 : (88 + 6 * s 34).toNatClampNeg = 88 + 6 * H := by
    have := rec_at hH (show 0 < 6 by decide)
    rw [nI_0, Int32.add_zero] at this
    rw [hs]; exact this
  have e1 : (88 + 6 * s 34 + 1).toNatClampNeg = 88 + 6 * H + 1 := by rw [hs]; exact rec_at hH (show 1 < 6 by decide)
  have e2 : (88 + 6 * s 34 + 2).toNatClampNeg = 88 + 6 * H + 2 := by rw [hs]; exact rec_at hH (show 2 < 6 by decide)
  have e3 : (88 + 6 * s 34 + 3).toNatClampNeg = 88 + 6 * H + 3 := by rw [hs]; exact rec_at hH (show 3 < 6 by decide)
  have e4 : (88 + 6 * s 34 + 4).toNatClampNeg = 88 + 6 * H + 4 := by rw [hs]; exact rec_at hH (show 4 < 6 by decide)
  have e5 : (88 + 6 * s 34 + 5).toNatClampNeg = 88 + 6 * H + 5 := by rw [hs]; exact rec_at hH (show 5 < 6 by decide)
  rw [e0, e1, e2, e3, e4, e5]
  simp only [upd]
  rw [if_neg (by omega), if_neg (by omega), if_neg (by omega), if_neg (by omega), if_neg (by omega), if_neg (by omega)]
theorem goF_34 {D : Nat → Nat → Int32} {s ld ob : Nat → Int32} {H : Nat} (hs : s 34 = nI H) (hH : H < 48) : goF D s ld ob 34 = nI (H + 1) := by
  have e34 : wuF s 34 = s 34 := wuF_o (Or.inr (by decide))
  have q : fuF (cntF (wuF s) (gOb D s ld ob)) (gLd D s ld) (gMask s) 34 = s 34 := by rw [cnt_34, e34]
  unfold goF
  rw [wrmF_34, recF_o (by rw [q]; exact hs) hH (Or.inl (by omega)), q, hs, nI_1]
theorem goI_s {n : Nat} {x : S3} : goI (n + 1) x = goI n (goT x) := rfl
theorem goT_1 {x : S3} : (goT x).1 = goF g0 x.1 x.2.1 x.2.2 := by simp only [goT]
theorem goT_2 {x : S3} : (goT x).2.1 = gLd g0 x.1 x.2.1 := by simp only [goT]
theorem goT_3 {x : S3} : (goT x).2.2 = gOb g0 x.1 x.2.1 x.2.2 := by simp only [goT]
theorem goT_34 {x : S3} {H : Nat} (h : x.1 34 = nI H) (hH : H < 48) : (goT x).1 34 = nI (H + 1) := by
  rw [goT_1]
  exact goF_34 h hH

theorem pa_1 {xs : Nat → Int32} {L : Nat} {o : z_Rs} {M' : Mem} {kk : Nat} (i n H : Nat) (had : Int32) (C : Nat → Nat → Nat → Int32) (s a v t ld ob : Nat → Int32) (E : Nat → Int64) (hs : s 34 = nI H) (hH : H < 48) (hi : i < n) (hn : n < 100) (K : z_Ev xs L m_X5_passes (10, [some (aR 0 32), some (aI (nI n)), some (aI had), some (aI (nI (i + 1)))], [], (C, dm (goF g0 s ld ob) a v t (gLd g0 s ld) (gOb g0 s ld ob), E)) o M' kk) : z_Ev xs L m_X5_passes (10, [some (aR 0 32), some (aI (nI n)), some (aI had), some (aI (nI i))], [], (C, dm s a v t ld ob, E)) o M' kk := by
  refine z_Ev_blk 3 (c' := ((if (nI n) ≤ (nI i) then 25 else 15), [some (aR 0 32), some (aI (nI n)), some (aI had), some (aI (nI i))], [], (C, dm s a v t ld ob, E))) rfl trivial ?_
  refine z_Ev_else (nI_ge hi (by omega)) ?_
  refine z_Ev_blk 1 (c' := (16, [some (aR 0 32), some (aI (nI n)), some (aI had), some (aI (nI i))], [aR 0 32], (C, dm s a v t ld ob, E))) rfl trivial ?_
  refine z_Ev_call0 (m' := m_X5_goOn) (as := [aR 0 32]) (r := []) (E_goOn C s a v t ld ob E hs hH) rfl rfl ?_
  refine z_Ev_blk 2 (c' := (10, [some (aR 0 32), some (aI (nI n)), some (aI had), some (aI ((nI i) + (1 : Int32)))], [], (C, dm (goF g0 s ld ob) a v t (gLd g0 s ld) (gOb g0 s ld ob), E))) rfl trivial ?_
  refine z_Ev_fgt [true, true, true, true] ?_
  exact z_Ev_eq (c := (10, [some (aR 0 32), some (aI (nI n)), some (aI had), some (aI ((nI i) + (1 : Int32)))], [], (C, dm (goF g0 s ld ob) a v t (gLd g0 s ld) (gOb g0 s ld ob), E))) (c' := (10, [some (aR 0 32), some (aI (nI n)), some (aI had), some (aI (nI (i + 1)))], [], (C, dm (goF g0 s ld ob) a v t (gLd g0 s ld) (gOb g0 s ld ob), E))) (by first | rfl | simp [nI_1]) K
theorem pa_all {xs : Nat → Int32} {L : Nat} (C : Nat → Nat → Nat → Int32) (a v t : Nat → Int32) (E : Nat → Int64) (n : Nat) (had : Int32) (hn : n < 100) : ∀ (d i H : Nat) (x : S3), i + d = n → x.1 34 = nI H → H + d ≤ 48 → z_Ev xs L m_X5_passes (10, [some (aR 0 32), some (aI (nI n)), some (aI had), some (aI (nI i))], [], (C, dm x.1 a v t x.2.1 x.2.2, E)) (.inl (some (aI ((goI d x).1 38 - had)))) (C, dm (goI d x).1 a v t (goI d x).2.1 (goI d x).2.2, E) 0 := by
  intro d
  induction d with
  | zero =>
    intro i H x hid hx hH
    have e : i = n := by omega
    subst e
    refine z_Ev_blk 3 (c' := ((if nI i ≤ nI i then 25 else 15), [some (aR 0 32), some (aI (nI i)), some (aI had), some (aI (nI i))], [], (C, dm x.1 a v t x.2.1 x.2.2, E))) rfl trivial ?_
    refine z_Ev_if (Int32.le_refl _) ?_
    refine z_Ev_blk 6 (c' := (34, [some (aR 0 32), some (aI (nI i)), some (aI had), some (aI (nI i))], [aI (x.1 38 - had)], (C, dm x.1 a v t x.2.1 x.2.2, E))) rfl ⟨rfl, trivial⟩ ?_
    exact z_Ev_iret rfl rfl
  | succ d ih =>
    intro i H x hid hx hH
    refine pa_1 i n H had C x.1 a v t x.2.1 x.2.2 E hx (by omega) (by omega) hn ?_
    have K := ih (i + 1) (H + 1) (goT x) (by omega) (goT_34 hx (by omega)) (by omega)
    rw [goI_s]
    rw [goT_1, goT_2, goT_3] at K
    exact K
theorem m_passes {xs : Nat → Int32} {L : Nat} (n H : Nat) (C : Nat → Nat → Nat → Int32) (s a v t ld ob : Nat → Int32) (E : Nat → Int64) (hs : s 34 = nI H) (hH : H + n ≤ 48) : z_Mt xs L m_X5_passes [aR 0 32, aI (nI n)] (C, dm s a v t ld ob, E) (.inl (some (aI ((goI n (s, ld, ob)).1 38 - s 38)))) (C, dm (goI n (s, ld, ob)).1 a v t (goI n (s, ld, ob)).2.1 (goI n (s, ld, ob)).2.2, E) 0 := by
  refine z_Ev_blk 7 (c' := (10, [some (aR 0 32), some (aI (nI n)), some (aI (s 38)), some (aI (0 : Int32))], [], (C, dm s a v t ld ob, E))) rfl ⟨rfl, trivial⟩ ?_
  rw [← nI_0]
  exact pa_all C a v t E n (s 38) (by omega) n 0 H (s, ld, ob) (by omega) hs hH
/-- the first n places are g's -/
def cpN (f g : Nat → Int32) (n : Nat) : Nat → Int32 := fun j => if j < n then g j else f j
theorem cpN_0 {f g : Nat → Int32} : cpN f g 0 = f := by
  funext j
  unfold cpN
  rw [if_neg (Nat.not_lt_zero j)]
theorem cpN_s {f g : Nat → Int32} {n : Nat} : upd (cpN f g n) n (g n) = cpN f g (n + 1) := by
  funext j
  simp only [cpN, upd]
  by_cases h : j = n
  · subst h
    rw [if_pos rfl, if_pos (Nat.lt_succ_self j)]
  · rw [if_neg h]
    by_cases h2 : j < n
    · rw [if_pos h2, if_pos (by omega)]
    · rw [if_neg h2, if_neg (by omega)]

theorem as_1 {xs : Nat → Int32} {L : Nat} {o : z_Rs} {M' : Mem} {kk : Nat} (i : Nat) (C : Nat → Nat → Nat → Int32) (s a v t ld ob : Nat → Int32) (E : Nat → Int64) (hi : i < 376) (K : z_Ev xs L m_X5_putAside (2, [some (aR 0 32), some (aI (nI (i + 1)))], [], (C, dm s (upd a i (s i)) v t ld ob, E)) o M' kk) : z_Ev xs L m_X5_putAside (2, [some (aR 0 32), some (aI (nI i))], [], (C, dm s a v t ld ob, E)) o M' kk := by
  refine z_Ev_blk 3 (c' := ((if (376 : Int32) ≤ (nI i) then 27 else 9), [some (aR 0 32), some (aI (nI i))], [], (C, dm s a v t ld ob, E))) rfl trivial ?_
  refine z_Ev_else (nI_ge (b := 376) hi (by decide)) ?_
  refine z_Ev_blk 8 (c' := (21, [some (aR 0 32), some (aI (nI i))], [], (C, up2 (dm s a v t ld ob) 34 ((nI i).toNatClampNeg) (s ((nI i).toNatClampNeg)), E))) rfl ⟨(inb_nI hi (by decide)), (inb_nI hi (by decide)), trivial⟩ ?_
  rw [dm_34]
  refine z_Ev_blk 2 (c' := (2, [some (aR 0 32), some (aI ((nI i) + (1 : Int32)))], [], (C, dm s (upd a ((nI i).toNatClampNeg) (s ((nI i).toNatClampNeg))) v t ld ob, E))) rfl trivial ?_
  refine z_Ev_fgt [true, true] ?_
  exact z_Ev_eq (c := (2, [some (aR 0 32), some (aI ((nI i) + (1 : Int32)))], [], (C, dm s (upd a ((nI i).toNatClampNeg) (s ((nI i).toNatClampNeg))) v t ld ob, E))) (c' := (2, [some (aR 0 32), some (aI (nI (i + 1)))], [], (C, dm s (upd a i (s i)) v t ld ob, E))) (by simp [nI_1, nI_clamp (show i < 2 ^ 31 by omega), dm_33, dm_34]) K
theorem as_all {xs : Nat → Int32} {L : Nat} (C : Nat → Nat → Nat → Int32) (s a v t ld ob : Nat → Int32) (E : Nat → Int64) : ∀ (d i : Nat), i + d = 376 → z_Ev xs L m_X5_putAside (2, [some (aR 0 32), some (aI (nI i))], [], (C, dm s (cpN a s i) v t ld ob, E)) (.inl none) (C, dm s (cpN a s 376) v t ld ob, E) 0 := by
  intro d
  induction d with
  | zero =>
    intro i h
    have e : i = 376 := by omega
    subst e
    refine z_Ev_blk 3 (c' := ((if (376 : Int32) ≤ nI 376 then 27 else 9), [some (aR 0 32), some (aI (nI 376))], [], (C, dm s (cpN a s 376) v t ld ob, E))) rfl trivial ?_
    refine z_Ev_if (by decide) ?_
    exact z_Ev_vret rfl rfl
  | succ d ih =>
    intro i h
    refine as_1 i C s (cpN a s i) v t ld ob E (by omega) ?_
    rw [cpN_s]
    exact ih (i + 1) (by omega)
theorem m_putAside {xs : Nat → Int32} {L : Nat} (C : Nat → Nat → Nat → Int32) (s a v t ld ob : Nat → Int32) (E : Nat → Int64) : z_Mt xs L m_X5_putAside [aR 0 32] (C, dm s a v t ld ob, E) (.inl none) (C, dm s (cpN a s 376) v t ld ob, E) 0 := by
  refine z_Ev_blk 2 (c' := (2, [some (aR 0 32), some (aI (0 : Int32))], [], (C, dm s a v t ld ob, E))) rfl trivial ?_
  have q := as_all (xs := xs) (L := L) C s a v t ld ob E 376 0 rfl
  rw [cpN_0, nI_0] at q
  exact q
theorem bk_1 {xs : Nat → Int32} {L : Nat} {o : z_Rs} {M' : Mem} {kk : Nat} (i : Nat) (C : Nat → Nat → Nat → Int32) (s a v t ld ob : Nat → Int32) (E : Nat → Int64) (hi : i < 376) (K : z_Ev xs L m_X5_putBack (2, [some (aR 0 32), some (aI (nI (i + 1)))], [], (C, dm (upd s i (a i)) a v t ld ob, E)) o M' kk) : z_Ev xs L m_X5_putBack (2, [some (aR 0 32), some (aI (nI i))], [], (C, dm s a v t ld ob, E)) o M' kk := by
  refine z_Ev_blk 3 (c' := ((if (376 : Int32) ≤ (nI i) then 27 else 9), [some (aR 0 32), some (aI (nI i))], [], (C, dm s a v t ld ob, E))) rfl trivial ?_
  refine z_Ev_else (nI_ge (b := 376) hi (by decide)) ?_
  refine z_Ev_blk 8 (c' := (21, [some (aR 0 32), some (aI (nI i))], [], (C, up2 (dm s a v t ld ob) 33 ((nI i).toNatClampNeg) (a ((nI i).toNatClampNeg)), E))) rfl ⟨(inb_nI hi (by decide)), (inb_nI hi (by decide)), trivial⟩ ?_
  rw [dm_33]
  refine z_Ev_blk 2 (c' := (2, [some (aR 0 32), some (aI ((nI i) + (1 : Int32)))], [], (C, dm (upd s ((nI i).toNatClampNeg) (a ((nI i).toNatClampNeg))) a v t ld ob, E))) rfl trivial ?_
  refine z_Ev_fgt [true, true] ?_
  exact z_Ev_eq (c := (2, [some (aR 0 32), some (aI ((nI i) + (1 : Int32)))], [], (C, dm (upd s ((nI i).toNatClampNeg) (a ((nI i).toNatClampNeg))) a v t ld ob, E))) (c' := (2, [some (aR 0 32), some (aI (nI (i + 1)))], [], (C, dm (upd s i (a i)) a v t ld ob, E))) (by simp [nI_1, nI_clamp (show i < 2 ^ 31 by omega), dm_33, dm_34]) K
theorem bk_all {xs : Nat → Int32} {L : Nat} (C : Nat → Nat → Nat → Int32) (s a v t ld ob : Nat → Int32) (E : Nat → Int64) : ∀ (d i : Nat), i + d = 376 → z_Ev xs L m_X5_putBack (2, [some (aR 0 32), some (aI (nI i))], [], (C, dm (cpN s a i) a v t ld ob, E)) (.inl none) (C, dm (cpN s a 376) a v t ld ob, E) 0 := by
  intro d
  induction d with
  | zero =>
    intro i h
    have e : i = 376 := by omega
    subst e
    refine z_Ev_blk 3 (c' := ((if (376 : Int32) ≤ nI 376 then 27 else 9), [some (aR 0 32), some (aI (nI 376))], [], (C, dm (cpN s a 376) a v t ld ob, E))) rfl trivial ?_
    refine z_Ev_if (by decide) ?_
    exact z_Ev_vret rfl rfl
  | succ d ih =>
    intro i h
    refine bk_1 i C (cpN s a i) a v t ld ob E (by omega) ?_
    rw [cpN_s]
    exact ih (i + 1) (by omega)
theorem m_putBack {xs : Nat → Int32} {L : Nat} (C : Nat → Nat → Nat → Int32) (s a v t ld ob : Nat → Int32) (E : Nat → Int64) : z_Mt xs L m_X5_putBack [aR 0 32] (C, dm s a v t ld ob, E) (.inl none) (C, dm (cpN s a 376) a v t ld ob, E) 0 := by
  refine z_Ev_blk 2 (c' := (2, [some (aR 0 32), some (aI (0 : Int32))], [], (C, dm s a v t ld ob, E))) rfl trivial ?_
  have q := bk_all (xs := xs) (L := L) C s a v t ld ob E 376 0 rfl
  rw [cpN_0, nI_0] at q
  exact q
