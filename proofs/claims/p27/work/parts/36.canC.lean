/-! THE CLASS: what its looks answer, in words of the island -/
-- validity of changed islands
theorem Vs_mk {s w : Nat → Int32} {H : Nat} (hV : Vs s H) (hk : ∀ k, k < 4 → okk w k) (h34 : w 34 = s 34) (h35 : w 35 = s 35) (h36 : w 36 = s 36) (h37 : z_isB (w 37) = true) (hf : ∀ h, h < 48 → 0 ≤ (w (40 + h)).toInt ∧ (w (40 + h)).toInt ≤ 1500) (h32 : 0 ≤ (w 32).toInt ∧ (w 32).toInt ≤ 300) (h33 : 0 ≤ (w 33).toInt ∧ (w 33).toInt ≤ 48) (h38 : w 38 = s 38) (h39 : w 39 = s 39) (hr : ∀ j, 88 ≤ j → w j = s j) : Vs w H := by
  obtain ⟨-, b, c, d, -, -, -, -, i, j, k⟩ := hV
  refine ⟨hk, by rw [h34]; exact b, by rw [h35]; exact c, by rw [h36]; exact d, h37, hf, h32, h33, ?_, ?_, ?_⟩
  · rw [h38, i]; exact dkN_c H (fun h _ => (hr _ (by omega)).symm)
  · rw [h39, sfN_c (b := s) H (fun h _ => hr _ (by omega))]; exact j
  · intro h hh
    rw [hr _ (by omega)]; exact k h hh
theorem okk_s {s w : Nat → Int32} {k : Nat} (h : okk s k) (h0 : ∀ j, j < 24 → w j = s j) (hk : k < 4) : okk w k := by
  unfold okk at h ⊢
  rw [h0 k (by omega), h0 (4 + k) (by omega), h0 (8 + k) (by omega), h0 (12 + k) (by omega), h0 (16 + k) (by omega), h0 (20 + k) (by omega)]
  exact h
theorem upd_ne {f : Nat → Int32} {k j : Nat} {x : Int32} (h : j ≠ k) : upd f k x j = f j := if_neg h
theorem upd_at {f : Nat → Int32} {k : Nat} {x : Int32} : upd f k x k = x := if_pos rfl
theorem Vs_up {s : Nat → Int32} {H i : Nat} {x : Int32} (hV : Vs s H) (hi : i = 32 ∨ i = 33 ∨ i = 37 ∨ (40 ≤ i ∧ i < 88)) (hx : (i = 32 → 0 ≤ x.toInt ∧ x.toInt ≤ 300) ∧ (i = 33 → 0 ≤ x.toInt ∧ x.toInt ≤ 48) ∧ (i = 37 → z_isB x = true) ∧ (40 ≤ i → 0 ≤ x.toInt ∧ x.toInt ≤ 1500)) : Vs (upd s i x) H := by
  obtain ⟨x1, x2, x3, x4⟩ := hx
  refine Vs_mk hV (fun k hk => okk_s (hV.1 k hk) (fun j hj => upd_ne (by omega)) hk) (upd_ne (by omega)) (upd_ne (by omega)) (upd_ne (by omega)) ?_ ?_ ?_ ?_ (upd_ne (by omega)) (upd_ne (by omega)) (fun j hj => upd_ne (by omega))
  · by_cases e : i = 37
    · subst e; rw [upd_at]; exact x3 rfl
    · rw [upd_ne (by omega)]; exact Vs_b6 hV
  · intro h hh
    by_cases e : i = 40 + h
    · subst e; rw [upd_at]; exact x4 (by omega)
    · rw [upd_ne (by omega)]; exact hV.2.2.2.2.2.1 h hh
  · by_cases e : i = 32
    · subst e; rw [upd_at]; exact x1 rfl
    · rw [upd_ne (by omega)]; exact hV.2.2.2.2.2.2.1
  · by_cases e : i = 33
    · subst e; rw [upd_at]; exact x2 rfl
    · rw [upd_ne (by omega)]; exact hV.2.2.2.2.2.2.2.1
theorem Vs_lo {s w : Nat → Int32} {H : Nat} (hV : Vs s H) (hk : ∀ k, k < 4 → okk w k) (ho : ∀ j, 24 ≤ j → w j = s j) : Vs w H := by
  refine Vs_mk hV hk (ho _ (by decide)) (ho _ (by decide)) (ho _ (by decide)) ?_ ?_ ?_ ?_ (ho _ (by decide)) (ho _ (by decide)) (fun j hj => ho _ (by omega))
  · rw [ho _ (by decide)]; exact Vs_b6 hV
  · intro h hh; rw [ho _ (by omega)]; exact hV.2.2.2.2.2.1 h hh
  · rw [ho _ (by decide)]; exact hV.2.2.2.2.2.2.1
  · rw [ho _ (by decide)]; exact hV.2.2.2.2.2.2.2.1
theorem not1 {x : Int32} (h : z_isB x = true) : z_isB (1 - x) = true := by
  rcases isB_or h with e | e <;> rw [e] <;> rfl
theorem Vs_shed {s : Nat → Int32} {H : Nat} (hV : Vs s H) : Vs (upd s 37 (1 - s 37)) H :=
  Vs_up hV (by omega) ⟨fun z => absurd z (by decide), fun z => absurd z (by decide), fun _ => not1 (Vs_b6 hV), fun z => absurd z (by decide)⟩
theorem bgF_o {s : Nat → Int32} {k j : Nat} (h1 : j ≠ 16 + k) (h2 : j ≠ 20 + k) : bgF s k j = s j := by
  unfold bgF; rw [upd_ne h1, upd_ne h2]
theorem bgF_16 {s : Nat → Int32} {k : Nat} : bgF s k (16 + k) = if s (12 + k) = 0 then 2 else 1 := by unfold bgF; rw [upd_at]
theorem bgF_20 {s : Nat → Int32} {k : Nat} : bgF s k (20 + k) = s (12 + k) := by unfold bgF; rw [upd_ne (by omega), upd_at]
theorem Vs_bg {s : Nat → Int32} {H k : Nat} (hV : Vs s H) (hk : k < 4) : Vs (bgF s k) H := by
  refine Vs_lo hV (fun i hi => ?_) (fun j hj => bgF_o (by omega) (by omega))
  have h := hV.1 i hi
  unfold okk at h ⊢
  rw [bgF_o (by omega) (by omega), bgF_o (by omega) (by omega), bgF_o (by omega) (by omega), bgF_o (by omega) (by omega)]
  by_cases e : i = k
  · subst e
    rw [bgF_16, bgF_20]
    obtain ⟨a, b, c, d, -, -, -⟩ := h
    refine ⟨a, b, c, d, ?_, ?_, d⟩
    · split <;> decide
    · intro z
      by_cases q : s (12 + i) = 0
      · rw [if_pos q] at z; exact absurd z (by decide)
      · rw [i_lt, t0]
        have : (s (12 + i)).toInt ≠ 0 := fun y => q (Int32.toInt_inj.mp y)
        omega
  · rw [bgF_o (by omega) (by omega), bgF_o (by omega) (by omega)]
    exact h
-- what is seen, in words of the island
def aA (s : Nat → Int32) : Int32 := lodF s (nowF s)
theorem aA_n {s : Nat → Int32} {H : Nat} (hV : Vs s H) : cld s (mnH H) = aA s := by
  unfold aA
  rw [nowF_n hV, cld_eq (Vs_b6 hV) (mnH_lt H)]
theorem aA_b {s : Nat → Int32} {H : Nat} (hV : Vs s H) : 0 ≤ (aA s).toInt ∧ (aA s).toInt ≤ 1800 := by
  unfold aA
  rw [nowF_n hV]
  exact lod_b hV (mnH_lt H)
def cntV (s : Nat → Int32) (x : Int32) (w : Nat) : Int32 :=
  if w = 0 then s 34 else if w = 1 then manF (runF s) else if w = 2 then wrmN s else if w = 3 then aA s
  else if w = 4 then shO s (aA s) (runF s) 8 else if w = 5 then shO s (aA s) (runF s) 9 else if w = 6 then shO s (aA s) (runF s) 10 else if w = 7 then (if shO s (aA s) (runF s) 11 = 0 then 0 else 1)
  else if w = 8 then s 35 else if w = 9 then s 36 else if w = 10 then s 37 else if w = 11 then s 38 else if w = 12 then s 39 else if w = 13 then fulF s else x
def tolV (s : Nat → Int32) (k w : Nat) : Int32 := if w = 6 then shL s (aA s) (runF s) k else s ((if w < 6 then 4 * w else 24 + 4 * (w - 7)) + k)
def houV (s : Nat → Int32) (h w : Nat) : Int32 := if w = 0 then s (40 + h) else if s 34 ≤ nI h then -1 else s (88 + 6 * h + (w - 1))
def mskV (k : Nat) : Int32 := if k = 0 then 14 else if k = 1 then 13 else if k = 2 then 11 else 7
def dwV (s : Nat → Int32) (k : Nat) : Int32 := shO s (aA s) (runF s &&& mskV k) 8
def chT (s : Nat → Int32) (A : Int32) (i : Nat) (x : Int32 × Int32) : Int32 × Int32 :=
  if isF (canF s (nI i)) (shO s A (nI i) 11) x.1 (shO s A (nI i) 12) x.2 = true then (nI i, shO s A (nI i) 12) else x
def chI (s : Nat → Int32) (A : Int32) : Nat → Nat → Int32 × Int32 → Int32 × Int32
  | 0, _, x => x
  | d + 1, i, x => chI s A d (i + 1) (chT s A i x)
def chV (s : Nat → Int32) (h y : Nat) : Int32 := if (chI s (lodF s (nI h)) 16 0 (-1, 0)).1 = -1 then -1 else if y = 0 then (chI s (lodF s (nI h)) 16 0 (-1, 0)).1 else (chI s (lodF s (nI h)) 16 0 (-1, 0)).2
def fdV (s : Nat → Int32) (H : Nat) : Int32 := fdN (goM (48 - H) s) (48 - H) H
def ifsV (s : Nat → Int32) (H : Nat) : Int32 := goM (48 - H) s 38 - goM (48 - H) (upd s 37 (1 - s 37)) 38 + 100
def bsT (s : Nat → Int32) (H k : Nat) (x : Int32 × (Int32 × Int32)) : Int32 × (Int32 × Int32) :=
  if s (16 + k) = 0 then (if goM (48 - H) (bgF s k) 38 < x.1 ∨ (¬ x.2.2 = -1 ∧ goM (48 - H) (bgF s k) 38 = x.1 ∧ fulF (goM (48 - H) (bgF s k)) < x.2.1) then (goM (48 - H) (bgF s k) 38, fulF (goM (48 - H) (bgF s k)), nI k) else x) else x
def bsV (s : Nat → Int32) (H : Nat) : Int32 := (bsT s H 3 (bsT s H 2 (bsT s H 1 (bsT s H 0 (goM (48 - H) s 38, 0, -1))))).2.2
theorem cv_0 {s : Nat → Int32} {x : Int32} : cntV s x 0 = s 34 := by
  unfold cntV
  simp
theorem cv_1 {s : Nat → Int32} {x : Int32} : cntV s x 1 = manF (runF s) := by
  unfold cntV
  simp
theorem cv_2 {s : Nat → Int32} {x : Int32} : cntV s x 2 = wrmN s := by
  unfold cntV
  simp
theorem cv_3 {s : Nat → Int32} {x : Int32} : cntV s x 3 = aA s := by
  unfold cntV
  simp
theorem cv_4 {s : Nat → Int32} {x : Int32} : cntV s x 4 = shO s (aA s) (runF s) 8 := by
  unfold cntV
  simp
theorem cv_5 {s : Nat → Int32} {x : Int32} : cntV s x 5 = shO s (aA s) (runF s) 9 := by
  unfold cntV
  simp
theorem cv_6 {s : Nat → Int32} {x : Int32} : cntV s x 6 = shO s (aA s) (runF s) 10 := by
  unfold cntV
  simp
theorem cv_7 {s : Nat → Int32} {x : Int32} : cntV s x 7 = (if shO s (aA s) (runF s) 11 = 0 then 0 else 1) := by
  unfold cntV
  simp
theorem cv_8 {s : Nat → Int32} {x : Int32} : cntV s x 8 = s 35 := by
  unfold cntV
  simp
theorem cv_9 {s : Nat → Int32} {x : Int32} : cntV s x 9 = s 36 := by
  unfold cntV
  simp
theorem cv_10 {s : Nat → Int32} {x : Int32} : cntV s x 10 = s 37 := by
  unfold cntV
  simp
theorem cv_11 {s : Nat → Int32} {x : Int32} : cntV s x 11 = s 38 := by
  unfold cntV
  simp
theorem cv_12 {s : Nat → Int32} {x : Int32} : cntV s x 12 = s 39 := by
  unfold cntV
  simp
theorem cv_13 {s : Nat → Int32} {x : Int32} : cntV s x 13 = fulF s := by
  unfold cntV
  simp
theorem cv_14 {s : Nat → Int32} {x : Int32} : cntV s x 14 = x := by
  unfold cntV
  simp
theorem tv_0_0 {s : Nat → Int32} : tolV s 0 0 = s 0 := by
  unfold tolV
  simp
theorem tv_0_1 {s : Nat → Int32} : tolV s 0 1 = s 4 := by
  unfold tolV
  simp
theorem tv_0_2 {s : Nat → Int32} : tolV s 0 2 = s 8 := by
  unfold tolV
  simp
theorem tv_0_3 {s : Nat → Int32} : tolV s 0 3 = s 12 := by
  unfold tolV
  simp
theorem tv_0_4 {s : Nat → Int32} : tolV s 0 4 = s 16 := by
  unfold tolV
  simp
theorem tv_0_5 {s : Nat → Int32} : tolV s 0 5 = s 20 := by
  unfold tolV
  simp
theorem tv_0_6 {s : Nat → Int32} : tolV s 0 6 = shL s (aA s) (runF s) 0 := by
  unfold tolV
  simp
theorem tv_0_7 {s : Nat → Int32} : tolV s 0 7 = s 24 := by
  unfold tolV
  simp
theorem tv_0_8 {s : Nat → Int32} : tolV s 0 8 = s 28 := by
  unfold tolV
  simp
theorem tv_1_0 {s : Nat → Int32} : tolV s 1 0 = s 1 := by
  unfold tolV
  simp
theorem tv_1_1 {s : Nat → Int32} : tolV s 1 1 = s 5 := by
  unfold tolV
  simp
theorem tv_1_2 {s : Nat → Int32} : tolV s 1 2 = s 9 := by
  unfold tolV
  simp
theorem tv_1_3 {s : Nat → Int32} : tolV s 1 3 = s 13 := by
  unfold tolV
  simp
theorem tv_1_4 {s : Nat → Int32} : tolV s 1 4 = s 17 := by
  unfold tolV
  simp
theorem tv_1_5 {s : Nat → Int32} : tolV s 1 5 = s 21 := by
  unfold tolV
  simp
theorem tv_1_6 {s : Nat → Int32} : tolV s 1 6 = shL s (aA s) (runF s) 1 := by
  unfold tolV
  simp
theorem tv_1_7 {s : Nat → Int32} : tolV s 1 7 = s 25 := by
  unfold tolV
  simp
theorem tv_1_8 {s : Nat → Int32} : tolV s 1 8 = s 29 := by
  unfold tolV
  simp
theorem tv_2_0 {s : Nat → Int32} : tolV s 2 0 = s 2 := by
  unfold tolV
  simp
theorem tv_2_1 {s : Nat → Int32} : tolV s 2 1 = s 6 := by
  unfold tolV
  simp
theorem tv_2_2 {s : Nat → Int32} : tolV s 2 2 = s 10 := by
  unfold tolV
  simp
theorem tv_2_3 {s : Nat → Int32} : tolV s 2 3 = s 14 := by
  unfold tolV
  simp
theorem tv_2_4 {s : Nat → Int32} : tolV s 2 4 = s 18 := by
  unfold tolV
  simp
theorem tv_2_5 {s : Nat → Int32} : tolV s 2 5 = s 22 := by
  unfold tolV
  simp
theorem tv_2_6 {s : Nat → Int32} : tolV s 2 6 = shL s (aA s) (runF s) 2 := by
  unfold tolV
  simp
theorem tv_2_7 {s : Nat → Int32} : tolV s 2 7 = s 26 := by
  unfold tolV
  simp
theorem tv_2_8 {s : Nat → Int32} : tolV s 2 8 = s 30 := by
  unfold tolV
  simp
theorem tv_3_0 {s : Nat → Int32} : tolV s 3 0 = s 3 := by
  unfold tolV
  simp
theorem tv_3_1 {s : Nat → Int32} : tolV s 3 1 = s 7 := by
  unfold tolV
  simp
theorem tv_3_2 {s : Nat → Int32} : tolV s 3 2 = s 11 := by
  unfold tolV
  simp
theorem tv_3_3 {s : Nat → Int32} : tolV s 3 3 = s 15 := by
  unfold tolV
  simp
theorem tv_3_4 {s : Nat → Int32} : tolV s 3 4 = s 19 := by
  unfold tolV
  simp
theorem tv_3_5 {s : Nat → Int32} : tolV s 3 5 = s 23 := by
  unfold tolV
  simp
theorem tv_3_6 {s : Nat → Int32} : tolV s 3 6 = shL s (aA s) (runF s) 3 := by
  unfold tolV
  simp
theorem tv_3_7 {s : Nat → Int32} : tolV s 3 7 = s 27 := by
  unfold tolV
  simp
theorem tv_3_8 {s : Nat → Int32} : tolV s 3 8 = s 31 := by
  unfold tolV
  simp
theorem hv_0 {s : Nat → Int32} {h : Nat} : houV s h 0 = s (40 + h) := by
  unfold houV
  simp
theorem hv_1 {s : Nat → Int32} {h : Nat} : houV s h 1 = (if s 34 ≤ nI h then -1 else s (88 + 6 * h + 0)) := by
  unfold houV
  simp
theorem hv_2 {s : Nat → Int32} {h : Nat} : houV s h 2 = (if s 34 ≤ nI h then -1 else s (88 + 6 * h + 1)) := by
  unfold houV
  simp
theorem hv_3 {s : Nat → Int32} {h : Nat} : houV s h 3 = (if s 34 ≤ nI h then -1 else s (88 + 6 * h + 2)) := by
  unfold houV
  simp
theorem hv_4 {s : Nat → Int32} {h : Nat} : houV s h 4 = (if s 34 ≤ nI h then -1 else s (88 + 6 * h + 3)) := by
  unfold houV
  simp
theorem hv_5 {s : Nat → Int32} {h : Nat} : houV s h 5 = (if s 34 ≤ nI h then -1 else s (88 + 6 * h + 4)) := by
  unfold houV
  simp
theorem hv_6 {s : Nat → Int32} {h : Nat} : houV s h 6 = (if s 34 ≤ nI h then -1 else s (88 + 6 * h + 5)) := by
  unfold houV
  simp
theorem dv_0 {s : Nat → Int32} : dwV s 0 = shO s (aA s) (runF s &&& 14) 8 := by
  unfold dwV mskV
  simp
theorem dv_1 {s : Nat → Int32} : dwV s 1 = shO s (aA s) (runF s &&& 13) 8 := by
  unfold dwV mskV
  simp
theorem dv_2 {s : Nat → Int32} : dwV s 2 = shO s (aA s) (runF s &&& 11) 8 := by
  unfold dwV mskV
  simp
theorem dv_3 {s : Nat → Int32} : dwV s 3 = shO s (aA s) (runF s &&& 7) 8 := by
  unfold dwV mskV
  simp

/-- a call that answers r and changes the scratch alone -/
def KS (xs : Nat → Int32) (L : Nat) (n : Nat → Int32) (v : Nat → Nat → Int32) (o cd pl ka kb kc : Nat → Int32) (D : Nat → Nat → Int32) (E : Nat → Int64) (m : Nat) (as : List AV) (r : AV) : Prop := ∀ t ld sh : Nat → Int32, ∃ t' ld' sh' : Nat → Int32, z_Mt xs L m as (cm n t v ld sh o cd pl ka kb kc, D, E) (.inl (some r)) (cm n t' v ld' sh' o cd pl ka kb kc, D, E) 0
theorem k_now {xs : Nat → Int32} {L : Nat} (H : Nat) (n t : Nat → Int32) (v : Nat → Nat → Int32) (ld sh o cd pl ka kb kc : Nat → Int32) (D : Nat → Nat → Int32) (E : Nat → Int64) (hV : Vs n H) : ∃ LD SH : Nat → Int32, z_Mt xs L m_X4_shareOutNow [aR 0 16] (cm n t v ld sh o cd pl ka kb kc, D, E) (.inl none) (cm n t v LD SH o cd pl ka kb kc, D, E) 0 ∧ (∀ j, j < 4 → LD j = shL n (aA n) (runF n) j) ∧ SH 1 = shO n (aA n) (runF n) 8 ∧ SH 2 = shO n (aA n) (runF n) 9 ∧ SH 3 = shO n (aA n) (runF n) 10 ∧ SH 4 = shO n (aA n) (runF n) 11 := by
  have q := c_sh (ld := ld) (sh := sh) hV.1 (mkF_m (fun j => n (16 + j)) 2) (aA_b hV)
  exact ⟨_, _, c_now0 (mnH H) (aA n) (mkF (fun j => n (16 + j)) 2) _ _ n t v ld sh o cd pl ka kb kc D E (mnH_lt H) (hnF_n hV) (aA_n hV) rfl rfl rfl, q⟩
theorem wrm_n {s : Nat → Int32} : bcF (mkF (fun j => s (16 + j)) 1) = wrmN s := by
  rw [bcF_m (mkF_m _ _)]
  unfold mkF mkS wrmN wrS
  by_cases h0 : s 16 = 1 <;> by_cases h1 : s 17 = 1 <;> by_cases h2 : s 18 = 1 <;> by_cases h3 : s 19 = 1 <;> simp only [h0, h1, h2, h3, if_true, if_false] <;> decide
theorem b01 {x : Int32} (h : z_isB x = true) : (if x = 0 then 0 else 1) = x := by
  rcases isB_or h with e | e <;> rw [e] <;> rfl

theorem k_count {xs : Nat → Int32} {L : Nat} (H w : Nat) (n : Nat → Int32) (v : Nat → Nat → Int32) (o cd pl ka kb kc : Nat → Int32) (D : Nat → Nat → Int32) (E : Nat → Int64) (hV : Vs n H) (hw : w < 15) : KS xs L n v o cd pl ka kb kc D E m_X4_count [aR 0 16, aI (nI w)] (aI (cntV n (o 4) w)) := by
  intro t ld sh
  have hc : w = 0 ∨ w = 1 ∨ w = 2 ∨ w = 3 ∨ w = 4 ∨ w = 5 ∨ w = 6 ∨ w = 7 ∨ w = 8 ∨ w = 9 ∨ w = 10 ∨ w = 11 ∨ w = 12 ∨ w = 13 ∨ w = 14 := by omega
  obtain ⟨LD, SH, hN, q0, q1, q2, q3, q4⟩ := k_now (xs := xs) (L := L) H n t v ld sh o cd pl ka kb kc D E hV
  have h39 : nI H - sfN n H = n 39 := by
    have e := hV.2.2.2.2.2.2.2.2.2.1
    rw [← e]; grind
  rcases hc with e | e | e | e | e | e | e | e | e | e | e | e | e | e | e <;> subst e
  · refine ⟨t, ld, sh, ?_⟩
    have K := c_count0_0 (xs := xs) (L := L) n t v ld sh o cd pl ka kb kc D E
    skip
    rw [cv_0]
    exact K
  · refine ⟨t, ld, sh, ?_⟩
    have K := c_count0_1 (xs := xs) (L := L) n t v ld sh o cd pl ka kb kc D E
    rw [bcF_m (mkF_m _ _)] at K
    rw [cv_1]
    exact K
  · refine ⟨t, ld, sh, ?_⟩
    have K := c_count0_2 (xs := xs) (L := L) n t v ld sh o cd pl ka kb kc D E
    rw [wrm_n] at K
    rw [cv_2]
    exact K
  · refine ⟨t, ld, sh, ?_⟩
    have K := c_count0_3 (xs := xs) (L := L) (mnH H) (aA n) n t v ld sh o cd pl ka kb kc D E (mnH_lt H) (hnF_n hV) (aA_n hV)
    skip
    rw [cv_3]
    exact K
  · refine ⟨t, LD, SH, ?_⟩
    have K := c_count0_4 (xs := xs) (L := L) LD SH n t v ld sh o cd pl ka kb kc D E hN
    rw [q1] at K
    rw [cv_4]
    exact K
  · refine ⟨t, LD, SH, ?_⟩
    have K := c_count0_5 (xs := xs) (L := L) LD SH n t v ld sh o cd pl ka kb kc D E hN
    rw [q2] at K
    rw [cv_5]
    exact K
  · refine ⟨t, LD, SH, ?_⟩
    have K := c_count0_6 (xs := xs) (L := L) LD SH n t v ld sh o cd pl ka kb kc D E hN
    rw [q3] at K
    rw [cv_6]
    exact K
  · refine ⟨t, LD, SH, ?_⟩
    have K := c_count0_7 (xs := xs) (L := L) LD SH n t v ld sh o cd pl ka kb kc D E hN
    rw [q4] at K
    rw [cv_7]
    exact K
  · refine ⟨t, ld, sh, ?_⟩
    have K := c_count0_8 (xs := xs) (L := L) n t v ld sh o cd pl ka kb kc D E
    skip
    rw [cv_8]
    exact K
  · refine ⟨t, ld, sh, ?_⟩
    have K := c_count0_9 (xs := xs) (L := L) n t v ld sh o cd pl ka kb kc D E
    rw [b01 (Vs_b5 hV)] at K
    rw [cv_9]
    exact K
  · refine ⟨t, ld, sh, ?_⟩
    have K := c_count0_10 (xs := xs) (L := L) n t v ld sh o cd pl ka kb kc D E
    rw [b01 (Vs_b6 hV)] at K
    rw [cv_10]
    exact K
  · refine ⟨t, ld, sh, ?_⟩
    have K := c_count0_11 (xs := xs) (L := L) H n t v ld sh o cd pl ka kb kc D E hV.2.1.1 hV.2.1.2
    rw [← hV.2.2.2.2.2.2.2.2.1] at K
    rw [cv_11]
    exact K
  · refine ⟨t, ld, sh, ?_⟩
    have K := c_count0_12 (xs := xs) (L := L) H n t v ld sh o cd pl ka kb kc D E hV.2.1.1 hV.2.1.2
    rw [h39] at K
    rw [cv_12]
    exact K
  · refine ⟨t, ld, sh, ?_⟩
    have K := c_count0_13 (xs := xs) (L := L) n t v ld sh o cd pl ka kb kc D E
    skip
    rw [cv_13]
    exact K
  · refine ⟨t, ld, sh, ?_⟩
    have K := c_count0_14 (xs := xs) (L := L) n t v ld sh o cd pl ka kb kc D E
    skip
    rw [cv_14]
    exact K
theorem k_setOf {xs : Nat → Int32} {L : Nat} (H k w : Nat) (n : Nat → Int32) (v : Nat → Nat → Int32) (o cd pl ka kb kc : Nat → Int32) (D : Nat → Nat → Int32) (E : Nat → Int64) (hV : Vs n H) (hk : k < 4) (hw : w < 9) : KS xs L n v o cd pl ka kb kc D E m_X4_setOf [aR 0 16, aI (nI k), aI (nI w)] (aI (tolV n k w)) := by
  intro t ld sh
  have hc : k = 0 ∨ k = 1 ∨ k = 2 ∨ k = 3 := by omega
  have hd : w = 0 ∨ w = 1 ∨ w = 2 ∨ w = 3 ∨ w = 4 ∨ w = 5 ∨ w = 6 ∨ w = 7 ∨ w = 8 := by omega
  obtain ⟨LD, SH, hN, q0, -⟩ := k_now (xs := xs) (L := L) H n t v ld sh o cd pl ka kb kc D E hV
  rcases hc with e | e | e | e <;> subst e <;> rcases hd with e | e | e | e | e | e | e | e | e <;> subst e
  · rw [tv_0_0]
    exact ⟨t, ld, sh, c_setOf0_0_0 n t v ld sh o cd pl ka kb kc D E⟩
  · rw [tv_0_1]
    exact ⟨t, ld, sh, c_setOf0_0_1 n t v ld sh o cd pl ka kb kc D E⟩
  · rw [tv_0_2]
    exact ⟨t, ld, sh, c_setOf0_0_2 n t v ld sh o cd pl ka kb kc D E⟩
  · rw [tv_0_3]
    exact ⟨t, ld, sh, c_setOf0_0_3 n t v ld sh o cd pl ka kb kc D E⟩
  · rw [tv_0_4]
    exact ⟨t, ld, sh, c_setOf0_0_4 n t v ld sh o cd pl ka kb kc D E⟩
  · rw [tv_0_5]
    exact ⟨t, ld, sh, c_setOf0_0_5 n t v ld sh o cd pl ka kb kc D E⟩
  · refine ⟨t, LD, SH, ?_⟩
    have K := c_setOf0_0_6 (xs := xs) (L := L) LD SH n t v ld sh o cd pl ka kb kc D E hN
    rw [q0 0 (by decide)] at K
    rw [tv_0_6]
    exact K
  · rw [tv_0_7]
    exact ⟨t, ld, sh, c_setOf0_0_7 n t v ld sh o cd pl ka kb kc D E⟩
  · rw [tv_0_8]
    exact ⟨t, ld, sh, c_setOf0_0_8 n t v ld sh o cd pl ka kb kc D E⟩
  · rw [tv_1_0]
    exact ⟨t, ld, sh, c_setOf0_1_0 n t v ld sh o cd pl ka kb kc D E⟩
  · rw [tv_1_1]
    exact ⟨t, ld, sh, c_setOf0_1_1 n t v ld sh o cd pl ka kb kc D E⟩
  · rw [tv_1_2]
    exact ⟨t, ld, sh, c_setOf0_1_2 n t v ld sh o cd pl ka kb kc D E⟩
  · rw [tv_1_3]
    exact ⟨t, ld, sh, c_setOf0_1_3 n t v ld sh o cd pl ka kb kc D E⟩
  · rw [tv_1_4]
    exact ⟨t, ld, sh, c_setOf0_1_4 n t v ld sh o cd pl ka kb kc D E⟩
  · rw [tv_1_5]
    exact ⟨t, ld, sh, c_setOf0_1_5 n t v ld sh o cd pl ka kb kc D E⟩
  · refine ⟨t, LD, SH, ?_⟩
    have K := c_setOf0_1_6 (xs := xs) (L := L) LD SH n t v ld sh o cd pl ka kb kc D E hN
    rw [q0 1 (by decide)] at K
    rw [tv_1_6]
    exact K
  · rw [tv_1_7]
    exact ⟨t, ld, sh, c_setOf0_1_7 n t v ld sh o cd pl ka kb kc D E⟩
  · rw [tv_1_8]
    exact ⟨t, ld, sh, c_setOf0_1_8 n t v ld sh o cd pl ka kb kc D E⟩
  · rw [tv_2_0]
    exact ⟨t, ld, sh, c_setOf0_2_0 n t v ld sh o cd pl ka kb kc D E⟩
  · rw [tv_2_1]
    exact ⟨t, ld, sh, c_setOf0_2_1 n t v ld sh o cd pl ka kb kc D E⟩
  · rw [tv_2_2]
    exact ⟨t, ld, sh, c_setOf0_2_2 n t v ld sh o cd pl ka kb kc D E⟩
  · rw [tv_2_3]
    exact ⟨t, ld, sh, c_setOf0_2_3 n t v ld sh o cd pl ka kb kc D E⟩
  · rw [tv_2_4]
    exact ⟨t, ld, sh, c_setOf0_2_4 n t v ld sh o cd pl ka kb kc D E⟩
  · rw [tv_2_5]
    exact ⟨t, ld, sh, c_setOf0_2_5 n t v ld sh o cd pl ka kb kc D E⟩
  · refine ⟨t, LD, SH, ?_⟩
    have K := c_setOf0_2_6 (xs := xs) (L := L) LD SH n t v ld sh o cd pl ka kb kc D E hN
    rw [q0 2 (by decide)] at K
    rw [tv_2_6]
    exact K
  · rw [tv_2_7]
    exact ⟨t, ld, sh, c_setOf0_2_7 n t v ld sh o cd pl ka kb kc D E⟩
  · rw [tv_2_8]
    exact ⟨t, ld, sh, c_setOf0_2_8 n t v ld sh o cd pl ka kb kc D E⟩
  · rw [tv_3_0]
    exact ⟨t, ld, sh, c_setOf0_3_0 n t v ld sh o cd pl ka kb kc D E⟩
  · rw [tv_3_1]
    exact ⟨t, ld, sh, c_setOf0_3_1 n t v ld sh o cd pl ka kb kc D E⟩
  · rw [tv_3_2]
    exact ⟨t, ld, sh, c_setOf0_3_2 n t v ld sh o cd pl ka kb kc D E⟩
  · rw [tv_3_3]
    exact ⟨t, ld, sh, c_setOf0_3_3 n t v ld sh o cd pl ka kb kc D E⟩
  · rw [tv_3_4]
    exact ⟨t, ld, sh, c_setOf0_3_4 n t v ld sh o cd pl ka kb kc D E⟩
  · rw [tv_3_5]
    exact ⟨t, ld, sh, c_setOf0_3_5 n t v ld sh o cd pl ka kb kc D E⟩
  · refine ⟨t, LD, SH, ?_⟩
    have K := c_setOf0_3_6 (xs := xs) (L := L) LD SH n t v ld sh o cd pl ka kb kc D E hN
    rw [q0 3 (by decide)] at K
    rw [tv_3_6]
    exact K
  · rw [tv_3_7]
    exact ⟨t, ld, sh, c_setOf0_3_7 n t v ld sh o cd pl ka kb kc D E⟩
  · rw [tv_3_8]
    exact ⟨t, ld, sh, c_setOf0_3_8 n t v ld sh o cd pl ka kb kc D E⟩
theorem k_hour {xs : Nat → Int32} {L : Nat} (h w : Nat) (n : Nat → Int32) (v : Nat → Nat → Int32) (o cd pl ka kb kc : Nat → Int32) (D : Nat → Nat → Int32) (E : Nat → Int64) (hh : h < 48) (hw : w < 7) : KS xs L n v o cd pl ka kb kc D E m_X4_hour [aR 0 16, aI (nI h), aI (nI w)] (aI (houV n h w)) := by
  intro t ld sh
  have hd : w = 0 ∨ w = 1 ∨ w = 2 ∨ w = 3 ∨ w = 4 ∨ w = 5 ∨ w = 6 := by omega
  rcases hd with e | e | e | e | e | e | e <;> subst e
  · rw [hv_0]
    exact ⟨t, ld, sh, c_hour0_0 h n t v ld sh o cd pl ka kb kc D E hh⟩
  · rw [hv_1]
    exact ⟨t, ld, sh, c_hour0_1 h n t v ld sh o cd pl ka kb kc D E hh⟩
  · rw [hv_2]
    exact ⟨t, ld, sh, c_hour0_2 h n t v ld sh o cd pl ka kb kc D E hh⟩
  · rw [hv_3]
    exact ⟨t, ld, sh, c_hour0_3 h n t v ld sh o cd pl ka kb kc D E hh⟩
  · rw [hv_4]
    exact ⟨t, ld, sh, c_hour0_4 h n t v ld sh o cd pl ka kb kc D E hh⟩
  · rw [hv_5]
    exact ⟨t, ld, sh, c_hour0_5 h n t v ld sh o cd pl ka kb kc D E hh⟩
  · rw [hv_6]
    exact ⟨t, ld, sh, c_hour0_6 h n t v ld sh o cd pl ka kb kc D E hh⟩
theorem m16_nt {m : Int32} (h : m ∈ m16) : (m &&& (-2) = m &&& 14) ∧ (m &&& (-3) = m &&& 13) ∧ (m &&& (-5) = m &&& 11) ∧ (m &&& (-9) = m &&& 7) := by
  have q : m16.all (fun m => decide ((m &&& (-2 : Int32) = m &&& 14) ∧ (m &&& (-3 : Int32) = m &&& 13) ∧ (m &&& (-5 : Int32) = m &&& 11) ∧ (m &&& (-9 : Int32) = m &&& 7))) = true := by decide +kernel
  exact of_decide_eq_true (List.all_eq_true.mp q m h)
theorem k_ifLost {xs : Nat → Int32} {L : Nat} (H k : Nat) (n : Nat → Int32) (v : Nat → Nat → Int32) (o cd pl ka kb kc : Nat → Int32) (D : Nat → Nat → Int32) (E : Nat → Int64) (hV : Vs n H) (hk : k < 4) : KS xs L n v o cd pl ka kb kc D E m_X4_ifLost [aR 0 16, aI (nI k)] (aI (dwV n k)) := by
  intro t ld sh
  have hc : k = 0 ∨ k = 1 ∨ k = 2 ∨ k = 3 := by omega
  have hm := mkF_m (fun j => n (16 + j)) 2
  obtain ⟨n0, n1, n2, n3⟩ := m16_nt hm
  rcases hc with e | e | e | e <;> subst e
  · have q := c_sh (ld := ld) (sh := sh) (due := aA n) (mask := mkF (fun j => n (16 + j)) 2 &&& (-2)) hV.1 (by rw [n0]; exact m16_and hm (by decide)) (aA_b hV)
    refine ⟨t, (cGv (cI n) 0 (mkF (fun j => n (16 + j)) 2 &&& (-2)) (aA n) ld).1, cOb (cI n) 0 (mkF (fun j => n (16 + j)) 2 &&& (-2)) (aA n) ld sh, ?_⟩
    have K := c_ifLost0_0 (xs := xs) (L := L) (mnH H) (aA n) (mkF (fun j => n (16 + j)) 2) _ _ n t v ld sh o cd pl ka kb kc D E (mnH_lt H) (hnF_n hV) (aA_n hV) rfl rfl rfl
    rw [q.2.1, n0] at K
    rw [n0, dv_0]
    exact K
  · have q := c_sh (ld := ld) (sh := sh) (due := aA n) (mask := mkF (fun j => n (16 + j)) 2 &&& (-3)) hV.1 (by rw [n1]; exact m16_and hm (by decide)) (aA_b hV)
    refine ⟨t, (cGv (cI n) 0 (mkF (fun j => n (16 + j)) 2 &&& (-3)) (aA n) ld).1, cOb (cI n) 0 (mkF (fun j => n (16 + j)) 2 &&& (-3)) (aA n) ld sh, ?_⟩
    have K := c_ifLost0_1 (xs := xs) (L := L) (mnH H) (aA n) (mkF (fun j => n (16 + j)) 2) _ _ n t v ld sh o cd pl ka kb kc D E (mnH_lt H) (hnF_n hV) (aA_n hV) rfl rfl rfl
    rw [q.2.1, n1] at K
    rw [n1, dv_1]
    exact K
  · have q := c_sh (ld := ld) (sh := sh) (due := aA n) (mask := mkF (fun j => n (16 + j)) 2 &&& (-5)) hV.1 (by rw [n2]; exact m16_and hm (by decide)) (aA_b hV)
    refine ⟨t, (cGv (cI n) 0 (mkF (fun j => n (16 + j)) 2 &&& (-5)) (aA n) ld).1, cOb (cI n) 0 (mkF (fun j => n (16 + j)) 2 &&& (-5)) (aA n) ld sh, ?_⟩
    have K := c_ifLost0_2 (xs := xs) (L := L) (mnH H) (aA n) (mkF (fun j => n (16 + j)) 2) _ _ n t v ld sh o cd pl ka kb kc D E (mnH_lt H) (hnF_n hV) (aA_n hV) rfl rfl rfl
    rw [q.2.1, n2] at K
    rw [n2, dv_2]
    exact K
  · have q := c_sh (ld := ld) (sh := sh) (due := aA n) (mask := mkF (fun j => n (16 + j)) 2 &&& (-9)) hV.1 (by rw [n3]; exact m16_and hm (by decide)) (aA_b hV)
    refine ⟨t, (cGv (cI n) 0 (mkF (fun j => n (16 + j)) 2 &&& (-9)) (aA n) ld).1, cOb (cI n) 0 (mkF (fun j => n (16 + j)) 2 &&& (-9)) (aA n) ld sh, ?_⟩
    have K := c_ifLost0_3 (xs := xs) (L := L) (mnH H) (aA n) (mkF (fun j => n (16 + j)) 2) _ _ n t v ld sh o cd pl ka kb kc D E (mnH_lt H) (hnF_n hV) (aA_n hV) rfl rfl rfl
    rw [q.2.1, n3] at K
    rw [n3, dv_3]
    exact K

