/-! PURE: what an island keeps; rated, stopped and lost sets -/
theorem Vs_ext {s w : Nat → Int32} {H : Nat} (h : ∀ j, j < 376 → w j = s j) (hV : Vs s H) : Vs w H := by
  obtain ⟨a, b, c, d, e, f, g, g2, i, j, k⟩ := hV
  have hH := b.2
  refine ⟨fun k hk => okk_s (a k hk) (fun j hj => h j (by omega)) hk, by rw [h 34 (by omega)]; exact b, by rw [h 35 (by omega)]; exact c, by rw [h 36 (by omega)]; exact d, by rw [h 37 (by omega)]; exact e, ?_, by rw [h 32 (by omega)]; exact g, by rw [h 33 (by omega)]; exact g2, ?_, ?_, ?_⟩
  · intro q hq
    rw [h _ (by omega)]; exact f q hq
  · rw [h 38 (by omega), i]; exact dkN_c H (fun q hq => (h _ (by omega)).symm)
  · rw [h 39 (by omega), sfN_c (b := s) H (fun q hq => h _ (by omega))]; exact j
  · intro q hq
    rw [h _ (by omega)]; exact k q hq
theorem svq_lt {q m : Nat} (hq : q < 6) : svq q m < 6 := by
  unfold svq
  split <;> omega
theorem svm_le {m : Nat} (hm : m ≤ 6) : svm m + 1 ≤ 6 := by
  unfold svm
  split <;> omega
theorem ge_i {x : Int32} {a : Nat} (ha : a < 2 ^ 31) : nI a ≤ x ↔ (a : Int) ≤ x.toInt := by rw [Int32.le_iff_toInt_le, nI_toInt ha]
theorem le_i {x : Int32} {a : Nat} (ha : a < 2 ^ 31) : x ≤ nI a ↔ x.toInt ≤ (a : Int) := by rw [Int32.le_iff_toInt_le, nI_toInt ha]
/-- an int between two literals is a natural number there -/
theorem bet {x : Int32} {a b : Nat} (h : nI a ≤ x ∧ x ≤ nI b) (ha : a < 2 ^ 31) (hb : b < 2 ^ 31) : ∃ k, x = nI k ∧ a ≤ k ∧ k ≤ b := by
  have h1 := (ge_i ha).mp h.1
  have h2 := (le_i hb).mp h.2
  refine ⟨x.toInt.toNat, ?_, by omega, by omega⟩
  rw [← Int32.toInt_inj, nI_toInt (by omega)]
  omega
def rtF (s : Nat → Int32) (k : Nat) (g l e w : Int32) : Nat → Int32 := upd (upd (upd (upd s k g) (4 + k) l) (8 + k) e) (12 + k) w
theorem rtF_o {s : Nat → Int32} {k j : Nat} {g l e w : Int32} (h0 : j ≠ k) (h1 : j ≠ 4 + k) (h2 : j ≠ 8 + k) (h3 : j ≠ 12 + k) : rtF s k g l e w j = s j := by
  unfold rtF
  rw [upd_ne h3, upd_ne h2, upd_ne h1, upd_ne h0]
theorem Vs_rate {s : Nat → Int32} {H k : Nat} {g l e w : Int32} (hV : Vs s H) (hk : k < 4) (hg : 50 ≤ g ∧ g ≤ 500) (hl : 0 ≤ l ∧ l ≤ g) (he : 1 ≤ e ∧ e ≤ 99) (hw : 0 ≤ w ∧ w ≤ 4) : Vs (rtF s k g l e w) H := by
  refine Vs_lo hV (fun i hi => ?_) (fun j hj => rtF_o (by omega) (by omega) (by omega) (by omega))
  have h := hV.1 i hi
  by_cases q : i = k
  · subst q
    unfold okk at h ⊢
    rw [show rtF s i g l e w i = g by unfold rtF; rw [upd_ne (by omega), upd_ne (by omega), upd_ne (by omega), upd_at], show rtF s i g l e w (4 + i) = l by unfold rtF; rw [upd_ne (by omega), upd_ne (by omega), upd_at], show rtF s i g l e w (8 + i) = e by unfold rtF; rw [upd_ne (by omega), upd_at], show rtF s i g l e w (12 + i) = w by unfold rtF; rw [upd_at], rtF_o (by omega) (by omega) (by omega) (by omega), rtF_o (by omega) (by omega) (by omega) (by omega)]
    obtain ⟨-, -, -, -, x⟩ := h
    exact ⟨⟨(ge_i (a := 50) (by decide)).mp hg.1, (le_i (a := 500) (by decide)).mp hg.2⟩, ⟨(ge_i (a := 0) (by decide)).mp hl.1, Int32.le_iff_toInt_le.mp hl.2⟩, ⟨(ge_i (a := 1) (by decide)).mp he.1, (le_i (a := 99) (by decide)).mp he.2⟩, ⟨(ge_i (a := 0) (by decide)).mp hw.1, (le_i (a := 4) (by decide)).mp hw.2⟩, x⟩
  · unfold okk at h ⊢
    rw [rtF_o (by omega) (by omega) (by omega) (by omega), rtF_o (by omega) (by omega) (by omega) (by omega), rtF_o (by omega) (by omega) (by omega) (by omega), rtF_o (by omega) (by omega) (by omega) (by omega), rtF_o (by omega) (by omega) (by omega) (by omega), rtF_o (by omega) (by omega) (by omega) (by omega)]
    exact h
def loF (s : Nat → Int32) (k : Nat) : Nat → Int32 := upd (upd s (20 + k) 0) (16 + k) (if s (16 + k) = 3 then 0 else 3)
theorem loF_o {s : Nat → Int32} {k j : Nat} (h0 : j ≠ 16 + k) (h1 : j ≠ 20 + k) : loF s k j = s j := by
  unfold loF
  rw [upd_ne h0, upd_ne h1]
theorem Vs_lose {s : Nat → Int32} {H k : Nat} (hV : Vs s H) (hk : k < 4) : Vs (loF s k) H := by
  refine Vs_lo hV (fun i hi => ?_) (fun j hj => loF_o (by omega) (by omega))
  have h := hV.1 i hi
  unfold okk at h ⊢
  rw [loF_o (by omega) (by omega), loF_o (by omega) (by omega), loF_o (by omega) (by omega), loF_o (by omega) (by omega)]
  by_cases q : i = k
  · subst q
    rw [show loF s i (16 + i) = (if s (16 + i) = 3 then 0 else 3) from upd_at, show loF s i (20 + i) = 0 by unfold loF; rw [upd_ne (by omega), upd_at]]
    obtain ⟨a, b, c, d, -⟩ := h
    refine ⟨a, b, c, d, ?_, ?_, by decide⟩
    · split <;> decide
    · intro z
      split at z <;> exact absurd z (by decide)
  · rw [loF_o (by omega) (by omega), loF_o (by omega) (by omega)]
    exact h
/-- the slot of the ring that the class's undo reads -/
theorem un_r {q m : Nat} (hq : q < 6) (hm : m < 6) : (nI q + nI m) - (nI q + nI m) / (6 : Int32) * (6 : Int32) = nI ((q + m) % 6) := by
  rw [nI_add]
  exact (by decide : ∀ a, a < 12 → nI a - nI a / (6 : Int32) * (6 : Int32) = nI (a % 6)) (q + m) (by omega)
def stF (s : Nat → Int32) (k : Nat) : Nat → Int32 := upd (upd s (16 + k) 0) (20 + k) 0
theorem upd_comm {f : Nat → Int32} {i j : Nat} {x y : Int32} (h : i ≠ j) : upd (upd f i x) j y = upd (upd f j y) i x := by
  funext k
  unfold upd
  by_cases h1 : k = j
  · by_cases h2 : k = i
    · exact absurd (h2.symm.trans h1) h
    · rw [if_pos h1, if_neg h2, if_pos h1]
  · by_cases h2 : k = i
    · rw [if_neg h1, if_pos h2, if_pos h2]
    · rw [if_neg h1, if_neg h2, if_neg h2, if_neg h1]
theorem Vs_st {s : Nat → Int32} {H k : Nat} (hV : Vs s H) (hk : k < 4) : Vs (stF s k) H := by
  have o : ∀ j, j ≠ 16 + k → j ≠ 20 + k → stF s k j = s j := fun j h1 h2 => by unfold stF; rw [upd_ne h2, upd_ne h1]
  refine Vs_lo hV (fun i hi => ?_) (fun j hj => o j (by omega) (by omega))
  have h := hV.1 i hi
  unfold okk at h ⊢
  rw [o _ (by omega) (by omega), o _ (by omega) (by omega), o _ (by omega) (by omega), o _ (by omega) (by omega)]
  by_cases e : i = k
  · subst e
    have e16 : stF s i (16 + i) = 0 := by unfold stF; rw [upd_ne (by omega), upd_at]
    have e20 : stF s i (20 + i) = 0 := by unfold stF; rw [upd_at]
    rw [e16, e20]
    obtain ⟨a, b, c, d, -, -, -⟩ := h
    exact ⟨a, b, c, d, by decide, fun z => absurd z (by decide), by decide⟩
  · rw [o _ (by omega) (by omega), o _ (by omega) (by omega)]
    exact h

/-- the row of an hour that has gone by -/
def rowOK (s : Nat → Int32) (h : Nat) : Prop := 0 ≤ (s (88 + 6 * h + 0)).toInt ∧ 0 ≤ (s (88 + 6 * h + 1)).toInt ∧ (s (88 + 6 * h + 1) = 0 ∨ (s (88 + 6 * h + 4) = 0 ∧ s (88 + 6 * h + 2) = 0 ∧ s (88 + 6 * h + 3) = 0))
def Xk (s : Nat → Int32) (H k : Nat) : Prop := (s (16 + k) ≠ 1 → s (20 + k) = 0) ∧ (s (20 + k)).toInt ≤ (s (12 + k)).toInt ∧ -1000 ≤ (s (28 + k)).toInt ∧ (s (28 + k)).toInt ≤ H
def Xs (s : Nat → Int32) (H : Nat) : Prop := (∀ k, k < 4 → Xk s H k) ∧ ∀ h, h < H → rowOK s h
theorem rowOK_c {s w : Nat → Int32} {h : Nat} (hw : ∀ i, i < 6 → w (88 + 6 * h + i) = s (88 + 6 * h + i)) (r : rowOK s h) : rowOK w h := by
  unfold rowOK at r ⊢
  rw [hw 0 (by decide), hw 1 (by decide), hw 2 (by decide), hw 3 (by decide), hw 4 (by decide)]
  exact r
/-- the sets may change, all else is as it was -/
theorem Xs_mk {s w : Nat → Int32} {H : Nat} (hX : Xs s H) (hk : ∀ k, k < 4 → Xk w H k) (hw : ∀ j, 88 ≤ j → w j = s j) : Xs w H :=
  ⟨hk, fun h hh => rowOK_c (fun i _ => hw _ (by omega)) (hX.2 h hh)⟩
theorem Xk_c {s w : Nat → Int32} {H k : Nat} (h12 : w (12 + k) = s (12 + k)) (h16 : w (16 + k) = s (16 + k)) (h20 : w (20 + k) = s (20 + k)) (h28 : w (28 + k) = s (28 + k)) (h : Xk s H k) : Xk w H k := by
  unfold Xk at h ⊢
  rw [h12, h16, h20, h28]
  exact h
theorem Xs_up {s : Nat → Int32} {H i : Nat} {x : Int32} (hX : Xs s H) (h1 : 32 ≤ i) (h2 : i < 88) : Xs (upd s i x) H :=
  Xs_mk hX (fun k hk => Xk_c (upd_ne (by omega)) (upd_ne (by omega)) (upd_ne (by omega)) (upd_ne (by omega)) (hX.1 k hk)) (fun j hj => upd_ne (by omega))
theorem Xs_rate {s : Nat → Int32} {H k : Nat} {g l e w : Int32} (hX : Xs s H) (hk : k < 4) (hp : s (16 + k) = 0) (hw : 0 ≤ w) : Xs (rtF s k g l e w) H := by
  refine Xs_mk hX (fun i hi => ?_) (fun j hj => rtF_o (by omega) (by omega) (by omega) (by omega))
  have h := hX.1 i hi
  by_cases q : i = k
  · subst q
    unfold Xk at h ⊢
    rw [show rtF s i g l e w (12 + i) = w by unfold rtF; rw [upd_at], rtF_o (by omega) (by omega) (by omega) (by omega), rtF_o (by omega) (by omega) (by omega) (by omega), rtF_o (by omega) (by omega) (by omega) (by omega)]
    have z := h.1 (by rw [hp]; decide)
    have hw' : (0 : Int32).toInt ≤ w.toInt := Int32.le_iff_toInt_le.mp hw
    exact ⟨h.1, by rw [z]; exact hw', h.2.2⟩
  · exact Xk_c (rtF_o (by omega) (by omega) (by omega) (by omega)) (rtF_o (by omega) (by omega) (by omega) (by omega)) (rtF_o (by omega) (by omega) (by omega) (by omega)) (rtF_o (by omega) (by omega) (by omega) (by omega)) h
theorem Xs_bg {s : Nat → Int32} {H k : Nat} (hX : Xs s H) (hk : k < 4) : Xs (bgF s k) H := by
  refine Xs_mk hX (fun i hi => ?_) (fun j hj => bgF_o (by omega) (by omega))
  have h := hX.1 i hi
  by_cases q : i = k
  · subst q
    unfold Xk at h ⊢
    rw [bgF_16, bgF_20, bgF_o (by omega) (by omega), bgF_o (by omega) (by omega)]
    refine ⟨fun z => ?_, Int.le_refl _, h.2.2⟩
    by_cases e : s (12 + i) = 0
    · exact e
    · rw [if_neg e] at z
      exact absurd rfl z
  · exact Xk_c (bgF_o (by omega) (by omega)) (bgF_o (by omega) (by omega)) (bgF_o (by omega) (by omega)) (bgF_o (by omega) (by omega)) h
theorem stF_o {s : Nat → Int32} {k j : Nat} (h1 : j ≠ 16 + k) (h2 : j ≠ 20 + k) : stF s k j = s j := by unfold stF; rw [upd_ne h2, upd_ne h1]
theorem Xs_st {s : Nat → Int32} {H k : Nat} (hV : Vs s H) (hX : Xs s H) (hk : k < 4) : Xs (stF s k) H := by
  refine Xs_mk hX (fun i hi => ?_) (fun j hj => stF_o (by omega) (by omega))
  have h := hX.1 i hi
  by_cases q : i = k
  · subst q
    have e20 : stF s i (20 + i) = 0 := by unfold stF; rw [upd_at]
    unfold Xk at h ⊢
    rw [e20, show stF s i (12 + i) = s (12 + i) from stF_o (by omega) (by omega), show stF s i (28 + i) = s (28 + i) from stF_o (by omega) (by omega)]
    exact ⟨fun _ => rfl, (hV.1 i hi).2.2.2.1.1, h.2.2⟩
  · exact Xk_c (stF_o (by omega) (by omega)) (stF_o (by omega) (by omega)) (stF_o (by omega) (by omega)) (stF_o (by omega) (by omega)) h
theorem Xs_lo {s : Nat → Int32} {H k : Nat} (hV : Vs s H) (hX : Xs s H) (hk : k < 4) : Xs (loF s k) H := by
  refine Xs_mk hX (fun i hi => ?_) (fun j hj => loF_o (by omega) (by omega))
  have h := hX.1 i hi
  by_cases q : i = k
  · subst q
    have e20 : loF s i (20 + i) = 0 := by unfold loF; rw [upd_ne (by omega), upd_at]
    unfold Xk at h ⊢
    rw [e20, show loF s i (12 + i) = s (12 + i) from loF_o (by omega) (by omega), show loF s i (28 + i) = s (28 + i) from loF_o (by omega) (by omega)]
    exact ⟨fun _ => rfl, (hV.1 i hi).2.2.2.1.1, h.2.2⟩
  · exact Xk_c (loF_o (by omega) (by omega)) (loF_o (by omega) (by omega)) (loF_o (by omega) (by omega)) (loF_o (by omega) (by omega)) h
theorem Xk_go {s w : Nat → Int32} {H k : Nat} (hk : okk s k) (h : Xk s H k) (hH : H < 48) (h12 : w (12 + k) = s (12 + k)) (h16 : w (16 + k) = if s (16 + k) = 1 then (if s (20 + k) - 1 = 0 then 2 else 1) else s (16 + k)) (h20 : w (20 + k) = if s (16 + k) = 1 then s (20 + k) - 1 else s (20 + k)) {b : Int32} (hb : b = 0 ∨ b = 1) (h28 : w (28 + k) = s (28 + k) + b) : Xk w (H + 1) k := by
  unfold Xk at h ⊢
  obtain ⟨x1, x2, x3, x4⟩ := h
  obtain ⟨-, -, -, -, -, k6, k7⟩ := hk
  rw [h12, h16, h20, h28]
  have t1 : (1 : Int32).toInt = 1 := rfl
  refine ⟨?_, ?_, ?_⟩
  · by_cases e : s (16 + k) = 1
    · rw [if_pos e, if_pos e]
      by_cases e2 : s (20 + k) - 1 = 0
      · exact fun _ => e2
      · rw [if_neg e2]
        exact fun z => absurd rfl z
    · rw [if_neg e, if_neg e]
      exact x1
  · by_cases e : s (16 + k) = 1
    · rw [if_pos e]
      have p := Int32.lt_iff_toInt_lt.mp (k6 e)
      rw [t0] at p
      have d : (s (20 + k) - 1).toInt = (s (20 + k)).toInt - (1 : Int32).toInt := i_sub (by omega) (by omega)
      omega
    · rw [if_neg e]
      exact x2
  · have d : (s (28 + k) + b).toInt = (s (28 + k)).toInt + b.toInt := by
      rcases hb with e | e <;> subst e
      · exact i_add (by rw [t0]; omega) (by rw [t0]; omega)
      · exact i_add (by rw [t1]; omega) (by rw [t1]; omega)
    rcases hb with e | e <;> subst e
    · rw [t0] at d
      omega
    · rw [t1] at d
      omega
theorem Xs_go {s : Nat → Int32} {H : Nat} (hV : Vs s H) (hX : Xs s H) (hH : H < 48) : Xs (goN s) (H + 1) := by
  have h34 := Vs_34 hV
  have lo : ∀ j, j < 24 → goN s j = wuF s j := fun j hj => gN_o h34 hH (Or.inl hj) (Or.inl (by omega)) (by omega) (by omega) (Or.inl (by omega))
  have w12 : ∀ k, k < 4 → wuF s (12 + k) = s (12 + k) := fun k hk => wuF_o (Or.inl (by omega))
  have b01 : ∀ k : Int32, (if hs (gMask s) k = true then (1 : Int32) else 0) = 0 ∨ (if hs (gMask s) k = true then (1 : Int32) else 0) = 1 := by
    intro k
    cases hs (gMask s) k
    · exact Or.inl rfl
    · exact Or.inr rfl
  refine ⟨fun k hk => ?_, fun h hh => ?_⟩
  · have q := hX.1 k hk
    have o := hV.1 k hk
    rcases (show k = 0 ∨ k = 1 ∨ k = 2 ∨ k = 3 by omega) with e | e | e | e <;> subst e
    · exact Xk_go o q hH ((lo 12 (by decide)).trans (w12 0 hk)) ((lo 16 (by decide)).trans wuF_p0) ((lo 20 (by decide)).trans wuF_q0) (b01 0) (gN_b0 h34 hH)
    · exact Xk_go o q hH ((lo 13 (by decide)).trans (w12 1 hk)) ((lo 17 (by decide)).trans wuF_p1) ((lo 21 (by decide)).trans wuF_q1) (b01 1) (gN_b1 h34 hH)
    · exact Xk_go o q hH ((lo 14 (by decide)).trans (w12 2 hk)) ((lo 18 (by decide)).trans wuF_p2) ((lo 22 (by decide)).trans wuF_q2) (b01 2) (gN_b2 h34 hH)
    · exact Xk_go o q hH ((lo 15 (by decide)).trans (w12 3 hk)) ((lo 19 (by decide)).trans wuF_p3) ((lo 23 (by decide)).trans wuF_q3) (b01 3) (gN_b3 h34 hH)
  · by_cases e : h = H
    · subst e
      have hA := Vs_gAll hV hH
      have hok := okk_wu hV.1
      have hm : gMask s ∈ m16 := mkF_m _ _
      unfold rowOK
      rw [gN_r0 h34 hH, gN_r1 h34 hH, gN_r2 h34 hH, gN_r3 h34 hH, gN_r4 h34 hH]
      obtain ⟨-, -, -, q4, -, -⟩ := sh_loads hok hm hA
      refine ⟨hA.1, q4.1, ?_⟩
      rcases sh_row hok hm hA with z | ⟨z1, z2, z3⟩
      · exact Or.inl z
      · exact Or.inr ⟨if_pos z1, z2, z3⟩
    · exact rowOK_c (fun i hi => gN_row h34 hH e hi) (hX.2 h (by omega))
theorem Xs_goM : ∀ (n : Nat) {s : Nat → Int32} {H : Nat}, Vs s H → Xs s H → H + n ≤ 48 → Xs (goM n s) (H + n)
  | 0, s, H, _, hX, _ => hX
  | n + 1, s, H, hV, hX, hn => by
    have q := Xs_goM n (Vs_go hV (by omega)) (Xs_go hV hX (by omega)) (by omega)
    rw [show H + 1 + n = H + (n + 1) by omega] at q
    exact q
theorem spo_goM : ∀ (n : Nat) {s : Nat → Int32} {H : Nat}, Vs s H → H + n ≤ 48 → s 36 = 1 → goM n s 36 = 1
  | 0, s, H, _, _, h => h
  | n + 1, s, H, hV, hn, h => by
    refine spo_goM n (Vs_go hV (by omega)) (by omega) ?_
    rw [gN_36 (Vs_34 hV) (by omega), h]
    split <;> rfl
/-- rows of hours that have gone by stay -/
theorem row_goM : ∀ (n : Nat) {s : Nat → Int32} {H : Nat}, Vs s H → H + n ≤ 48 → ∀ h, h < H → ∀ i, i < 6 → goM n s (88 + 6 * h + i) = s (88 + 6 * h + i)
  | 0, s, H, _, _, _, _, _, _ => rfl
  | n + 1, s, H, hV, hn, h, hh, i, hi => (row_goM n (Vs_go hV (by omega)) (by omega) h (by omega) i hi).trans (gN_row (Vs_34 hV) (by omega) (by omega) hi)
