/-! PURE: the saved islands; rated and lost islands -/
theorem Vs_ext {s w : Nat → Int32} {H : Nat} (h : ∀ j, j < 376 → w j = s j) (hV : Vs s H) : Vs w H := by
  obtain ⟨a, b, c, d, e, f, g, g2, i, j, k⟩ := hV
  have hH := b.2
  refine ⟨fun k hk => okk_s (a k hk) (fun j hj => h j (by omega)) hk, by rw [h 34 (by omega)]; exact b, by rw [h 35 (by omega)]; exact c, by rw [h 36 (by omega)]; exact d, by rw [h 37 (by omega)]; exact e, ?_, by rw [h 32 (by omega)]; exact g, by rw [h 33 (by omega)]; exact g2, ?_, ?_, ?_⟩
  · intro q hq
    rw [h _ (by omega)]; exact f q hq
  · rw [h 38 (by omega), i]; exact dkN_c H (fun q hq => (h _ (by omega)).symm)
  · rw [h 39 (by omega), sfN_c (b := s) H (fun q hq => h _ (by omega))]; exact j
  · intro q hq
    rw [h _ (by omega)]; exact k q hq
/-- the saved islands of the class, a ring from q, are those of the model, from 0 -/
def SI (q m : Nat) (w : Nat → Nat → Int32) (v : Nat → Int32) : Prop := ∀ i, i < m → (∃ H, Vs (w ((q + i) % 6)) H) ∧ ∀ j, j < 376 → w ((q + i) % 6) j = v (376 * i + j)
theorem SI_0 {q : Nat} {w : Nat → Nat → Int32} {v : Nat → Int32} : SI q 0 w v := fun i hi => absurd hi (by omega)
theorem SI_down {q m : Nat} {w : Nat → Nat → Int32} {v : Nat → Int32} (h : SI q (m + 1) w v) : SI q m w v := fun i hi => h i (by omega)
theorem svq_lt {q m : Nat} (hq : q < 6) : svq q m < 6 := by
  unfold svq
  split <;> omega
theorem svm_le {m : Nat} (hm : m ≤ 6) : svm m + 1 ≤ 6 := by
  unfold svm
  split <;> omega
theorem SI_sv {q m H : Nat} {w : Nat → Nat → Int32} {v s : Nat → Int32} (h : SI q m w v) (hq : q < 6) (hm : m ≤ 6) (hV : Vs s H) : SI (svq q m) (svm m + 1) (svV w s q m) (mvV v s m) := by
  intro i hi
  by_cases e : i = svm m
  · subst e
    unfold svV
    rw [setI_eq]
    refine ⟨⟨H, hV⟩, fun j hj => ?_⟩
    unfold mvV put
    rw [if_pos (by omega), show 376 * svm m + j - 376 * svm m = j by omega]
  · have hi' : i < svm m := by omega
    unfold svV
    have f1 := svq_lt (m := m) hq
    have f2 := svm_le hm
    rw [setI_ne (by omega)]
    by_cases e6 : m = 6
    · subst e6
      have e1 : (svq q 6 + i) % 6 = (q + (i + 1)) % 6 := by
        unfold svq
        rw [if_pos rfl]
        omega
      have e5 : svm 6 = 5 := rfl
      rw [e1]
      obtain ⟨h1, h2⟩ := h (i + 1) (by omega)
      refine ⟨h1, fun j hj => ?_⟩
      rw [h2 j hj]
      unfold mvV put
      rw [e5, if_neg (by omega), if_pos rfl]
      unfold shf
      rw [if_pos (by omega), show 376 + (376 * i + j) = 376 * (i + 1) + j by omega]
    · have e1 : svq q m = q := if_neg e6
      have e2 : svm m = m := if_neg e6
      rw [e1]
      rw [e2] at hi'
      obtain ⟨h1, h2⟩ := h i hi'
      refine ⟨h1, fun j hj => ?_⟩
      rw [h2 j hj]
      unfold mvV put
      rw [e2, if_neg (by omega), if_neg e6]
theorem SI_un {q m : Nat} {w : Nat → Nat → Int32} {v s : Nat → Int32} (h : SI q (m + 1) w v) : ∃ H, Vs (gu s v (376 * m) 376) H ∧ ∀ j, j < 376 → w ((q + m) % 6) j = gu s v (376 * m) 376 j := by
  obtain ⟨⟨H, h1⟩, h2⟩ := h m (by omega)
  have e : ∀ j, j < 376 → gu s v (376 * m) 376 j = w ((q + m) % 6) j := by
    intro j hj
    rw [h2 j hj]
    unfold gu
    rw [if_pos hj]
  exact ⟨H, Vs_ext e h1, fun j hj => (e j hj).symm⟩
theorem ge_i {x : Int32} {a : Nat} (ha : a < 2 ^ 31) : nI a ≤ x ↔ (a : Int) ≤ x.toInt := by rw [Int32.le_iff_toInt_le, nI_toInt ha]
theorem le_i {x : Int32} {a : Nat} (ha : a < 2 ^ 31) : x ≤ nI a ↔ x.toInt ≤ (a : Int) := by rw [Int32.le_iff_toInt_le, nI_toInt ha]
/-- an int between two literals is a natural number there -/
theorem bet {x : Int32} {a b : Nat} (h : nI a ≤ x ∧ x ≤ nI b) (ha : a < 2 ^ 31) (hb : b < 2 ^ 31) : ∃ k, x = nI k ∧ a ≤ k ∧ k ≤ b := by
  have h1 := (ge_i ha).mp h.1
  have h2 := (le_i hb).mp h.2
  refine ⟨x.toInt.toNat, ?_, by omega, by omega⟩
  rw [← Int32.toInt_inj, nI_toInt (by omega)]
  omega
def rtF (s : Nat → Int32) (k : Nat) (g l e w : Int32) : Nat → Int32 := upd (upd (upd (upd s k g) (4 + k) l) (8 + k) e) (12 + k) w
theorem rtF_o {s : Nat → Int32} {k j : Nat} {g l e w : Int32} (h0 : j ≠ k) (h1 : j ≠ 4 + k) (h2 : j ≠ 8 + k) (h3 : j ≠ 12 + k) : rtF s k g l e w j = s j := by
  unfold rtF
  rw [upd_ne h3, upd_ne h2, upd_ne h1, upd_ne h0]
theorem Vs_rate {s : Nat → Int32} {H k : Nat} {g l e w : Int32} (hV : Vs s H) (hk : k < 4) (hg : 50 ≤ g ∧ g ≤ 500) (hl : 0 ≤ l ∧ l ≤ g) (he : 1 ≤ e ∧ e ≤ 99) (hw : 0 ≤ w ∧ w ≤ 4) : Vs (rtF s k g l e w) H := by
  refine Vs_lo hV (fun i hi => ?_) (fun j hj => rtF_o (by omega) (by omega) (by omega) (by omega))
  have h := hV.1 i hi
  by_cases q : i = k
  · subst q
    unfold okk at h ⊢
    rw [show rtF s i g l e w i = g by unfold rtF; rw [upd_ne (by omega), upd_ne (by omega), upd_ne (by omega), upd_at], show rtF s i g l e w (4 + i) = l by unfold rtF; rw [upd_ne (by omega), upd_ne (by omega), upd_at], show rtF s i g l e w (8 + i) = e by unfold rtF; rw [upd_ne (by omega), upd_at], show rtF s i g l e w (12 + i) = w by unfold rtF; rw [upd_at], rtF_o (by omega) (by omega) (by omega) (by omega), rtF_o (by omega) (by omega) (by omega) (by omega)]
    obtain ⟨-, -, -, -, x⟩ := h
    exact ⟨⟨(ge_i (a := 50) (by decide)).mp hg.1, (le_i (a := 500) (by decide)).mp hg.2⟩, ⟨(ge_i (a := 0) (by decide)).mp hl.1, Int32.le_iff_toInt_le.mp hl.2⟩, ⟨(ge_i (a := 1) (by decide)).mp he.1, (le_i (a := 99) (by decide)).mp he.2⟩, ⟨(ge_i (a := 0) (by decide)).mp hw.1, (le_i (a := 4) (by decide)).mp hw.2⟩, x⟩
  · unfold okk at h ⊢
    rw [rtF_o (by omega) (by omega) (by omega) (by omega), rtF_o (by omega) (by omega) (by omega) (by omega), rtF_o (by omega) (by omega) (by omega) (by omega), rtF_o (by omega) (by omega) (by omega) (by omega), rtF_o (by omega) (by omega) (by omega) (by omega), rtF_o (by omega) (by omega) (by omega) (by omega)]
    exact h
def loF (s : Nat → Int32) (k : Nat) : Nat → Int32 := upd (upd s (20 + k) 0) (16 + k) (if s (16 + k) = 3 then 0 else 3)
theorem loF_o {s : Nat → Int32} {k j : Nat} (h0 : j ≠ 16 + k) (h1 : j ≠ 20 + k) : loF s k j = s j := by
  unfold loF
  rw [upd_ne h0, upd_ne h1]
theorem Vs_lose {s : Nat → Int32} {H k : Nat} (hV : Vs s H) (hk : k < 4) : Vs (loF s k) H := by
  refine Vs_lo hV (fun i hi => ?_) (fun j hj => loF_o (by omega) (by omega))
  have h := hV.1 i hi
  unfold okk at h ⊢
  rw [loF_o (by omega) (by omega), loF_o (by omega) (by omega), loF_o (by omega) (by omega), loF_o (by omega) (by omega)]
  by_cases q : i = k
  · subst q
    rw [show loF s i (16 + i) = (if s (16 + i) = 3 then 0 else 3) from upd_at, show loF s i (20 + i) = 0 by unfold loF; rw [upd_ne (by omega), upd_at]]
    obtain ⟨a, b, c, d, -⟩ := h
    refine ⟨a, b, c, d, ?_, ?_, by decide⟩
    · split <;> decide
    · intro z
      split at z <;> exact absurd z (by decide)
  · rw [loF_o (by omega) (by omega), loF_o (by omega) (by omega)]
    exact h
/-- the slot of the ring that the class's undo reads -/
theorem un_r {q m : Nat} (hq : q < 6) (hm : m < 6) : (nI q + nI m) - (nI q + nI m) / (6 : Int32) * (6 : Int32) = nI ((q + m) % 6) := by
  rw [nI_add]
  exact (by decide : ∀ a, a < 12 → nI a - nI a / (6 : Int32) * (6 : Int32) = nI (a % 6)) (q + m) (by omega)
theorem dc_1 : Op.cmpValue (FP.dcmp one64 one64) .l = 0 := by decide +kernel
theorem dc_s : ∀ b, b < 49 → ∀ a, a < 49 → 0 < b → a ≤ b → Op.cmpValue (FP.dcmp (shV a b) (shV a b)) .l = 0 := by decide +kernel
theorem dc_share {s : Nat → Int32} {H a : Nat} (hH : H ≤ 48) (haH : a ≤ H) : Op.cmpValue (FP.dcmp (shareV s H a) (shareV s H a)) .l = 0 := by
  unfold shareV
  by_cases e : H = 0
  · rw [if_pos e]; exact dc_1
  · rw [if_neg e]; exact dc_s H (by omega) a (by omega) (by omega) haH
