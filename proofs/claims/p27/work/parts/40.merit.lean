/-! PURE: what sharing by merits brings -/
def chp (mer : Nat → Int32) (k j : Nat) : Prop := (mer k).toInt < (mer j).toInt ∨ ((mer k).toInt = (mer j).toInt ∧ k < j)
def okc (mer : Nat → Int32) (w : Int32) (i : Nat) (f : Int32) : Prop := (f = -1 ∧ ∀ k, k ∈ k4 → k.toNatClampNeg < i → hs w k = false) ∨ (f ∈ k4 ∧ f.toNatClampNeg < i ∧ ∀ k, k ∈ k4 → k.toNatClampNeg < i → hs w k = true → ¬ chp mer k.toNatClampNeg f.toNatClampNeg)
theorem okc_s {mer : Nat → Int32} {w x f : Int32} {i : Nat} (hx : x ∈ k4) (hi : x.toNatClampNeg = i) (h : okc mer w i f) : okc mer w (i + 1) (chS mer w x f) := by
  have old : ∀ k, k ∈ k4 → k.toNatClampNeg < i + 1 → k.toNatClampNeg < i ∨ k = x := by
    intro k hk hl
    by_cases e : k.toNatClampNeg < i
    · exact Or.inl e
    · exact Or.inr (k4_inj hk hx (by omega))
  unfold chS
  by_cases hc : hs w x = true ∧ (f = -1 ∨ mer x.toNatClampNeg < mer f.toNatClampNeg)
  · rw [if_pos hc]
    refine Or.inr ⟨hx, by omega, fun k hk hl hh => ?_⟩
    rcases old k hk hl with e | e
    · rcases h with ⟨h1, h2⟩ | ⟨h1, h2, h3⟩
      · rw [h2 k hk e] at hh; cases hh
      · have q := h3 k hk e hh
        rcases hc.2 with z | z
        · subst z; exact absurd h1 (by decide)
        · have z' := Int32.lt_iff_toInt_lt.mp z
          unfold chp at q ⊢
          omega
    · subst e
      unfold chp
      omega
  · rw [if_neg hc]
    rcases h with ⟨h1, h2⟩ | ⟨h1, h2, h3⟩
    · refine Or.inl ⟨h1, fun k hk hl => ?_⟩
      rcases old k hk hl with e | e
      · exact h2 k hk e
      · subst e
        cases q : hs w k with
        | false => rfl
        | true => exact absurd ⟨q, Or.inl h1⟩ hc
    · refine Or.inr ⟨h1, by omega, fun k hk hl hh => ?_⟩
      rcases old k hk hl with e | e
      · exact h3 k hk e hh
      · subst e
        have z : ¬ mer k.toNatClampNeg < mer f.toNatClampNeg := fun z => hc ⟨hh, Or.inr z⟩
        have z' := mt Int32.lt_iff_toInt_lt.mpr z
        unfold chp
        omega
theorem chF_min {mer : Nat → Int32} {w k : Int32} (hk : k ∈ k4) (hh : hs w k = true) : ¬ chp mer k.toNatClampNeg (chF mer w).toNatClampNeg := by
  have h : okc mer w 4 (chF mer w) := okc_s (i := 3) (by decide) (by decide) (okc_s (i := 2) (by decide) (by decide) (okc_s (i := 1) (by decide) (by decide) (okc_s (i := 0) (by decide) (by decide) (Or.inl ⟨rfl, fun k _ h => absurd h (by omega)⟩))))
  rcases h with ⟨h1, h2⟩ | ⟨-, -, h3⟩
  · rw [h2 k hk (k4_lt hk)] at hh; cases hh
  · exact h3 k hk (k4_lt hk) hh
theorem popc_pos {w k : Int32} (hk : k ∈ k4) (hh : hs w k = true) : 0 < popc w := by
  unfold popc
  have h : k = 0 ∨ k = 1 ∨ k = 2 ∨ k = 3 := by
    unfold k4 at hk
    simpa using hk
  rcases h with e | e | e | e <;> subst e <;> rw [if_pos hh] <;> omega
theorem hs_0 {k : Int32} (hk : k ∈ k4) : hs 0 k = false := by
  have q : k4.all (fun k => !(hs 0 k)) = true := by decide +kernel
  have q2 := List.all_eq_true.mp q k hk
  simpa using q2
/-- all that giving by merits leaves -/
theorem gv_all {g mer : Nat → Int32} : ∀ (n : Nat) (rest left : Int32) (ld : Nat → Int32), rest ∈ m16 → popc rest ≤ n → 0 ≤ left.toInt → left.toInt ≤ 2000 → (∀ k, k ∈ k4 → hs rest k = true → 0 ≤ (ld k.toNatClampNeg).toInt ∧ (ld k.toNatClampNeg).toInt ≤ (g k.toNatClampNeg).toInt ∧ (g k.toNatClampNeg).toInt ≤ 500) →
    (∀ k, k ∈ k4 → hs rest k = true → (ld k.toNatClampNeg).toInt ≤ ((gv g mer n rest left ld).1 k.toNatClampNeg).toInt ∧ ((gv g mer n rest left ld).1 k.toNatClampNeg).toInt ≤ (g k.toNatClampNeg).toInt) ∧
    (0 ≤ (gv g mer n rest left ld).2.toInt ∧ (gv g mer n rest left ld).2.toInt ≤ left.toInt) ∧
    (0 < (gv g mer n rest left ld).2.toInt → ∀ k, k ∈ k4 → hs rest k = true → ((gv g mer n rest left ld).1 k.toNatClampNeg).toInt = (g k.toNatClampNeg).toInt) ∧
    (∀ k j, k ∈ k4 → j ∈ k4 → hs rest k = true → hs rest j = true → chp mer k.toNatClampNeg j.toNatClampNeg → (gv g mer n rest left ld).1 j.toNatClampNeg = ld j.toNatClampNeg ∨ ((gv g mer n rest left ld).1 k.toNatClampNeg).toInt = (g k.toNatClampNeg).toInt) := by
  intro n
  induction n with
  | zero =>
    intro rest left ld hr hp h0 h1 hb
    have no : ∀ k, k ∈ k4 → hs rest k = true → False := fun k hk hh => by
      have := popc_pos hk hh
      omega
    refine ⟨fun k hk hh => absurd (no k hk hh) (fun q => q), ⟨h0, Int.le_refl _⟩, fun _ k hk hh => absurd (no k hk hh) (fun q => q), fun k j hk _ hh _ _ => absurd (no k hk hh) (fun q => q)⟩
  | succ n ih =>
    intro rest left ld hr hp h0 h1 hb
    by_cases hz : 0 < rest
    · obtain ⟨q1, q2⟩ := chF_in (mer := mer) hr hz
      have hc := k4_of q2
      obtain ⟨b1, b2, b3, b4⟩ := m16_b hr hc q1
      rw [gv_k hz rfl]
      have hmin := fun k hk hh => chF_min (mer := mer) (w := rest) (k := k) hk hh
      generalize chF mer rest = c at *
      obtain ⟨c1, c2, c3⟩ := hb c hc q1
      have hd : (g c.toNatClampNeg - ld c.toNatClampNeg).toInt = (g c.toNatClampNeg).toInt - (ld c.toNatClampNeg).toInt := i_sub (by omega) (by omega)
      have hgv : ∃ w : Int32, (if left ≤ g c.toNatClampNeg - ld c.toNatClampNeg then left else g c.toNatClampNeg - ld c.toNatClampNeg) = w ∧ 0 ≤ w.toInt ∧ w.toInt ≤ left.toInt ∧ w.toInt ≤ (g c.toNatClampNeg).toInt - (ld c.toNatClampNeg).toInt ∧ (w.toInt = (g c.toNatClampNeg).toInt - (ld c.toNatClampNeg).toInt ∨ w = left) := by
        refine ⟨_, rfl, ?_⟩
        by_cases e : left ≤ g c.toNatClampNeg - ld c.toNatClampNeg
        · rw [if_pos e]
          have e' := Int32.le_iff_toInt_le.mp e
          exact ⟨h0, Int.le_refl _, by omega, Or.inr rfl⟩
        · rw [if_neg e]
          have e' := mt Int32.le_iff_toInt_le.mpr e
          exact ⟨by omega, by omega, by omega, Or.inl hd⟩
      obtain ⟨w, hw, w0, w1, w2, w3⟩ := hgv
      rw [hw]
      have hlw : (left - w).toInt = left.toInt - w.toInt := i_sub (by omega) (by omega)
      have hlc : (ld c.toNatClampNeg + w).toInt = (ld c.toNatClampNeg).toInt + w.toInt := i_add (by omega) (by omega)
      have hne : ∀ k, k ∈ k4 → hs (rest - (1 <<< (c &&& 31))) k = true → k ≠ c ∧ hs rest k = true ∧ upd ld c.toNatClampNeg (ld c.toNatClampNeg + w) k.toNatClampNeg = ld k.toNatClampNeg := by
        intro k hk hh
        rw [b4 k hk] at hh
        obtain ⟨g1, g2⟩ := Bool.and_eq_true_iff.mp hh
        have g3 := of_decide_eq_true g2
        exact ⟨g3, g1, if_neg (fun e => g3 (k4_inj hk hc e))⟩
      have hin : ∀ k, k ∈ k4 → hs rest k = true → k ≠ c → hs (rest - (1 <<< (c &&& 31))) k = true := by
        intro k hk hh hkc
        rw [b4 k hk, hh, decide_eq_true hkc]
        rfl
      have hcc : hs (rest - (1 <<< (c &&& 31))) c = false := by
        rw [b4 c hc, q1]
        simp
      have hun := gv_un (g := g) (mer := mer) hc n (rest - (1 <<< (c &&& 31))) (left - w) (upd ld c.toNatClampNeg (ld c.toNatClampNeg + w)) b2 hcc
      have hun2 : (gv g mer n (rest - (1 <<< (c &&& 31))) (left - w) (upd ld c.toNatClampNeg (ld c.toNatClampNeg + w))).1 c.toNatClampNeg = ld c.toNatClampNeg + w := hun.trans (if_pos rfl)
      have hz0 : w = left → gv g mer n (rest - (1 <<< (c &&& 31))) (left - w) (upd ld c.toNatClampNeg (ld c.toNatClampNeg + w)) = (upd ld c.toNatClampNeg (ld c.toNatClampNeg + w), 0) := by
        intro e
        subst e
        rw [Int32.sub_self]
        refine gv_z n _ _ b2 (fun k hk hh => ?_)
        obtain ⟨f1, f2, f3⟩ := hne k hk hh
        obtain ⟨d1, d2, d3⟩ := hb k hk f2
        rw [f3, Int32.le_iff_toInt_le, i_sub (by omega) (by omega)]
        show (0 : Int) ≤ _
        omega
      obtain ⟨i1, i2, i3, i4⟩ := ih (rest - (1 <<< (c &&& 31))) (left - w) (upd ld c.toNatClampNeg (ld c.toNatClampNeg + w)) b2 (by omega) (by omega) (by omega) (fun k hk hh => by
        obtain ⟨f1, f2, f3⟩ := hne k hk hh
        rw [f3]
        exact hb k hk f2)
      generalize hY : gv g mer n (rest - (1 <<< (c &&& 31))) (left - w) (upd ld c.toNatClampNeg (ld c.toNatClampNeg + w)) = Y at *
      refine ⟨fun k hk hh => ?_, ⟨i2.1, by omega⟩, fun hpos k hk hh => ?_, fun k j hk hj hhk hhj hch => ?_⟩
      · by_cases e : k = c
        · subst e
          rw [hun2, hlc]
          omega
        · obtain ⟨f1, f2, f3⟩ := hne k hk (hin k hk hh e)
          have q := i1 k hk (hin k hk hh e)
          rw [f3] at q
          exact q
      · by_cases e : k = c
        · subst e
          rw [hun2, hlc]
          rcases w3 with w3 | w3
          · omega
          · subst w3
            omega
        · exact i3 hpos k hk (hin k hk hh e)
      · by_cases ej : j = c
        · subst ej
          exact absurd hch (hmin k hk hhk)
        · by_cases ek : k = c
          · subst ek
            rcases w3 with w3 | w3
            · right
              rw [hun2, hlc]
              omega
            · left
              rw [hz0 w3]
              exact (hne j hj (hin j hj hhj ej)).2.2
          · rcases i4 k j hk hj (hin k hk hhk ek) (hin j hj hhj ej) hch with q | q
            · left
              rw [q]
              exact (hne j hj (hin j hj hhj ej)).2.2
            · exact Or.inr q
    · have e := m16_0 hr hz
      subst e
      rw [gv_0 hz]
      exact ⟨fun k hk hh => (by rw [hs_0 hk] at hh; cases hh), ⟨h0, Int.le_refl _⟩, fun _ k hk hh => (by rw [hs_0 hk] at hh; cases hh), fun k j hk _ hh _ _ => (by rw [hs_0 hk] at hh; cases hh)⟩
