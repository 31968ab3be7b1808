/-! PURE: what the law's third check asks -/
def dkG (s : Nat → Int32) (H : Nat) : Int32 := dkN (goM (48 - H) s) (H + (48 - H)) - dkN s H
section IF
variable {s Z : Nat → Int32} {H k : Nat}
theorem dk_1 {n : Nat} : dkN Z (n + 1) = dkN Z n + (if 0 < Z (88 + 6 * n + 1) then 1 else 0) := rfl
theorem dk_B : ∀ n : Nat, n ≤ 48 → 0 ≤ (dkN Z n).toInt ∧ (dkN Z n).toInt ≤ n
  | 0, _ => by
    show 0 ≤ (0 : Int32).toInt ∧ (0 : Int32).toInt ≤ ((0 : Nat) : Int)
    decide
  | n + 1, hn => by
    obtain ⟨a, b⟩ := dk_B n (by omega)
    have t1 : (1 : Int32).toInt = 1 := rfl
    rw [dk_1]
    split
    · rw [i_add (by rw [t1]; omega) (by rw [t1]; omega), t1]; omega
    · rw [i_add (by rw [t0]; omega) (by rw [t0]; omega), t0]; omega
theorem dk_D : ∀ (e n : Nat), n + e ≤ 48 → (∀ g, n ≤ g → g < n + e → ¬ 0 < Z (88 + 6 * g + 1)) → dkN Z (n + e) = dkN Z n
  | 0, _, _, _ => rfl
  | e + 1, n, hn, h => by
    rw [show n + (e + 1) = n + e + 1 by omega, dk_1, if_neg (h (n + e) (by omega) (by omega)), Int32.add_zero]
    exact dk_D e n (by omega) (fun g h1 h2 => h g h1 (by omega))
theorem dk_P : ∀ (e n : Nat), n + e ≤ 48 → (dkN Z n).toInt ≤ (dkN Z (n + e)).toInt ∧ ∀ g, n ≤ g → g < n + e → 0 < Z (88 + 6 * g + 1) → (dkN Z n).toInt < (dkN Z (n + e)).toInt
  | 0, n, _ => ⟨Int.le_refl _, fun g h1 h2 => absurd h2 (by omega)⟩
  | e + 1, n, hn => by
    obtain ⟨a, b⟩ := dk_P e n (by omega)
    obtain ⟨c, d⟩ := dk_B (Z := Z) (n + e) (by omega)
    have t1 : (1 : Int32).toInt = 1 := rfl
    have key : (dkN Z (n + (e + 1))).toInt = (dkN Z (n + e)).toInt + (if 0 < Z (88 + 6 * (n + e) + 1) then (1 : Int32) else 0).toInt := by
      rw [show n + (e + 1) = n + e + 1 by omega, dk_1]
      split
      · exact i_add (by rw [t1]; omega) (by rw [t1]; omega)
      · exact i_add (by rw [t0]; omega) (by rw [t0]; omega)
    rw [key]
    refine ⟨?_, fun g h1 h2 h3 => ?_⟩
    · split
      · rw [t1]; omega
      · rw [t0]; omega
    · by_cases eg : g = n + e
      · subst eg
        rw [if_pos h3, t1]
        omega
      · have z := b g h1 (by omega) h3
        split
        · rw [t1]; omega
        · rw [t0]; omega
theorem fd_spec : ∀ (e h : Nat), (fdN Z e h = -1 ∧ ∀ g, h ≤ g → g < h + e → ¬ 0 < Z (88 + 6 * g + 1)) ∨ (∃ g, h ≤ g ∧ g < h + e ∧ fdN Z e h = nI g ∧ 0 < Z (88 + 6 * g + 1) ∧ ∀ j, h ≤ j → j < g → ¬ 0 < Z (88 + 6 * j + 1))
  | 0, h => Or.inl ⟨rfl, fun g h1 h2 => absurd h2 (by omega)⟩
  | e + 1, h => by
    have key : fdN Z (e + 1) h = if 0 < Z (88 + 6 * h + 1) then nI h else fdN Z e (h + 1) := rfl
    by_cases hz : 0 < Z (88 + 6 * h + 1)
    · right
      exact ⟨h, Nat.le_refl _, by omega, by rw [key, if_pos hz], hz, fun j h1 h2 => absurd h2 (by omega)⟩
    · rw [key, if_neg hz]
      rcases fd_spec e (h + 1) with ⟨a, b⟩ | ⟨g, a, b, c, d, f⟩
      · left
        refine ⟨a, fun g h1 h2 => ?_⟩
        by_cases eg : g = h
        · subst eg; exact hz
        · exact b g (by omega) (by omega)
      · right
        refine ⟨g, by omega, by omega, c, d, fun j h1 h2 => ?_⟩
        by_cases ej : j = h
        · subst ej; exact hz
        · exact f j (by omega) h2
theorem dk_c {a b : Nat → Int32} {n : Nat} (h : ∀ j, 88 ≤ j → a j = b j) : dkN a n = dkN b n := dkN_c n (fun q _ => h _ (by omega))
theorem dkG_38 (hV : Vs s H) : dkG s H = goM (48 - H) s 38 - s 38 := by
  have hH := hV.2.1.2
  unfold dkG
  rw [Vs_dk hV, show H + (48 - H) = 48 by omega, Vs_dk (Vs_end hV)]
theorem b38 (hV : Vs s H) : 0 ≤ (s 38).toInt ∧ (s 38).toInt ≤ 48 := by
  have hH := hV.2.1.2
  have z := dk_B (Z := s) H hH
  rw [Vs_dk hV] at z
  exact ⟨z.1, by omega⟩
theorem bZ (hV : Vs s H) : 0 ≤ (goM (48 - H) s 38).toInt ∧ (goM (48 - H) s 38).toInt ≤ 48 := b38 (Vs_end hV)
theorem dkG_I (hV : Vs s H) : (dkG s H).toInt = (goM (48 - H) s 38).toInt - (s 38).toInt := by
  have a := b38 hV
  have b := bZ hV
  rw [dkG_38 hV]
  exact i_sub (by omega) (by omega)
theorem e48 (hH : H ≤ 48) : (48 : Int32) - nI H = nI (48 - H) := by
  rw [← Int32.toInt_inj, i_sub (by rw [nI_toInt (by omega)]; have : (48 : Int32).toInt = 48 := rfl; omega) (by rw [nI_toInt (by omega)]; have : (48 : Int32).toInt = 48 := rfl; omega), nI_toInt (by omega), nI_toInt (by omega)]
  have : (48 : Int32).toInt = 48 := rfl
  omega
/-- the first dark hour -/
theorem fd_ok (hV : Vs s H) (hX : Xs s H) : (fdV s H = -1 ∧ dkG s H = 0) ∨ (∃ g, H ≤ g ∧ g < 48 ∧ fdV s H = nI g ∧ ¬ dkG s H = 0 ∧ 0 < goM (48 - H) s (88 + 6 * g + 1) ∧ ∀ j, H ≤ j → j < g → goM (48 - H) s (88 + 6 * j + 1) = 0) := by
  have hH := hV.2.1.2
  have hE := Vs_end hV
  have e0 : dkN (goM (48 - H) s) H = s 38 := by
    rw [dkN_c H (b := s) (fun h hh => row_goM (48 - H) hV (by omega) h hh 1 (by decide)), Vs_dk hV]
  have e1 : dkN (goM (48 - H) s) (H + (48 - H)) = goM (48 - H) s 38 := by
    rw [show H + (48 - H) = 48 by omega, Vs_dk hE]
  have hX2 : Xs (goM (48 - H) s) 48 := by
    have z := Xs_goM (48 - H) hV hX (by omega)
    rw [show H + (48 - H) = 48 by omega] at z
    exact z
  have hI := dkG_I hV
  unfold fdV
  rcases fd_spec (Z := goM (48 - H) s) (48 - H) H with ⟨a, b⟩ | ⟨g, a, b, c, d, f⟩
  · left
    refine ⟨a, ?_⟩
    have z := dk_D (Z := goM (48 - H) s) (48 - H) H (by omega) b
    rw [dkG_38 hV, ← e1, z, e0, Int32.sub_self]
  · right
    refine ⟨g, a, by omega, c, fun z => ?_, d, fun j h1 h2 => ?_⟩
    · have y := (dk_P (Z := goM (48 - H) s) (48 - H) H (by omega)).2 g a b d
      rw [e0, e1] at y
      rw [z, t0] at hI
      omega
    · have y := f j h1 h2
      have y2 := (hX2.2 j (by omega)).2.1
      rw [Int32.lt_iff_toInt_lt, t0] at y
      rw [← Int32.toInt_inj, t0]
      omega
/-- shedding -/
theorem shd_ok (hV : Vs s H) : dkG (upd s 37 (1 - s 37)) H = dkG s H - (ifsV s H - 100) := by
  rw [dkG_38 (Vs_shed hV), dkG_38 hV, show upd s 37 (1 - s 37) 38 = s 38 from upd_ne (by decide)]
  unfold ifsV
  grind
theorem shd_nn (hV : Vs s H) : ¬ (1 : Int32) - s 37 < 0 := by
  rcases isB_or (Vs_b6 hV) with e | e <;> rw [e] <;> decide
def Ek (s : Nat → Int32) (H k : Nat) : Int32 := goM (48 - H) (bgF s k) 38
def Fk (s : Nat → Int32) (H k : Nat) : Int32 := fulF (goM (48 - H) (bgF s k))
/-- the fold of the best start, behind n sets -/
def BI (s : Nat → Int32) (H n : Nat) (x : Int32 × (Int32 × Int32)) : Prop := (x.2.2 = -1 ∧ x.1 = goM (48 - H) s 38 ∧ ∀ k, k < n → s (16 + k) = 0 → (goM (48 - H) s 38).toInt ≤ (Ek s H k).toInt) ∨
  (∃ b, b < n ∧ s (16 + b) = 0 ∧ x = (Ek s H b, (Fk s H b, nI b)) ∧ (Ek s H b).toInt < (goM (48 - H) s 38).toInt ∧ ∀ k, k < n → s (16 + k) = 0 → (Ek s H b).toInt < (Ek s H k).toInt ∨ ((Ek s H b).toInt = (Ek s H k).toInt ∧ ((Fk s H b).toInt < (Fk s H k).toInt ∨ ((Fk s H b).toInt = (Fk s H k).toInt ∧ b ≤ k))))
theorem nI_m4 {i : Nat} (h : i < 4) : ¬ nI i = -1 := nI_m1 (by omega)
theorem BI_s {n : Nat} {x : Int32 × (Int32 × Int32)} (hn : n < 4) (h : BI s H n x) : BI s H (n + 1) (bsT s H n x) := by
  have key : bsT s H n x = if s (16 + n) = 0 then (if Ek s H n < x.1 ∨ (¬ x.2.2 = -1 ∧ Ek s H n = x.1 ∧ Fk s H n < x.2.1) then (Ek s H n, (Fk s H n, nI n)) else x) else x := rfl
  rw [key]
  by_cases hp : s (16 + n) = 0
  · rw [if_pos hp]
    rcases h with ⟨a, b, c⟩ | ⟨b, b1, b2, b3, b4, b5⟩
    · by_cases hc : Ek s H n < x.1 ∨ (¬ x.2.2 = -1 ∧ Ek s H n = x.1 ∧ Fk s H n < x.2.1)
      · rw [if_pos hc]
        have hlt : (Ek s H n).toInt < (goM (48 - H) s 38).toInt := by
          rcases hc with z | z
          · rw [b] at z
            exact Int32.lt_iff_toInt_lt.mp z
          · exact absurd a z.1
        refine Or.inr ⟨n, by omega, hp, rfl, hlt, fun k hk hk0 => ?_⟩
        by_cases ek : k = n
        · subst ek
          exact Or.inr ⟨rfl, Or.inr ⟨rfl, Nat.le_refl _⟩⟩
        · have y := c k (by omega) hk0
          exact Or.inl (by omega)
      · rw [if_neg hc]
        refine Or.inl ⟨a, b, fun k hk hk0 => ?_⟩
        by_cases ek : k = n
        · subst ek
          have y : ¬ Ek s H k < x.1 := fun z => hc (Or.inl z)
          rw [b, Int32.lt_iff_toInt_lt] at y
          omega
        · exact c k (by omega) hk0
    · subst b3
      dsimp only
      by_cases hc : Ek s H n < Ek s H b ∨ (¬ nI b = -1 ∧ Ek s H n = Ek s H b ∧ Fk s H n < Fk s H b)
      · rw [if_pos hc]
        have hlt : (Ek s H n).toInt < (Ek s H b).toInt ∨ ((Ek s H n).toInt = (Ek s H b).toInt ∧ (Fk s H n).toInt < (Fk s H b).toInt) := by
          rcases hc with z | ⟨-, z1, z2⟩
          · exact Or.inl (Int32.lt_iff_toInt_lt.mp z)
          · exact Or.inr ⟨by rw [z1], Int32.lt_iff_toInt_lt.mp z2⟩
        refine Or.inr ⟨n, by omega, hp, rfl, by omega, fun k hk hk0 => ?_⟩
        by_cases ek : k = n
        · subst ek
          exact Or.inr ⟨rfl, Or.inr ⟨rfl, Nat.le_refl _⟩⟩
        · have y := b5 k (by omega) hk0
          omega
      · rw [if_neg hc]
        have h1 : ¬ (Ek s H n).toInt < (Ek s H b).toInt := fun z => hc (Or.inl (Int32.lt_iff_toInt_lt.mpr z))
        have h2 : ¬ ((Ek s H n).toInt = (Ek s H b).toInt ∧ (Fk s H n).toInt < (Fk s H b).toInt) := fun z => hc (Or.inr ⟨nI_m4 (by omega), Int32.toInt_inj.mp z.1, Int32.lt_iff_toInt_lt.mpr z.2⟩)
        refine Or.inr ⟨b, by omega, b2, rfl, b4, fun k hk hk0 => ?_⟩
        by_cases ek : k = n
        · subst ek
          omega
        · exact b5 k (by omega) hk0
  · rw [if_neg hp]
    rcases h with ⟨a, b, c⟩ | ⟨b, b1, b2, b3, b4, b5⟩
    · refine Or.inl ⟨a, b, fun k hk hk0 => ?_⟩
      by_cases ek : k = n
      · subst ek; exact absurd hk0 hp
      · exact c k (by omega) hk0
    · refine Or.inr ⟨b, by omega, b2, b3, b4, fun k hk hk0 => ?_⟩
      by_cases ek : k = n
      · subst ek; exact absurd hk0 hp
      · exact b5 k (by omega) hk0
theorem bs_ok : (bsV s H = -1 ∧ ∀ k, k < 4 → s (16 + k) = 0 → (goM (48 - H) s 38).toInt ≤ (Ek s H k).toInt) ∨ (∃ b, b < 4 ∧ s (16 + b) = 0 ∧ bsV s H = nI b ∧ (Ek s H b).toInt < (goM (48 - H) s 38).toInt ∧ ∀ k, k < 4 → s (16 + k) = 0 → (Ek s H b).toInt < (Ek s H k).toInt ∨ ((Ek s H b).toInt = (Ek s H k).toInt ∧ ((Fk s H b).toInt < (Fk s H k).toInt ∨ ((Fk s H b).toInt = (Fk s H k).toInt ∧ b ≤ k)))) := by
  have z : BI s H 4 (bsT s H 3 (bsT s H 2 (bsT s H 1 (bsT s H 0 (goM (48 - H) s 38, 0, -1))))) := BI_s (by decide) (BI_s (by decide) (BI_s (by decide) (BI_s (by decide) (Or.inl ⟨rfl, rfl, fun k hk => absurd hk (by omega)⟩))))
  unfold bsV
  rcases z with ⟨a, -, c⟩ | ⟨b, b1, b2, b3, b4, b5⟩
  · exact Or.inl ⟨a, c⟩
  · exact Or.inr ⟨b, b1, b2, by rw [b3], b4, b5⟩
theorem gB_I (hV : Vs s H) (hk : k < 4) : (dkG (bgF s k) H).toInt = (Ek s H k).toInt - (s 38).toInt := by
  have z := dkG_I (Vs_bg hV hk)
  rw [bgF_o (by omega) (by omega)] at z
  exact z
theorem bs_no (hV : Vs s H) (hk : k < 4) (h : (goM (48 - H) s 38).toInt ≤ (Ek s H k).toInt) : ¬ dkG (bgF s k) H < dkG s H := by
  rw [Int32.lt_iff_toInt_lt, gB_I hV hk, dkG_I hV]
  omega
theorem bs_lt (hV : Vs s H) (hk : k < 4) (h : (Ek s H k).toInt < (goM (48 - H) s 38).toInt) : ¬ dkG s H ≤ dkG (bgF s k) H := by
  rw [Int32.le_iff_toInt_le, gB_I hV hk, dkG_I hV]
  omega
end IF
