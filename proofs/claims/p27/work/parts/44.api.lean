/-! THE OBJECT AS THE LAW SEES IT: its island now, and the islands saved last -/
def Rg (v : Nat → Nat → Int32) (p : Nat) : Nat → List (Nat → Int32) → Prop
  | _, [] => True
  | m, a :: r => 0 < m ∧ v ((p + (m - 1)) % 6) = a ∧ Rg v p (m - 1) r
def Wd (s : Nat → Int32) (q : List (Nat → Int32)) (M : Mem) : Prop := ∃ (t : Nat → Int32) (v : Nat → Nat → Int32) (ld sh o cd pl ka kb kc : Nat → Int32) (D : Nat → Nat → Int32) (E : Nat → Int64) (p m : Nat), M = (cm s t v ld sh o cd pl ka kb kc, D, E) ∧ o 3 = nI p ∧ o 4 = nI m ∧ p < 6 ∧ m ≤ 6 ∧ Rg v p m q
theorem Wd_weak {s : Nat → Int32} {q : List (Nat → Int32)} {M : Mem} (h : Wd s q M) : Wd s [] M := by
  obtain ⟨t, v, ld, sh, o, cd, pl, ka, kb, kc, D, E, p, m, e, a, b, c, d, -⟩ := h
  exact ⟨t, v, ld, sh, o, cd, pl, ka, kb, kc, D, E, p, m, e, a, b, c, d, trivial⟩
/-- a call that answers r, whatever else lies there -/
def Cw (xs : Nat → Int32) (L m : Nat) (as : List AV) (s : Nat → Int32) (q : List (Nat → Int32)) (r : AV) (s' : Nat → Int32) (q' : List (Nat → Int32)) : Prop := ∀ M, Wd s q M → ∃ M', z_Mt xs L m as M (.inl (some r)) M' 0 ∧ Wd s' q' M'
theorem Cw_KS {xs : Nat → Int32} {L m : Nat} {as : List AV} {s : Nat → Int32} {q : List (Nat → Int32)} {r : AV} (h : ∀ (v : Nat → Nat → Int32) (o cd pl ka kb kc : Nat → Int32) (D : Nat → Nat → Int32) (E : Nat → Int64), KS xs L s v o cd pl ka kb kc D E m as r) : Cw xs L m as s q r s q := by
  rintro M ⟨t, v, ld, sh, o, cd, pl, ka, kb, kc, D, E, p, m', rfl, a, b, c, d, e⟩
  obtain ⟨t', ld', sh', hM⟩ := h v o cd pl ka kb kc D E t ld sh
  exact ⟨_, hM, t', v, ld', sh', o, cd, pl, ka, kb, kc, D, E, p, m', rfl, a, b, c, d, e⟩
theorem Rg_sv {v : Nat → Nat → Int32} {s : Nat → Int32} {p m : Nat} {q : List (Nat → Int32)} (h : Rg v p m q) (hl : q.length ≤ 1) (hp : p < 6) (hm : m ≤ 6) : Rg (svV v s p m) (svq p m) (svm m + 1) (s :: q) := by
  refine ⟨Nat.succ_pos _, ?_, ?_⟩
  · rw [Nat.add_sub_cancel]
    exact setI_eq
  · rw [Nat.add_sub_cancel]
    cases q with
    | nil => trivial
    | cons a r =>
      cases r with
      | cons b r => simp at hl
      | nil =>
        obtain ⟨h0, h1, -⟩ := h
        unfold svV
        by_cases e : m = 6
        · subst e
          rw [show svq p 6 = (p + 1) % 6 from rfl, show svm 6 = 5 from rfl]
          refine ⟨by decide, ?_, trivial⟩
          rw [setI_ne (by omega), show ((p + 1) % 6 + (5 - 1)) % 6 = (p + (6 - 1)) % 6 by omega]
          exact h1
        · rw [show svq p m = p from if_neg e, show svm m = m from if_neg e]
          refine ⟨h0, ?_, trivial⟩
          rw [setI_ne (by omega)]
          exact h1
theorem Cw_sv {xs : Nat → Int32} {L mm : Nat} {as : List AV} {s s' : Nat → Int32} {q : List (Nat → Int32)} {r : AV} (hl : q.length ≤ 1) (h : ∀ (t : Nat → Int32) (v : Nat → Nat → Int32) (ld sh o cd pl ka kb kc : Nat → Int32) (D : Nat → Nat → Int32) (E : Nat → Int64) (p m : Nat), o 3 = nI p → o 4 = nI m → p < 6 → m ≤ 6 → ∃ ld' sh' : Nat → Int32, z_Mt xs L mm as (cm s t v ld sh o cd pl ka kb kc, D, E) (.inl (some r)) (cm s' t (svV v s p m) ld' sh' (svO o p m) cd pl ka kb kc, D, E) 0) : Cw xs L mm as s q r s' (s :: q) := by
  rintro M ⟨t, v, ld, sh, o, cd, pl, ka, kb, kc, D, E, p, m', rfl, a, b, c, d, e⟩
  obtain ⟨ld', sh', hM⟩ := h t v ld sh o cd pl ka kb kc D E p m' a b c d
  exact ⟨_, hM, t, _, ld', sh', _, cd, pl, ka, kb, kc, D, E, svq p m', svm m' + 1, rfl, rfl, rfl, svq_lt c, svm_le d, Rg_sv e hl c d⟩
section QS
variable {xs : Nat → Int32} {L : Nat} {s : Nat → Int32} {q : List (Nat → Int32)} {H k : Nat}
theorem q_rate (g l e w : Int32) (hV : Vs s H) (hk : k < 4) (hp : s (16 + k) = 0) (hg : 50 ≤ g ∧ g ≤ 500) (hl : 0 ≤ l ∧ l ≤ g) (he : 1 ≤ e ∧ e ≤ 99) (hw : 0 ≤ w ∧ w ≤ 4) (hq : q.length ≤ 1) : Cw xs L m_X4_rate [aR 0 16, aI (nI k), aI g, aI l, aI e, aI w] s q (aI (s k)) (rtF s k g l e w) (s :: q) :=
  Cw_sv hq (fun t v ld sh o cd pl ka kb kc D E p m h3 h4 hp6 hm6 => ⟨ld, sh, by
    rcases (show k = 0 ∨ k = 1 ∨ k = 2 ∨ k = 3 by omega) with z | z | z | z <;> subst z
    · exact c_rate_0 g l e w s t v ld sh o cd pl ka kb kc D E hg hl he hw hp p m h3 h4 hp6 hm6 (Vs_b5 hV) (Vs_b6 hV)
    · exact c_rate_1 g l e w s t v ld sh o cd pl ka kb kc D E hg hl he hw hp p m h3 h4 hp6 hm6 (Vs_b5 hV) (Vs_b6 hV)
    · exact c_rate_2 g l e w s t v ld sh o cd pl ka kb kc D E hg hl he hw hp p m h3 h4 hp6 hm6 (Vs_b5 hV) (Vs_b6 hV)
    · exact c_rate_3 g l e w s t v ld sh o cd pl ka kb kc D E hg hl he hw hp p m h3 h4 hp6 hm6 (Vs_b5 hV) (Vs_b6 hV)⟩)
theorem q_start (hV : Vs s H) (hk : k < 4) (hp : s (16 + k) = 0) (hq : q.length ≤ 1) : Cw xs L m_X4_start [aR 0 16, aI (nI k)] s q (aI (s (12 + k))) (bgF s k) (s :: q) :=
  Cw_sv hq (fun t v ld sh o cd pl ka kb kc D E p m h3 h4 hp6 hm6 => ⟨ld, sh, by
    rcases (show k = 0 ∨ k = 1 ∨ k = 2 ∨ k = 3 by omega) with z | z | z | z <;> subst z
    · exact c_start_0 s t v ld sh o cd pl ka kb kc D E hp p m h3 h4 hp6 hm6 (Vs_b5 hV) (Vs_b6 hV)
    · exact c_start_1 s t v ld sh o cd pl ka kb kc D E hp p m h3 h4 hp6 hm6 (Vs_b5 hV) (Vs_b6 hV)
    · exact c_start_2 s t v ld sh o cd pl ka kb kc D E hp p m h3 h4 hp6 hm6 (Vs_b5 hV) (Vs_b6 hV)
    · exact c_start_3 s t v ld sh o cd pl ka kb kc D E hp p m h3 h4 hp6 hm6 (Vs_b5 hV) (Vs_b6 hV)⟩)
def spF (s : Nat → Int32) (k : Nat) : Nat → Int32 := upd (upd s (20 + k) 0) (16 + k) 0
theorem spF_st {s : Nat → Int32} {k : Nat} : spF s k = stF s k := upd_comm (by omega)
theorem q_stop (hV : Vs s H) (hk : k < 4) (hp : s (16 + k) = 1 ∨ s (16 + k) = 2) (hq : q.length ≤ 1) : Cw xs L m_X4_stop [aR 0 16, aI (nI k)] s q (aI (bcF (mkF (fun j => spF s k (16 + j)) 2))) (spF s k) (s :: q) :=
  Cw_sv hq (fun t v ld sh o cd pl ka kb kc D E p m h3 h4 hp6 hm6 => ⟨ld, sh, by
    rcases (show k = 0 ∨ k = 1 ∨ k = 2 ∨ k = 3 by omega) with z | z | z | z <;> subst z
    · exact c_stop_0 s t v ld sh o cd pl ka kb kc D E hp p m h3 h4 hp6 hm6 (Vs_b5 hV) (Vs_b6 hV)
    · exact c_stop_1 s t v ld sh o cd pl ka kb kc D E hp p m h3 h4 hp6 hm6 (Vs_b5 hV) (Vs_b6 hV)
    · exact c_stop_2 s t v ld sh o cd pl ka kb kc D E hp p m h3 h4 hp6 hm6 (Vs_b5 hV) (Vs_b6 hV)
    · exact c_stop_3 s t v ld sh o cd pl ka kb kc D E hp p m h3 h4 hp6 hm6 (Vs_b5 hV) (Vs_b6 hV)⟩)
theorem q_lose (hV : Vs s H) (hk : k < 4) (hq : q.length ≤ 1) : Cw xs L m_X4_lose [aR 0 16, aI (nI k)] s q (aI (if s (16 + k) = 3 then 0 else 1)) (loF s k) (s :: q) :=
  Cw_sv hq (fun t v ld sh o cd pl ka kb kc D E p m h3 h4 hp6 hm6 => ⟨ld, sh, by
    rcases (show k = 0 ∨ k = 1 ∨ k = 2 ∨ k = 3 by omega) with z | z | z | z <;> subst z
    · exact c_lose_0 s t v ld sh o cd pl ka kb kc D E p m h3 h4 hp6 hm6 (Vs_b5 hV) (Vs_b6 hV)
    · exact c_lose_1 s t v ld sh o cd pl ka kb kc D E p m h3 h4 hp6 hm6 (Vs_b5 hV) (Vs_b6 hV)
    · exact c_lose_2 s t v ld sh o cd pl ka kb kc D E p m h3 h4 hp6 hm6 (Vs_b5 hV) (Vs_b6 hV)
    · exact c_lose_3 s t v ld sh o cd pl ka kb kc D E p m h3 h4 hp6 hm6 (Vs_b5 hV) (Vs_b6 hV)⟩)
theorem shd_n {s : Nat → Int32} {H : Nat} (hV : Vs s H) : (if s 37 = 0 then (1 : Int32) else 0) = 1 - s 37 := by
  rcases isB_or (Vs_b6 hV) with e | e <;> rw [e] <;> rfl
theorem q_shed (hV : Vs s H) (hq : q.length ≤ 1) : Cw xs L m_X4_shed [aR 0 16] s q (aI (1 - s 37)) (upd s 37 (1 - s 37)) (s :: q) :=
  Cw_sv hq (fun t v ld sh o cd pl ka kb kc D E p m h3 h4 hp6 hm6 => ⟨ld, sh, by
    have z := c_shed (xs := xs) (L := L) s t v ld sh o cd pl ka kb kc D E p m h3 h4 hp6 hm6 (Vs_b5 hV) (Vs_b6 hV)
    rw [shd_n hV] at z
    exact z⟩)
theorem q_forecast {h : Nat} (x : Int32) (hV : Vs s H) (hh : h < 48) (hx : 0 ≤ x ∧ x ≤ 1500) (hq : q.length ≤ 1) : Cw xs L m_X4_forecast [aR 0 16, aI (nI h), aI x] s q (aI (s (40 + h))) (upd s (40 + h) x) (s :: q) :=
  Cw_sv hq (fun t v ld sh o cd pl ka kb kc D E p m h3 h4 hp6 hm6 => ⟨ld, sh, c_forecast h x s t v ld sh o cd pl ka kb kc D E hh hx p m h3 h4 hp6 hm6 (Vs_b5 hV) (Vs_b6 hV)⟩)
theorem q_set_0 (x : Int32) (hV : Vs s H) (hx : 0 ≤ x ∧ x ≤ 300) (hq : q.length ≤ 1) : Cw xs L m_X4_set [aR 0 16, aI (0 : Int32), aI x] s q (aI (s 32)) (upd s 32 x) (s :: q) :=
  Cw_sv hq (fun t v ld sh o cd pl ka kb kc D E p m h3 h4 hp6 hm6 => ⟨ld, sh, c_set_0 x s t v ld sh o cd pl ka kb kc D E hx p m h3 h4 hp6 hm6 (Vs_b5 hV) (Vs_b6 hV)⟩)
theorem q_set_1 (x : Int32) (hV : Vs s H) (hx : 0 ≤ x ∧ x ≤ 48) (hq : q.length ≤ 1) : Cw xs L m_X4_set [aR 0 16, aI (1 : Int32), aI x] s q (aI (s 33)) (upd s 33 x) (s :: q) :=
  Cw_sv hq (fun t v ld sh o cd pl ka kb kc D E p m h3 h4 hp6 hm6 => ⟨ld, sh, c_set_1 x s t v ld sh o cd pl ka kb kc D E hx p m h3 h4 hp6 hm6 (Vs_b5 hV) (Vs_b6 hV)⟩)
theorem q_pass {n : Nat} (hV : Vs s H) (h1 : 1 ≤ n) (hn : H + n ≤ 48) (hq : q.length ≤ 1) : Cw xs L m_X4_pass [aR 0 16, aI (nI n)] s q (aI (dkN (goM n s) (H + n) - dkN s H)) (goM n s) (s :: q) :=
  Cw_sv hq (fun t v ld sh o cd pl ka kb kc D E p m h3 h4 hp6 hm6 => ⟨(cTI n (s, ld, sh)).2.1, (cTI n (s, ld, sh)).2.2, c_pass n H (goM n s) _ _ s t v ld sh o cd pl ka kb kc D E hV h1 hn (Prod.ext (cTI_1 n (s, ld, sh)) rfl) (Vs_goM n hV hn) p m h3 h4 hp6 hm6 (Vs_b5 hV) (Vs_b6 hV)⟩)
/-- undo gives the island saved last -/
theorem q_undo {a : Nat → Int32} {r : List (Nat → Int32)} (hV : Vs a H) : ∀ M, Wd s (a :: r) M → ∃ (x : Int32) (M' : Mem), z_Mt xs L m_X4_undo [aR 0 16] M (.inl (some (aI x))) M' 0 ∧ 0 ≤ x ∧ Wd a r M' := by
  rintro M ⟨t, v, ld, sh, o, cd, pl, ka, kb, kc, D, E, p, m', rfl, h3, h4, hp, hm, h0, h1, h2⟩
  obtain ⟨m, rfl⟩ : ∃ m, m' = m + 1 := ⟨m' - 1, by omega⟩
  rw [Nat.add_sub_cancel] at h1 h2
  have z := c_undo (xs := xs) (L := L) m ((p + m) % 6) s t v ld sh o cd pl ka kb kc D E h4 (by omega) (by rw [h3]; exact un_r hp (by omega)) (by omega) (by rw [h1]; exact Vs_b5 hV) (by rw [h1]; exact Vs_b6 hV)
  rw [h1] at z
  exact ⟨nI m, _, z, nI_pos' (by omega), t, v, ld, sh, _, cd, pl, ka, kb, kc, D, E, p, m, rfl, (upd_ne (by decide)).trans h3, upd_at, hp, by omega, h2⟩
-- looks
theorem q_count_0 (hV : Vs s H) : Cw xs L m_X4_count [aR 0 16, aI (0 : Int32)] s q (aI (nI H)) s q := Cw_KS (fun v o cd pl ka kb kc D E => by
  have z := k_count (xs := xs) (L := L) H 0 s v o cd pl ka kb kc D E hV (by decide)
  rw [cv_0, Vs_34 hV] at z
  exact z)
theorem q_count_1 (hV : Vs s H) : Cw xs L m_X4_count [aR 0 16, aI (1 : Int32)] s q (aI (manF (runF s))) s q := Cw_KS (fun v o cd pl ka kb kc D E => by
  have z := k_count (xs := xs) (L := L) H 1 s v o cd pl ka kb kc D E hV (by decide)
  rw [cv_1] at z
  exact z)
theorem q_count_2 (hV : Vs s H) : Cw xs L m_X4_count [aR 0 16, aI (2 : Int32)] s q (aI (wrmN s)) s q := Cw_KS (fun v o cd pl ka kb kc D E => by
  have z := k_count (xs := xs) (L := L) H 2 s v o cd pl ka kb kc D E hV (by decide)
  rw [cv_2] at z
  exact z)
theorem q_count_3 (hV : Vs s H) : Cw xs L m_X4_count [aR 0 16, aI (3 : Int32)] s q (aI (aA s)) s q := Cw_KS (fun v o cd pl ka kb kc D E => by
  have z := k_count (xs := xs) (L := L) H 3 s v o cd pl ka kb kc D E hV (by decide)
  rw [cv_3] at z
  exact z)
theorem q_count_4 (hV : Vs s H) : Cw xs L m_X4_count [aR 0 16, aI (4 : Int32)] s q (aI (shO s (aA s) (runF s) 8)) s q := Cw_KS (fun v o cd pl ka kb kc D E => by
  have z := k_count (xs := xs) (L := L) H 4 s v o cd pl ka kb kc D E hV (by decide)
  rw [cv_4] at z
  exact z)
theorem q_count_5 (hV : Vs s H) : Cw xs L m_X4_count [aR 0 16, aI (5 : Int32)] s q (aI (shO s (aA s) (runF s) 9)) s q := Cw_KS (fun v o cd pl ka kb kc D E => by
  have z := k_count (xs := xs) (L := L) H 5 s v o cd pl ka kb kc D E hV (by decide)
  rw [cv_5] at z
  exact z)
theorem q_count_6 (hV : Vs s H) : Cw xs L m_X4_count [aR 0 16, aI (6 : Int32)] s q (aI (shO s (aA s) (runF s) 10)) s q := Cw_KS (fun v o cd pl ka kb kc D E => by
  have z := k_count (xs := xs) (L := L) H 6 s v o cd pl ka kb kc D E hV (by decide)
  rw [cv_6] at z
  exact z)
def en7 (s : Nat → Int32) : Int32 := if shO s (aA s) (runF s) 11 = 0 then 0 else 1
theorem q_count_7 (hV : Vs s H) : Cw xs L m_X4_count [aR 0 16, aI (7 : Int32)] s q (aI (en7 s)) s q := Cw_KS (fun v o cd pl ka kb kc D E => by
  have z := k_count (xs := xs) (L := L) H 7 s v o cd pl ka kb kc D E hV (by decide)
  rw [cv_7] at z
  exact z)
theorem q_count_9 (hV : Vs s H) : Cw xs L m_X4_count [aR 0 16, aI (9 : Int32)] s q (aI (s 36)) s q := Cw_KS (fun v o cd pl ka kb kc D E => by
  have z := k_count (xs := xs) (L := L) H 9 s v o cd pl ka kb kc D E hV (by decide)
  rw [cv_9] at z
  exact z)
theorem q_count_11 (hV : Vs s H) : Cw xs L m_X4_count [aR 0 16, aI (11 : Int32)] s q (aI (s 38)) s q := Cw_KS (fun v o cd pl ka kb kc D E => by
  have z := k_count (xs := xs) (L := L) H 11 s v o cd pl ka kb kc D E hV (by decide)
  rw [cv_11] at z
  exact z)
theorem q_count_12 (hV : Vs s H) : Cw xs L m_X4_count [aR 0 16, aI (12 : Int32)] s q (aI (s 39)) s q := Cw_KS (fun v o cd pl ka kb kc D E => by
  have z := k_count (xs := xs) (L := L) H 12 s v o cd pl ka kb kc D E hV (by decide)
  rw [cv_12] at z
  exact z)
theorem q_count_13 (hV : Vs s H) : Cw xs L m_X4_count [aR 0 16, aI (13 : Int32)] s q (aI (fulF s)) s q := Cw_KS (fun v o cd pl ka kb kc D E => by
  have z := k_count (xs := xs) (L := L) H 13 s v o cd pl ka kb kc D E hV (by decide)
  rw [cv_13] at z
  exact z)
theorem tol_6 {s : Nat → Int32} {k : Nat} : tolV s k 6 = shL s (aA s) (runF s) k := by unfold tolV; rw [if_pos rfl]
theorem tol_0 {s : Nat → Int32} {k : Nat} : tolV s k 0 = s k := by unfold tolV; rw [if_neg (by decide), if_pos (by decide)]; congr 1; omega
theorem tol_1 {s : Nat → Int32} {k : Nat} : tolV s k 1 = s (4 + k) := by unfold tolV; rw [if_neg (by decide), if_pos (by decide)]
theorem tol_2 {s : Nat → Int32} {k : Nat} : tolV s k 2 = s (8 + k) := by unfold tolV; rw [if_neg (by decide), if_pos (by decide)]
theorem tol_3 {s : Nat → Int32} {k : Nat} : tolV s k 3 = s (12 + k) := by unfold tolV; rw [if_neg (by decide), if_pos (by decide)]
theorem tol_4 {s : Nat → Int32} {k : Nat} : tolV s k 4 = s (16 + k) := by unfold tolV; rw [if_neg (by decide), if_pos (by decide)]
theorem tol_5 {s : Nat → Int32} {k : Nat} : tolV s k 5 = s (20 + k) := by unfold tolV; rw [if_neg (by decide), if_pos (by decide)]
theorem tol_7 {s : Nat → Int32} {k : Nat} : tolV s k 7 = s (24 + k) := by unfold tolV; rw [if_neg (by decide), if_neg (by decide)]
theorem tol_8 {s : Nat → Int32} {k : Nat} : tolV s k 8 = s (28 + k) := by unfold tolV; rw [if_neg (by decide), if_neg (by decide)]
theorem q_setOf_0 (hV : Vs s H) (hk : k < 4) : Cw xs L m_X4_setOf [aR 0 16, aI (nI k), aI (0 : Int32)] s q (aI (s k)) s q := Cw_KS (fun v o cd pl ka kb kc D E => by
  have z := k_setOf (xs := xs) (L := L) H k 0 s v o cd pl ka kb kc D E hV hk (by decide)
  rw [tol_0] at z
  exact z)
theorem q_setOf_1 (hV : Vs s H) (hk : k < 4) : Cw xs L m_X4_setOf [aR 0 16, aI (nI k), aI (1 : Int32)] s q (aI (s (4 + k))) s q := Cw_KS (fun v o cd pl ka kb kc D E => by
  have z := k_setOf (xs := xs) (L := L) H k 1 s v o cd pl ka kb kc D E hV hk (by decide)
  rw [tol_1] at z
  exact z)
theorem q_setOf_2 (hV : Vs s H) (hk : k < 4) : Cw xs L m_X4_setOf [aR 0 16, aI (nI k), aI (2 : Int32)] s q (aI (s (8 + k))) s q := Cw_KS (fun v o cd pl ka kb kc D E => by
  have z := k_setOf (xs := xs) (L := L) H k 2 s v o cd pl ka kb kc D E hV hk (by decide)
  rw [tol_2] at z
  exact z)
theorem q_setOf_3 (hV : Vs s H) (hk : k < 4) : Cw xs L m_X4_setOf [aR 0 16, aI (nI k), aI (3 : Int32)] s q (aI (s (12 + k))) s q := Cw_KS (fun v o cd pl ka kb kc D E => by
  have z := k_setOf (xs := xs) (L := L) H k 3 s v o cd pl ka kb kc D E hV hk (by decide)
  rw [tol_3] at z
  exact z)
theorem q_setOf_4 (hV : Vs s H) (hk : k < 4) : Cw xs L m_X4_setOf [aR 0 16, aI (nI k), aI (4 : Int32)] s q (aI (s (16 + k))) s q := Cw_KS (fun v o cd pl ka kb kc D E => by
  have z := k_setOf (xs := xs) (L := L) H k 4 s v o cd pl ka kb kc D E hV hk (by decide)
  rw [tol_4] at z
  exact z)
theorem q_setOf_5 (hV : Vs s H) (hk : k < 4) : Cw xs L m_X4_setOf [aR 0 16, aI (nI k), aI (5 : Int32)] s q (aI (s (20 + k))) s q := Cw_KS (fun v o cd pl ka kb kc D E => by
  have z := k_setOf (xs := xs) (L := L) H k 5 s v o cd pl ka kb kc D E hV hk (by decide)
  rw [tol_5] at z
  exact z)
theorem q_setOf_6 (hV : Vs s H) (hk : k < 4) : Cw xs L m_X4_setOf [aR 0 16, aI (nI k), aI (6 : Int32)] s q (aI (shL s (aA s) (runF s) k)) s q := Cw_KS (fun v o cd pl ka kb kc D E => by
  have z := k_setOf (xs := xs) (L := L) H k 6 s v o cd pl ka kb kc D E hV hk (by decide)
  rw [tol_6] at z
  exact z)
theorem q_setOf_7 (hV : Vs s H) (hk : k < 4) : Cw xs L m_X4_setOf [aR 0 16, aI (nI k), aI (7 : Int32)] s q (aI (s (24 + k))) s q := Cw_KS (fun v o cd pl ka kb kc D E => by
  have z := k_setOf (xs := xs) (L := L) H k 7 s v o cd pl ka kb kc D E hV hk (by decide)
  rw [tol_7] at z
  exact z)
theorem q_setOf_8 (hV : Vs s H) (hk : k < 4) : Cw xs L m_X4_setOf [aR 0 16, aI (nI k), aI (8 : Int32)] s q (aI (s (28 + k))) s q := Cw_KS (fun v o cd pl ka kb kc D E => by
  have z := k_setOf (xs := xs) (L := L) H k 8 s v o cd pl ka kb kc D E hV hk (by decide)
  rw [tol_8] at z
  exact z)
theorem q_hour_1 {h : Nat} (hV : Vs s H) (hh : h < H) : Cw xs L m_X4_hour [aR 0 16, aI (nI h), aI (1 : Int32)] s q (aI (s (88 + 6 * h + 0))) s q := Cw_KS (fun v o cd pl ka kb kc D E => by
  have hH := hV.2.1.2
  have z := k_hour (xs := xs) (L := L) h 1 s v o cd pl ka kb kc D E (by omega) (by decide)
  rw [hv_1, if_neg (by rw [Vs_34 hV]; exact nI_ge hh (by omega))] at z
  exact z)
theorem q_hourN_1 {h : Nat} (hV : Vs s H) (hh : ¬ h < H) (h48 : h < 48) : Cw xs L m_X4_hour [aR 0 16, aI (nI h), aI (1 : Int32)] s q (aI (-1 : Int32)) s q := Cw_KS (fun v o cd pl ka kb kc D E => by
  have z := k_hour (xs := xs) (L := L) h 1 s v o cd pl ka kb kc D E (by omega) (by decide)
  rw [hv_1, if_pos (by rw [Vs_34 hV]; exact nI_le (by omega) (by omega))] at z
  exact z)
theorem q_hour_2 {h : Nat} (hV : Vs s H) (hh : h < H) : Cw xs L m_X4_hour [aR 0 16, aI (nI h), aI (2 : Int32)] s q (aI (s (88 + 6 * h + 1))) s q := Cw_KS (fun v o cd pl ka kb kc D E => by
  have hH := hV.2.1.2
  have z := k_hour (xs := xs) (L := L) h 2 s v o cd pl ka kb kc D E (by omega) (by decide)
  rw [hv_2, if_neg (by rw [Vs_34 hV]; exact nI_ge hh (by omega))] at z
  exact z)
theorem q_hourN_2 {h : Nat} (hV : Vs s H) (hh : ¬ h < H) (h48 : h < 48) : Cw xs L m_X4_hour [aR 0 16, aI (nI h), aI (2 : Int32)] s q (aI (-1 : Int32)) s q := Cw_KS (fun v o cd pl ka kb kc D E => by
  have z := k_hour (xs := xs) (L := L) h 2 s v o cd pl ka kb kc D E (by omega) (by decide)
  rw [hv_2, if_pos (by rw [Vs_34 hV]; exact nI_le (by omega) (by omega))] at z
  exact z)
theorem q_hour_3 {h : Nat} (hV : Vs s H) (hh : h < H) : Cw xs L m_X4_hour [aR 0 16, aI (nI h), aI (3 : Int32)] s q (aI (s (88 + 6 * h + 2))) s q := Cw_KS (fun v o cd pl ka kb kc D E => by
  have hH := hV.2.1.2
  have z := k_hour (xs := xs) (L := L) h 3 s v o cd pl ka kb kc D E (by omega) (by decide)
  rw [hv_3, if_neg (by rw [Vs_34 hV]; exact nI_ge hh (by omega))] at z
  exact z)
theorem q_hourN_3 {h : Nat} (hV : Vs s H) (hh : ¬ h < H) (h48 : h < 48) : Cw xs L m_X4_hour [aR 0 16, aI (nI h), aI (3 : Int32)] s q (aI (-1 : Int32)) s q := Cw_KS (fun v o cd pl ka kb kc D E => by
  have z := k_hour (xs := xs) (L := L) h 3 s v o cd pl ka kb kc D E (by omega) (by decide)
  rw [hv_3, if_pos (by rw [Vs_34 hV]; exact nI_le (by omega) (by omega))] at z
  exact z)
theorem q_hour_4 {h : Nat} (hV : Vs s H) (hh : h < H) : Cw xs L m_X4_hour [aR 0 16, aI (nI h), aI (4 : Int32)] s q (aI (s (88 + 6 * h + 3))) s q := Cw_KS (fun v o cd pl ka kb kc D E => by
  have hH := hV.2.1.2
  have z := k_hour (xs := xs) (L := L) h 4 s v o cd pl ka kb kc D E (by omega) (by decide)
  rw [hv_4, if_neg (by rw [Vs_34 hV]; exact nI_ge hh (by omega))] at z
  exact z)
theorem q_hourN_4 {h : Nat} (hV : Vs s H) (hh : ¬ h < H) (h48 : h < 48) : Cw xs L m_X4_hour [aR 0 16, aI (nI h), aI (4 : Int32)] s q (aI (-1 : Int32)) s q := Cw_KS (fun v o cd pl ka kb kc D E => by
  have z := k_hour (xs := xs) (L := L) h 4 s v o cd pl ka kb kc D E (by omega) (by decide)
  rw [hv_4, if_pos (by rw [Vs_34 hV]; exact nI_le (by omega) (by omega))] at z
  exact z)
theorem q_hour_5 {h : Nat} (hV : Vs s H) (hh : h < H) : Cw xs L m_X4_hour [aR 0 16, aI (nI h), aI (5 : Int32)] s q (aI (s (88 + 6 * h + 4))) s q := Cw_KS (fun v o cd pl ka kb kc D E => by
  have hH := hV.2.1.2
  have z := k_hour (xs := xs) (L := L) h 5 s v o cd pl ka kb kc D E (by omega) (by decide)
  rw [hv_5, if_neg (by rw [Vs_34 hV]; exact nI_ge hh (by omega))] at z
  exact z)
theorem q_hourN_5 {h : Nat} (hV : Vs s H) (hh : ¬ h < H) (h48 : h < 48) : Cw xs L m_X4_hour [aR 0 16, aI (nI h), aI (5 : Int32)] s q (aI (-1 : Int32)) s q := Cw_KS (fun v o cd pl ka kb kc D E => by
  have z := k_hour (xs := xs) (L := L) h 5 s v o cd pl ka kb kc D E (by omega) (by decide)
  rw [hv_5, if_pos (by rw [Vs_34 hV]; exact nI_le (by omega) (by omega))] at z
  exact z)
theorem q_hour_6 {h : Nat} (hV : Vs s H) (hh : h < H) : Cw xs L m_X4_hour [aR 0 16, aI (nI h), aI (6 : Int32)] s q (aI (s (88 + 6 * h + 5))) s q := Cw_KS (fun v o cd pl ka kb kc D E => by
  have hH := hV.2.1.2
  have z := k_hour (xs := xs) (L := L) h 6 s v o cd pl ka kb kc D E (by omega) (by decide)
  rw [hv_6, if_neg (by rw [Vs_34 hV]; exact nI_ge hh (by omega))] at z
  exact z)
theorem q_hourN_6 {h : Nat} (hV : Vs s H) (hh : ¬ h < H) (h48 : h < 48) : Cw xs L m_X4_hour [aR 0 16, aI (nI h), aI (6 : Int32)] s q (aI (-1 : Int32)) s q := Cw_KS (fun v o cd pl ka kb kc D E => by
  have z := k_hour (xs := xs) (L := L) h 6 s v o cd pl ka kb kc D E (by omega) (by decide)
  rw [hv_6, if_pos (by rw [Vs_34 hV]; exact nI_le (by omega) (by omega))] at z
  exact z)
theorem q_ifLost (hV : Vs s H) (hk : k < 4) : Cw xs L m_X4_ifLost [aR 0 16, aI (nI k)] s q (aI (dwV s k)) s q := Cw_KS (fun v o cd pl ka kb kc D E => k_ifLost H k s v o cd pl ka kb kc D E hV hk)
theorem q_cheapest_0 {h : Nat} (hV : Vs s H) (hh : h < 48) : Cw xs L m_X4_cheapest [aR 0 16, aI (nI h), aI (0 : Int32)] s q (aI (chV s h 0)) s q := Cw_KS (fun v o cd pl ka kb kc D E => k_cheapest H h 0 s v o cd pl ka kb kc D E hV hh (by decide))
theorem q_cheapest_1 {h : Nat} (hV : Vs s H) (hh : h < 48) : Cw xs L m_X4_cheapest [aR 0 16, aI (nI h), aI (1 : Int32)] s q (aI (chV s h 1)) s q := Cw_KS (fun v o cd pl ka kb kc D E => k_cheapest H h 1 s v o cd pl ka kb kc D E hV hh (by decide))
theorem q_firstDark (hV : Vs s H) : Cw xs L m_X4_firstDark [aR 0 16] s q (aI (fdV s H)) s q := Cw_KS (fun v o cd pl ka kb kc D E => k_firstDark H s v o cd pl ka kb kc D E hV)
theorem q_ifShed (hV : Vs s H) : Cw xs L m_X4_ifShed [aR 0 16] s q (aI (ifsV s H)) s q := Cw_KS (fun v o cd pl ka kb kc D E => k_ifShed H s v o cd pl ka kb kc D E hV)
theorem q_bestStart (hV : Vs s H) : Cw xs L m_X4_bestStart [aR 0 16] s q (aI (bsV s H)) s q := Cw_KS (fun v o cd pl ka kb kc D E => k_bestStart H s v o cd pl ka kb kc D E hV)
theorem q_safe {a : Nat} (hV : Vs s H) (hH0 : 0 < H) (ha : sfN s H = nI a) (haH : a ≤ H) : Cw xs L m_X4_safeShare [aR 0 16] s q (aD (FP.ddiv (FP.i2d (nI a)) (FP.i2d (nI H)))) s q := Cw_KS (fun v o cd pl ka kb kc D E t ld sh => ⟨t, ld, sh, c_safe H a s t v ld sh o cd pl ka kb kc D E (Vs_34 hV) hH0 hV.2.1.2 ha haH⟩)
theorem q_safe0 (h34 : s 34 = 0) : Cw xs L m_X4_safeShare [aR 0 16] s q (aD 0x3ff0000000000000) s q := Cw_KS (fun v o cd pl ka kb kc D E t ld sh => ⟨t, ld, sh, c_safe0 s t v ld sh o cd pl ka kb kc D E h34⟩)
end QS
/-! RUNS THAT END WELL -/
def Fn (xs : Nat → Int32) (L m : Nat) (c : Cf) (r : AV) (P : Mem → Prop) : Prop := ∃ M', z_Ev xs L m c (.inl (some r)) M' 0 ∧ P M'
section FN
variable {xs : Nat → Int32} {L m : Nat} {r : AV} {P : Mem → Prop}
theorem Fn_blk (n : Nat) {c c' : Cf} {O : List Prop} (h : z_blk xs L m n c = some (c', O)) (hO : z_all O) (hk : Fn xs L m c' r P) : Fn xs L m c r P := by
  obtain ⟨M', a, b⟩ := hk
  exact ⟨M', z_Ev_blk n h hO a, b⟩
theorem Fn_if {a b : Nat} {Q : Prop} [Decidable Q] {rr : Lc × List AV × Mem} (h : Q) (h1 : Fn xs L m (a, rr) r P) : Fn xs L m (if Q then a else b, rr) r P := by
  rw [if_pos h]; exact h1
theorem Fn_else {a b : Nat} {Q : Prop} [Decidable Q] {rr : Lc × List AV × Mem} (h : ¬ Q) (h1 : Fn xs L m (b, rr) r P) : Fn xs L m (if Q then a else b, rr) r P := by
  rw [if_neg h]; exact h1
theorem Fn_eq {c c' : Cf} (e : c = c') (h : Fn xs L m c' r P) : Fn xs L m c r P := by subst e; exact h
theorem Fn_fgt {pc : Nat} {l : Lc} {st : List AV} {M : Mem} (bs : List Bool) (h : Fn xs L m (pc, z_fgt bs l, st, M) r P) : Fn xs L m (pc, l, st, M) r P := by
  obtain ⟨M', a, b⟩ := h
  exact ⟨M', z_Ev_fgt bs a, b⟩
/-- two roads that push a number each and meet -/
theorem Fn_dia {a b pc n1 n2 : Nat} {Q : Prop} [Decidable Q] {ls : Lc} {st : List AV} {M : Mem} {x y : Int32} (h1 : z_blk xs L m n1 (a, ls, st, M) = some ((pc, ls, aI x :: st, M), [])) (h2 : z_blk xs L m n2 (b, ls, st, M) = some ((pc, ls, aI y :: st, M), [])) (K : Fn xs L m (pc, ls, aI (if Q then x else y) :: st, M) r P) : Fn xs L m (if Q then a else b, ls, st, M) r P := by
  by_cases h : Q
  · rw [if_pos h] at K ⊢
    exact Fn_blk n1 h1 trivial K
  · rw [if_neg h] at K ⊢
    exact Fn_blk n2 h2 trivial K
theorem Fn_call {pc m' : Nat} {as rr : List AV} {ls : Lc} {st : List AV} {M : Mem} {v : AV} {s s' : Nat → Int32} {q q' : List (Nat → Int32)} (hC : Cw xs L m' as s q v s' q') (hM : Wd s q M) (hc : z_isC m pc m' as rr = true) (hst : st = as.reverse ++ rr) (hk : ∀ M1, Wd s' q' M1 → Fn xs L m (pc + 3, ls, v :: rr, M1) r P) : Fn xs L m (pc, ls, st, M) r P := by
  obtain ⟨M1, a, b⟩ := hC M hM
  obtain ⟨M', c, d⟩ := hk M1 b
  exact ⟨M', z_Ev_call0 a hc hst c, d⟩
theorem Fn_undo {pc : Nat} {rr : List AV} {ls : Lc} {st : List AV} {M : Mem} {s a : Nat → Int32} {q : List (Nat → Int32)} {H : Nat} (hV : Vs a H) (hM : Wd s (a :: q) M) (hc : z_isC m pc m_X4_undo [aR 0 16] rr = true) (hst : st = [aR 0 16] ++ rr) (hk : ∀ (x : Int32) M1, 0 ≤ x → Wd a q M1 → Fn xs L m (pc + 3, ls, aI x :: rr, M1) r P) : Fn xs L m (pc, ls, st, M) r P := by
  obtain ⟨x, M1, h1, h2, h3⟩ := q_undo (xs := xs) (L := L) hV M hM
  obtain ⟨M', c, d⟩ := hk x M1 h2 h3
  exact ⟨M', z_Ev_call0 h1 hc hst c, d⟩
/-- a call that changes nothing at all -/
theorem Fn_pure {pc m' : Nat} {as rr : List AV} {ls : Lc} {st : List AV} {M : Mem} {v : AV} (hC : z_Mt xs L m' as M (.inl (some v)) M 0) (hc : z_isC m pc m' as rr = true) (hst : st = as.reverse ++ rr) (hk : Fn xs L m (pc + 3, ls, v :: rr, M) r P) : Fn xs L m (pc, ls, st, M) r P := by
  obtain ⟨M', c, d⟩ := hk
  exact ⟨M', z_Ev_call0 hC hc hst c, d⟩
theorem Fn_iret {pc : Nat} {ls : Lc} {x y : Int32} {M : Mem} (h : z_isR m pc .ireturn = true) (hr : z_rt m = 1) (e : x = y) (hM : P M) : Fn xs L m (pc, ls, [aI x], M) (aI y) P := by
  subst e
  exact ⟨M, z_Ev_iret h hr, hM⟩
theorem Fn_zret {pc : Nat} {ls : Lc} {x y : Int32} {M : Mem} (h : z_isR m pc .ireturn = true) (hr : z_rt m = 2) (hx : z_isB x = true) (e : x = y) (hM : P M) : Fn xs L m (pc, ls, [aI x], M) (aI y) P := by
  subst e
  exact ⟨M, z_Ev_zret h hr hx, hM⟩
end FN
