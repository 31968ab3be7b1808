/-! THE LAW: its wrappers; the class runs a plan -/
theorem rd_len {t : Nat → Int32} : ∀ (d p : Nat) (S : CS), okS S p → (rdF t d p S).1 ≤ p + d ∧ okS (rdF t d p S).2 (rdF t d p S).1
  | 0, p, S, h => ⟨Nat.le_refl _, h⟩
  | d + 1, p, S, h => by
    unfold rdF
    cases hk : tk (t p) S with
    | none => exact ⟨by dsimp only; omega, h⟩
    | some S' =>
      have q := rd_len (t := t) d (p + 1) S' (tk_ok hk h)
      exact ⟨by dsimp only; omega, q.2⟩
theorem rn_all {xs : Nat → Int32} {L : Nat} (t : Nat → Int32) (v : Nat → Nat → Int32) (o cd pl ka kb kc : Nat → Int32) (D : Nat → Nat → Int32) (E : Nat → Int64) (K0 : Nat) (hK0 : K0 ≤ 60) (h3 : pl 3 = nI K0) : ∀ (ops : List (Int32 × (Int32 × Int32))) (i H : Nat) (n ld sh : Nat → Int32), agr ops i ka kb kc → Vs n H → (∀ q, q ∈ ops → ordK q.1 q.2.1 q.2.2) → i + ops.length = K0 → ∃ LD SH : Nat → Int32, z_Ev xs L m_X4_run (51, [some (aR 0 16), some (aI (nI i))], [], (cm n t v ld sh o cd pl ka kb kc, D, E)) (.inl (some (aI (nI (i + (exL ops n).1))))) (cm (exL ops n).2 t v LD SH o cd pl ka kb kc, D, E) 0 := by
  intro ops
  induction ops with
  | nil =>
    intro i H n ld sh ha hV hK hi
    have e : i = K0 := hi
    subst e
    exact ⟨ld, sh, run_e i n t v ld sh o cd pl ka kb kc D E h3⟩
  | cons q r ih =>
    intro i H n ld sh ha hV hK hi
    obtain ⟨a1, a2, a3, ha⟩ := ha
    have hKq := hK q (List.mem_cons_self ..)
    have hO := c_ord (xs := xs) (L := L) H q.1 q.2.1 q.2.2 n t v ld sh o cd pl ka kb kc D E hV hKq
    rw [List.length_cons] at hi
    unfold exL
    cases ho : oS n q.1 q.2.1 q.2.2 with
    | none =>
      rw [ho] at hO
      have hA : z_Mt xs L m_X4_isAllowed [aR 0 16, aI q.1, aI q.2.1] (cm n t v ld sh o cd pl ka kb kc, D, E) (.inl (some (aI 0))) (cm n t v ld sh o cd pl ka kb kc, D, E) 0 := hO
      rw [← a1, ← a2] at hA
      exact ⟨ld, sh, run_0 i K0 n t v ld sh o cd pl ka kb kc D E h3 hK0 (by omega) hA⟩
    | some N =>
      rw [ho] at hO
      obtain ⟨hA, LD, SH, hO⟩ := hO
      obtain ⟨H', hV'⟩ := oS_V hV hKq ho
      rw [← a1, ← a2] at hA hO
      rw [← a3] at hO
      obtain ⟨LD2, SH2, K⟩ := ih (i + 1) H' N LD SH ha hV' (fun z hz => hK z (List.mem_cons_of_mem _ hz)) (by omega)
      dsimp only
      rw [show i + ((exL r N).1 + 1) = i + 1 + (exL r N).1 by omega]
      exact ⟨LD2, SH2, run_1 i K0 N LD SH n t v ld sh o cd pl ka kb kc D E h3 hK0 (by omega) hA hO K⟩
theorem exL_V : ∀ (ops : List (Int32 × (Int32 × Int32))) {s : Nat → Int32} {H : Nat}, Vs s H → (∀ q, q ∈ ops → ordK q.1 q.2.1 q.2.2) → ∃ H', Vs (exL ops s).2 H'
  | [], s, H, hV, _ => ⟨H, hV⟩
  | q :: r, s, H, hV, hK => by
    unfold exL
    cases ho : oS s q.1 q.2.1 q.2.2 with
    | none => exact ⟨H, hV⟩
    | some N =>
      obtain ⟨H', hV'⟩ := oS_V hV (hK q (List.mem_cons_self ..)) ho
      exact exL_V r hV' (fun z hz => hK z (List.mem_cons_of_mem _ hz))
theorem c_run {xs : Nat → Int32} {L : Nat} (c H : Nat) (n t : Nat → Int32) (v : Nat → Nat → Int32) (ld sh o cd pl ka kb kc : Nat → Int32) (D : Nat → Nat → Int32) (E : Nat → Int64) (q m : Nat) (h3 : o 3 = nI q) (h4 : o 4 = nI m) (hq : q < 6) (hm : m ≤ 6) (hb5 : z_isB (n 36) = true) (hb6 : z_isB (n 37) = true) (h6 : o 6 = nI c) (hc : c ≤ 60) (hV : Vs n H) (hg : (gfF cd c (c + 1) 0).1 = false) : ∃ pl' LD SH A B C : Nat → Int32, z_Mt xs L m_X4_run [aR 0 16] (cm n t v ld sh o cd pl ka kb kc, D, E) (.inl (some (aI (nI (exL (opsF cd c (c + 1) 0) n).1)))) (cm (exL (opsF cd c (c + 1) 0) n).2 t (svV v n q m) LD SH (upd (svO o q m) 6 0) cd pl' A B C, D, E) 0 := by
  obtain ⟨-, l2⟩ := l_read (t := cd) (c := c) (c + 1) 0 0 ka kb kc (by omega) (by omega)
  obtain ⟨g1, g2, g3, g4, g5, -⟩ := l2 hg
  obtain ⟨pl', p3, p4, hR⟩ := c_read (xs := xs) (L := L) c n t v ld sh o cd pl ka kb kc D E hc
  rw [show c - 0 = c from rfl] at g2 g3 g4 g5
  generalize hY : rdF cd c 0 (0, 0, ka, kb, kc) = Y at *
  obtain ⟨place, a, K0, A, B, C⟩ := Y
  dsimp only at *
  have hlen : (opsF cd c (c + 1) 0).length ≤ 60 := by
    have q := rd_len (t := cd) c 0 (0, 0, ka, kb, kc) ⟨Nat.zero_le _, Nat.le_refl _, fun z => absurd rfl z⟩
    rw [hY] at q
    have q2 := q.2.2.1
    dsimp only at q q2
    omega
  rw [g2] at hR
  obtain ⟨LD, SH, K⟩ := rn_all (xs := xs) (L := L) t (svV v n q m) (upd (svO o q m) 6 0) cd pl' A B C D E K0 (by omega) p3 (opsF cd c (c + 1) 0) 0 H n ld sh g5 hV (ops_ok _ _) (by omega)
  rw [Nat.zero_add] at K
  refine ⟨pl', LD, SH, A, B, C, ?_⟩
  exact run_beg c c pl' A B C n t v ld sh o cd pl ka kb kc D E h6 hR rfl (by
    rw [p4]
    rcases g3 with e | e | e <;> rw [e]
    · exact Or.inl rfl
    · exact Or.inr (Or.inl rfl)
    · exact Or.inr (Or.inr rfl)) q m h3 h4 hq hm hb5 hb6 K
theorem nw9 {a : Nat} (ha : a ≤ 8) (h : ¬ whA a) : ¬ (nI a = 8 ∨ nI a = 3 ∨ nI a = 7) := by
  intro z
  refine h ?_
  rcases z with z | z | z
  · exact Or.inl ((nI_eq (by omega) (by decide)).mp (z.trans (show (8 : Int32) = nI 8 from rfl)))
  · exact Or.inr (Or.inl ((nI_eq (by omega) (by decide)).mp (z.trans (show (3 : Int32) = nI 3 from rfl))))
  · exact Or.inr (Or.inr ((nI_eq (by omega) (by decide)).mp (z.trans (show (7 : Int32) = nI 7 from rfl))))
theorem c_runA {xs : Nat → Int32} {L : Nat} (c : Nat) (n t : Nat → Int32) (v : Nat → Nat → Int32) (ld sh o cd pl ka kb kc : Nat → Int32) (D : Nat → Nat → Int32) (E : Nat → Int64) (h6 : o 6 = nI c) (hc : c ≤ 60) (hg : (gfF cd c (c + 1) 0).1 = true) : ∃ pl' A B C : Nat → Int32, z_Mt xs L m_X4_run [aR 0 16] (cm n t v ld sh o cd pl ka kb kc, D, E) (.inr 0) (cm n t v ld sh o cd pl' A B C, D, E) 1 := by
  obtain ⟨l1, -⟩ := l_read (t := cd) (c := c) (c + 1) 0 0 ka kb kc (by omega) (by omega)
  obtain ⟨g1, g2⟩ := l1 hg
  obtain ⟨pl', p3, p4, hR⟩ := c_read (xs := xs) (L := L) c n t v ld sh o cd pl ka kb kc D E hc
  rw [show c - 0 = c from rfl] at g1 g2
  have hS := rd_len (t := cd) c 0 (0, 0, ka, kb, kc) ⟨Nat.zero_le _, Nat.le_refl _, fun z => absurd rfl z⟩
  generalize hY : rdF cd c 0 (0, 0, ka, kb, kc) = Y at *
  obtain ⟨place, a, K0, A, B, C⟩ := Y
  dsimp only at *
  by_cases e : place = c
  · refine ⟨pl', A, B, C, c_runA2 c place pl' A B C n t v ld sh o cd pl ka kb kc D E h6 hR ?_⟩
    rw [p4]
    exact nw9 hS.2.1 (g2 (by rw [← g1]; exact e))
  · exact ⟨pl', A, B, C, c_runA1 c place pl' A B C n t v ld sh o cd pl ka kb kc D E h6 hR (fun z => e ((nI_eq (by omega) (by omega)).mp z))⟩
theorem c_firstError {xs : Nat → Int32} {L : Nat} (c : Nat) (n t : Nat → Int32) (v : Nat → Nat → Int32) (ld sh o cd pl ka kb kc : Nat → Int32) (D : Nat → Nat → Int32) (E : Nat → Int64) (h6 : o 6 = nI c) (hc : c ≤ 60) : ∃ pl' A B C : Nat → Int32, z_Mt xs L m_X4_firstError [aR 0 16] (cm n t v ld sh o cd pl ka kb kc, D, E) (.inl (some (aI (nI (gfF cd c (c + 1) 0).2)))) (cm n t v ld sh o cd pl' A B C, D, E) 0 := by
  obtain ⟨l1, l2⟩ := l_read (t := cd) (c := c) (c + 1) 0 0 ka kb kc (by omega) (by omega)
  obtain ⟨pl', p3, p4, hR⟩ := c_read (xs := xs) (L := L) c n t v ld sh o cd pl ka kb kc D E hc
  rw [show c - 0 = c from rfl] at l1 l2
  refine ⟨pl', (rdF cd c 0 (0, 0, ka, kb, kc)).2.2.2.1, (rdF cd c 0 (0, 0, ka, kb, kc)).2.2.2.2.1, (rdF cd c 0 (0, 0, ka, kb, kc)).2.2.2.2.2, ?_⟩
  have e : (rdF cd c 0 (0, 0, ka, kb, kc)).1 = (gfF cd c (c + 1) 0).2 := by
    cases hg : (gfF cd c (c + 1) 0).1 with
    | true => exact (l1 hg).1
    | false =>
      obtain ⟨g1, g2, -⟩ := l2 hg
      rw [g1, g2]
  have K := c_firstError0 (xs := xs) (L := L) c _ _ _ _ _ n t v ld sh o cd pl ka kb kc D E h6 hR
  rw [e] at K
  exact K
theorem w_rate {xs : Nat → Int32} {L : Nat} (p0 : Int32) (p1 : Int32) (p2 : Int32) (p3 : Int32) (p4 : Int32) (r : Int32) (C C1 : Nat → Nat → Nat → Int32) (D : Nat → Nat → Int32) (E : Nat → Int64) (hX : z_Mt xs L m_X4_rate [aR 0 16, aI p0, aI p1, aI p2, aI p3, aI p4] (C, D, E) (.inl (some (aI r))) (C1, D, E) 0) : z_Mt xs L m_L_rate [aR 0 16, aI p0, aI p1, aI p2, aI p3, aI p4, aR 0 40] (C, D, E) (.inl (some (aI 0))) (C1, D, vp_updL E 1 r.toInt64) 0 := by
  refine z_Ev_blk 8 (c' := (11, [some (aR 0 16), some (aI p0), some (aI p1), some (aI p2), some (aI p3), some (aI p4), some (aR 0 40), none], [aI p4, aI p3, aI p2, aI p1, aI p0, aR 0 16, aI (0 : Int32), aR 0 40], (C, D, E))) rfl trivial ?_
  refine z_Ev_call0 (m' := m_X4_rate) (as := [aR 0 16, aI p0, aI p1, aI p2, aI p3, aI p4]) (r := [aI (0 : Int32), aR 0 40]) (hX) rfl rfl ?_
  refine z_Ev_blk 4 (c' := (28, [some (aR 0 16), some (aI p0), some (aI p1), some (aI p2), some (aI p3), some (aI p4), some (aR 0 40), none], [aI (0 : Int32)], (C1, D, (vp_updL E 1 (r.toInt64))))) rfl ⟨rfl, trivial⟩ ?_
  exact z_Ev_iretE rfl rfl (by rfl) (by rfl)
theorem w_rate_0 {xs : Nat → Int32} {L : Nat} (p0 : Int32) (p1 : Int32) (p2 : Int32) (p3 : Int32) (p4 : Int32) (C C1 : Nat → Nat → Nat → Int32) (D : Nat → Nat → Int32) (E : Nat → Int64) (hX : z_Mt xs L m_X4_rate [aR 0 16, aI p0, aI p1, aI p2, aI p3, aI p4] (C, D, E) (.inr 0) (C1, D, E) 1) : z_Mt xs L m_L_rate [aR 0 16, aI p0, aI p1, aI p2, aI p3, aI p4, aR 0 40] (C, D, E) (.inl (some (aI 1))) (C1, D, E) 1 := by
  refine z_Ev_blk 8 (c' := (11, [some (aR 0 16), some (aI p0), some (aI p1), some (aI p2), some (aI p3), some (aI p4), some (aR 0 40), none], [aI p4, aI p3, aI p2, aI p1, aI p0, aR 0 16, aI (0 : Int32), aR 0 40], (C, D, E))) rfl trivial ?_
  refine z_Ev_catch (m := m_L_rate) (pc := 11) (k1 := 1) (k2 := 0) (m' := m_X4_rate) (as := [aR 0 16, aI p0, aI p1, aI p2, aI p3, aI p4]) (r := [aI (0 : Int32), aR 0 40]) (h := 21) (s := 7) hX rfl rfl rfl rfl rfl ?_
  refine z_Ev_blk 1 (c' := (22, [some (aR 0 16), some (aI p0), some (aI p1), some (aI p2), some (aI p3), some (aI p4), some (aR 0 40), none], [aI (1 : Int32)], (C1, D, E))) rfl trivial ?_
  exact z_Ev_iretE rfl rfl (by rfl) (by rfl)
theorem w_rate_1 {xs : Nat → Int32} {L : Nat} (p0 : Int32) (p1 : Int32) (p2 : Int32) (p3 : Int32) (p4 : Int32) (C C1 : Nat → Nat → Nat → Int32) (D : Nat → Nat → Int32) (E : Nat → Int64) (hX : z_Mt xs L m_X4_rate [aR 0 16, aI p0, aI p1, aI p2, aI p3, aI p4] (C, D, E) (.inr 1) (C1, D, E) 1) : z_Mt xs L m_L_rate [aR 0 16, aI p0, aI p1, aI p2, aI p3, aI p4, aR 0 40] (C, D, E) (.inl (some (aI 2))) (C1, D, E) 1 := by
  refine z_Ev_blk 8 (c' := (11, [some (aR 0 16), some (aI p0), some (aI p1), some (aI p2), some (aI p3), some (aI p4), some (aR 0 40), none], [aI p4, aI p3, aI p2, aI p1, aI p0, aR 0 16, aI (0 : Int32), aR 0 40], (C, D, E))) rfl trivial ?_
  refine z_Ev_catch (m := m_L_rate) (pc := 11) (k1 := 1) (k2 := 0) (m' := m_X4_rate) (as := [aR 0 16, aI p0, aI p1, aI p2, aI p3, aI p4]) (r := [aI (0 : Int32), aR 0 40]) (h := 25) (s := 7) hX rfl rfl rfl rfl rfl ?_
  refine z_Ev_blk 1 (c' := (26, [some (aR 0 16), some (aI p0), some (aI p1), some (aI p2), some (aI p3), some (aI p4), some (aR 0 40), none], [aI (2 : Int32)], (C1, D, E))) rfl trivial ?_
  exact z_Ev_iretE rfl rfl (by rfl) (by rfl)
theorem w_start {xs : Nat → Int32} {L : Nat} (p0 : Int32) (r : Int32) (C C1 : Nat → Nat → Nat → Int32) (D : Nat → Nat → Int32) (E : Nat → Int64) (hX : z_Mt xs L m_X4_start [aR 0 16, aI p0] (C, D, E) (.inl (some (aI r))) (C1, D, E) 0) : z_Mt xs L m_L_start [aR 0 16, aI p0, aR 0 40] (C, D, E) (.inl (some (aI 0))) (C1, D, vp_updL E 1 r.toInt64) 0 := by
  refine z_Ev_blk 4 (c' := (4, [some (aR 0 16), some (aI p0), some (aR 0 40), none], [aI p0, aR 0 16, aI (0 : Int32), aR 0 40], (C, D, E))) rfl trivial ?_
  refine z_Ev_call0 (m' := m_X4_start) (as := [aR 0 16, aI p0]) (r := [aI (0 : Int32), aR 0 40]) (hX) rfl rfl ?_
  refine z_Ev_blk 4 (c' := (19, [some (aR 0 16), some (aI p0), some (aR 0 40), none], [aI (0 : Int32)], (C1, D, (vp_updL E 1 (r.toInt64))))) rfl ⟨rfl, trivial⟩ ?_
  exact z_Ev_iretE rfl rfl (by rfl) (by rfl)
theorem w_start_0 {xs : Nat → Int32} {L : Nat} (p0 : Int32) (C C1 : Nat → Nat → Nat → Int32) (D : Nat → Nat → Int32) (E : Nat → Int64) (hX : z_Mt xs L m_X4_start [aR 0 16, aI p0] (C, D, E) (.inr 0) (C1, D, E) 1) : z_Mt xs L m_L_start [aR 0 16, aI p0, aR 0 40] (C, D, E) (.inl (some (aI 1))) (C1, D, E) 1 := by
  refine z_Ev_blk 4 (c' := (4, [some (aR 0 16), some (aI p0), some (aR 0 40), none], [aI p0, aR 0 16, aI (0 : Int32), aR 0 40], (C, D, E))) rfl trivial ?_
  refine z_Ev_catch (m := m_L_start) (pc := 4) (k1 := 1) (k2 := 0) (m' := m_X4_start) (as := [aR 0 16, aI p0]) (r := [aI (0 : Int32), aR 0 40]) (h := 13) (s := 3) hX rfl rfl rfl rfl rfl ?_
  refine z_Ev_blk 1 (c' := (14, [some (aR 0 16), some (aI p0), some (aR 0 40), none], [aI (1 : Int32)], (C1, D, E))) rfl trivial ?_
  exact z_Ev_iretE rfl rfl (by rfl) (by rfl)
theorem w_start_1 {xs : Nat → Int32} {L : Nat} (p0 : Int32) (C C1 : Nat → Nat → Nat → Int32) (D : Nat → Nat → Int32) (E : Nat → Int64) (hX : z_Mt xs L m_X4_start [aR 0 16, aI p0] (C, D, E) (.inr 1) (C1, D, E) 1) : z_Mt xs L m_L_start [aR 0 16, aI p0, aR 0 40] (C, D, E) (.inl (some (aI 2))) (C1, D, E) 1 := by
  refine z_Ev_blk 4 (c' := (4, [some (aR 0 16), some (aI p0), some (aR 0 40), none], [aI p0, aR 0 16, aI (0 : Int32), aR 0 40], (C, D, E))) rfl trivial ?_
  refine z_Ev_catch (m := m_L_start) (pc := 4) (k1 := 1) (k2 := 0) (m' := m_X4_start) (as := [aR 0 16, aI p0]) (r := [aI (0 : Int32), aR 0 40]) (h := 16) (s := 3) hX rfl rfl rfl rfl rfl ?_
  refine z_Ev_blk 1 (c' := (17, [some (aR 0 16), some (aI p0), some (aR 0 40), none], [aI (2 : Int32)], (C1, D, E))) rfl trivial ?_
  exact z_Ev_iretE rfl rfl (by rfl) (by rfl)
theorem w_stop {xs : Nat → Int32} {L : Nat} (p0 : Int32) (r : Int32) (C C1 : Nat → Nat → Nat → Int32) (D : Nat → Nat → Int32) (E : Nat → Int64) (hX : z_Mt xs L m_X4_stop [aR 0 16, aI p0] (C, D, E) (.inl (some (aI r))) (C1, D, E) 0) : z_Mt xs L m_L_stop [aR 0 16, aI p0, aR 0 40] (C, D, E) (.inl (some (aI 0))) (C1, D, vp_updL E 1 r.toInt64) 0 := by
  refine z_Ev_blk 4 (c' := (4, [some (aR 0 16), some (aI p0), some (aR 0 40), none], [aI p0, aR 0 16, aI (0 : Int32), aR 0 40], (C, D, E))) rfl trivial ?_
  refine z_Ev_call0 (m' := m_X4_stop) (as := [aR 0 16, aI p0]) (r := [aI (0 : Int32), aR 0 40]) (hX) rfl rfl ?_
  refine z_Ev_blk 4 (c' := (19, [some (aR 0 16), some (aI p0), some (aR 0 40), none], [aI (0 : Int32)], (C1, D, (vp_updL E 1 (r.toInt64))))) rfl ⟨rfl, trivial⟩ ?_
  exact z_Ev_iretE rfl rfl (by rfl) (by rfl)
theorem w_stop_0 {xs : Nat → Int32} {L : Nat} (p0 : Int32) (C C1 : Nat → Nat → Nat → Int32) (D : Nat → Nat → Int32) (E : Nat → Int64) (hX : z_Mt xs L m_X4_stop [aR 0 16, aI p0] (C, D, E) (.inr 0) (C1, D, E) 1) : z_Mt xs L m_L_stop [aR 0 16, aI p0, aR 0 40] (C, D, E) (.inl (some (aI 1))) (C1, D, E) 1 := by
  refine z_Ev_blk 4 (c' := (4, [some (aR 0 16), some (aI p0), some (aR 0 40), none], [aI p0, aR 0 16, aI (0 : Int32), aR 0 40], (C, D, E))) rfl trivial ?_
  refine z_Ev_catch (m := m_L_stop) (pc := 4) (k1 := 1) (k2 := 0) (m' := m_X4_stop) (as := [aR 0 16, aI p0]) (r := [aI (0 : Int32), aR 0 40]) (h := 13) (s := 3) hX rfl rfl rfl rfl rfl ?_
  refine z_Ev_blk 1 (c' := (14, [some (aR 0 16), some (aI p0), some (aR 0 40), none], [aI (1 : Int32)], (C1, D, E))) rfl trivial ?_
  exact z_Ev_iretE rfl rfl (by rfl) (by rfl)
theorem w_stop_1 {xs : Nat → Int32} {L : Nat} (p0 : Int32) (C C1 : Nat → Nat → Nat → Int32) (D : Nat → Nat → Int32) (E : Nat → Int64) (hX : z_Mt xs L m_X4_stop [aR 0 16, aI p0] (C, D, E) (.inr 1) (C1, D, E) 1) : z_Mt xs L m_L_stop [aR 0 16, aI p0, aR 0 40] (C, D, E) (.inl (some (aI 2))) (C1, D, E) 1 := by
  refine z_Ev_blk 4 (c' := (4, [some (aR 0 16), some (aI p0), some (aR 0 40), none], [aI p0, aR 0 16, aI (0 : Int32), aR 0 40], (C, D, E))) rfl trivial ?_
  refine z_Ev_catch (m := m_L_stop) (pc := 4) (k1 := 1) (k2 := 0) (m' := m_X4_stop) (as := [aR 0 16, aI p0]) (r := [aI (0 : Int32), aR 0 40]) (h := 16) (s := 3) hX rfl rfl rfl rfl rfl ?_
  refine z_Ev_blk 1 (c' := (17, [some (aR 0 16), some (aI p0), some (aR 0 40), none], [aI (2 : Int32)], (C1, D, E))) rfl trivial ?_
  exact z_Ev_iretE rfl rfl (by rfl) (by rfl)
theorem w_lose {xs : Nat → Int32} {L : Nat} (p0 : Int32) (r : Int32) (C C1 : Nat → Nat → Nat → Int32) (D : Nat → Nat → Int32) (E : Nat → Int64) (hX : z_Mt xs L m_X4_lose [aR 0 16, aI p0] (C, D, E) (.inl (some (aI r))) (C1, D, E) 0) : z_Mt xs L m_L_lose [aR 0 16, aI p0, aR 0 40] (C, D, E) (.inl (some (aI 0))) (C1, D, vp_updL E 1 r.toInt64) 0 := by
  refine z_Ev_blk 4 (c' := (4, [some (aR 0 16), some (aI p0), some (aR 0 40), none], [aI p0, aR 0 16, aI (0 : Int32), aR 0 40], (C, D, E))) rfl trivial ?_
  refine z_Ev_call0 (m' := m_X4_lose) (as := [aR 0 16, aI p0]) (r := [aI (0 : Int32), aR 0 40]) (hX) rfl rfl ?_
  refine z_Ev_blk 4 (c' := (16, [some (aR 0 16), some (aI p0), some (aR 0 40), none], [aI (0 : Int32)], (C1, D, (vp_updL E 1 (r.toInt64))))) rfl ⟨rfl, trivial⟩ ?_
  exact z_Ev_iretE rfl rfl (by rfl) (by rfl)
theorem w_lose_0 {xs : Nat → Int32} {L : Nat} (p0 : Int32) (C C1 : Nat → Nat → Nat → Int32) (D : Nat → Nat → Int32) (E : Nat → Int64) (hX : z_Mt xs L m_X4_lose [aR 0 16, aI p0] (C, D, E) (.inr 0) (C1, D, E) 1) : z_Mt xs L m_L_lose [aR 0 16, aI p0, aR 0 40] (C, D, E) (.inl (some (aI 1))) (C1, D, E) 1 := by
  refine z_Ev_blk 4 (c' := (4, [some (aR 0 16), some (aI p0), some (aR 0 40), none], [aI p0, aR 0 16, aI (0 : Int32), aR 0 40], (C, D, E))) rfl trivial ?_
  refine z_Ev_catch (m := m_L_lose) (pc := 4) (k1 := 1) (k2 := 0) (m' := m_X4_lose) (as := [aR 0 16, aI p0]) (r := [aI (0 : Int32), aR 0 40]) (h := 13) (s := 3) hX rfl rfl rfl rfl rfl ?_
  refine z_Ev_blk 1 (c' := (14, [some (aR 0 16), some (aI p0), some (aR 0 40), none], [aI (1 : Int32)], (C1, D, E))) rfl trivial ?_
  exact z_Ev_iretE rfl rfl (by rfl) (by rfl)
theorem w_forecast {xs : Nat → Int32} {L : Nat} (p0 : Int32) (p1 : Int32) (r : Int32) (C C1 : Nat → Nat → Nat → Int32) (D : Nat → Nat → Int32) (E : Nat → Int64) (hX : z_Mt xs L m_X4_forecast [aR 0 16, aI p0, aI p1] (C, D, E) (.inl (some (aI r))) (C1, D, E) 0) : z_Mt xs L m_L_forecast [aR 0 16, aI p0, aI p1, aR 0 40] (C, D, E) (.inl (some (aI 0))) (C1, D, vp_updL E 1 r.toInt64) 0 := by
  refine z_Ev_blk 5 (c' := (5, [some (aR 0 16), some (aI p0), some (aI p1), some (aR 0 40), none], [aI p1, aI p0, aR 0 16, aI (0 : Int32), aR 0 40], (C, D, E))) rfl trivial ?_
  refine z_Ev_call0 (m' := m_X4_forecast) (as := [aR 0 16, aI p0, aI p1]) (r := [aI (0 : Int32), aR 0 40]) (hX) rfl rfl ?_
  refine z_Ev_blk 4 (c' := (18, [some (aR 0 16), some (aI p0), some (aI p1), some (aR 0 40), none], [aI (0 : Int32)], (C1, D, (vp_updL E 1 (r.toInt64))))) rfl ⟨rfl, trivial⟩ ?_
  exact z_Ev_iretE rfl rfl (by rfl) (by rfl)
theorem w_forecast_0 {xs : Nat → Int32} {L : Nat} (p0 : Int32) (p1 : Int32) (C C1 : Nat → Nat → Nat → Int32) (D : Nat → Nat → Int32) (E : Nat → Int64) (hX : z_Mt xs L m_X4_forecast [aR 0 16, aI p0, aI p1] (C, D, E) (.inr 0) (C1, D, E) 1) : z_Mt xs L m_L_forecast [aR 0 16, aI p0, aI p1, aR 0 40] (C, D, E) (.inl (some (aI 1))) (C1, D, E) 1 := by
  refine z_Ev_blk 5 (c' := (5, [some (aR 0 16), some (aI p0), some (aI p1), some (aR 0 40), none], [aI p1, aI p0, aR 0 16, aI (0 : Int32), aR 0 40], (C, D, E))) rfl trivial ?_
  refine z_Ev_catch (m := m_L_forecast) (pc := 5) (k1 := 1) (k2 := 0) (m' := m_X4_forecast) (as := [aR 0 16, aI p0, aI p1]) (r := [aI (0 : Int32), aR 0 40]) (h := 15) (s := 4) hX rfl rfl rfl rfl rfl ?_
  refine z_Ev_blk 1 (c' := (16, [some (aR 0 16), some (aI p0), some (aI p1), some (aR 0 40), none], [aI (1 : Int32)], (C1, D, E))) rfl trivial ?_
  exact z_Ev_iretE rfl rfl (by rfl) (by rfl)
theorem w_pass {xs : Nat → Int32} {L : Nat} (p0 : Int32) (r : Int32) (C C1 : Nat → Nat → Nat → Int32) (D : Nat → Nat → Int32) (E : Nat → Int64) (hX : z_Mt xs L m_X4_pass [aR 0 16, aI p0] (C, D, E) (.inl (some (aI r))) (C1, D, E) 0) : z_Mt xs L m_L_pass [aR 0 16, aI p0, aR 0 40] (C, D, E) (.inl (some (aI 0))) (C1, D, vp_updL E 1 r.toInt64) 0 := by
  refine z_Ev_blk 4 (c' := (4, [some (aR 0 16), some (aI p0), some (aR 0 40), none], [aI p0, aR 0 16, aI (0 : Int32), aR 0 40], (C, D, E))) rfl trivial ?_
  refine z_Ev_call0 (m' := m_X4_pass) (as := [aR 0 16, aI p0]) (r := [aI (0 : Int32), aR 0 40]) (hX) rfl rfl ?_
  refine z_Ev_blk 4 (c' := (19, [some (aR 0 16), some (aI p0), some (aR 0 40), none], [aI (0 : Int32)], (C1, D, (vp_updL E 1 (r.toInt64))))) rfl ⟨rfl, trivial⟩ ?_
  exact z_Ev_iretE rfl rfl (by rfl) (by rfl)
theorem w_pass_0 {xs : Nat → Int32} {L : Nat} (p0 : Int32) (C C1 : Nat → Nat → Nat → Int32) (D : Nat → Nat → Int32) (E : Nat → Int64) (hX : z_Mt xs L m_X4_pass [aR 0 16, aI p0] (C, D, E) (.inr 0) (C1, D, E) 1) : z_Mt xs L m_L_pass [aR 0 16, aI p0, aR 0 40] (C, D, E) (.inl (some (aI 1))) (C1, D, E) 1 := by
  refine z_Ev_blk 4 (c' := (4, [some (aR 0 16), some (aI p0), some (aR 0 40), none], [aI p0, aR 0 16, aI (0 : Int32), aR 0 40], (C, D, E))) rfl trivial ?_
  refine z_Ev_catch (m := m_L_pass) (pc := 4) (k1 := 1) (k2 := 0) (m' := m_X4_pass) (as := [aR 0 16, aI p0]) (r := [aI (0 : Int32), aR 0 40]) (h := 13) (s := 3) hX rfl rfl rfl rfl rfl ?_
  refine z_Ev_blk 1 (c' := (14, [some (aR 0 16), some (aI p0), some (aR 0 40), none], [aI (1 : Int32)], (C1, D, E))) rfl trivial ?_
  exact z_Ev_iretE rfl rfl (by rfl) (by rfl)
theorem w_pass_1 {xs : Nat → Int32} {L : Nat} (p0 : Int32) (C C1 : Nat → Nat → Nat → Int32) (D : Nat → Nat → Int32) (E : Nat → Int64) (hX : z_Mt xs L m_X4_pass [aR 0 16, aI p0] (C, D, E) (.inr 1) (C1, D, E) 1) : z_Mt xs L m_L_pass [aR 0 16, aI p0, aR 0 40] (C, D, E) (.inl (some (aI 2))) (C1, D, E) 1 := by
  refine z_Ev_blk 4 (c' := (4, [some (aR 0 16), some (aI p0), some (aR 0 40), none], [aI p0, aR 0 16, aI (0 : Int32), aR 0 40], (C, D, E))) rfl trivial ?_
  refine z_Ev_catch (m := m_L_pass) (pc := 4) (k1 := 1) (k2 := 0) (m' := m_X4_pass) (as := [aR 0 16, aI p0]) (r := [aI (0 : Int32), aR 0 40]) (h := 16) (s := 3) hX rfl rfl rfl rfl rfl ?_
  refine z_Ev_blk 1 (c' := (17, [some (aR 0 16), some (aI p0), some (aR 0 40), none], [aI (2 : Int32)], (C1, D, E))) rfl trivial ?_
  exact z_Ev_iretE rfl rfl (by rfl) (by rfl)
theorem w_set {xs : Nat → Int32} {L : Nat} (p0 : Int32) (p1 : Int32) (r : Int32) (C C1 : Nat → Nat → Nat → Int32) (D : Nat → Nat → Int32) (E : Nat → Int64) (hX : z_Mt xs L m_X4_set [aR 0 16, aI p0, aI p1] (C, D, E) (.inl (some (aI r))) (C1, D, E) 0) : z_Mt xs L m_L_set [aR 0 16, aI p0, aI p1, aR 0 40] (C, D, E) (.inl (some (aI 0))) (C1, D, vp_updL E 1 r.toInt64) 0 := by
  refine z_Ev_blk 5 (c' := (5, [some (aR 0 16), some (aI p0), some (aI p1), some (aR 0 40), none], [aI p1, aI p0, aR 0 16, aI (0 : Int32), aR 0 40], (C, D, E))) rfl trivial ?_
  refine z_Ev_call0 (m' := m_X4_set) (as := [aR 0 16, aI p0, aI p1]) (r := [aI (0 : Int32), aR 0 40]) (hX) rfl rfl ?_
  refine z_Ev_blk 4 (c' := (22, [some (aR 0 16), some (aI p0), some (aI p1), some (aR 0 40), none], [aI (0 : Int32)], (C1, D, (vp_updL E 1 (r.toInt64))))) rfl ⟨rfl, trivial⟩ ?_
  exact z_Ev_iretE rfl rfl (by rfl) (by rfl)
theorem w_set_2 {xs : Nat → Int32} {L : Nat} (p0 : Int32) (p1 : Int32) (C C1 : Nat → Nat → Nat → Int32) (D : Nat → Nat → Int32) (E : Nat → Int64) (hX : z_Mt xs L m_X4_set [aR 0 16, aI p0, aI p1] (C, D, E) (.inr 2) (C1, D, E) 1) : z_Mt xs L m_L_set [aR 0 16, aI p0, aI p1, aR 0 40] (C, D, E) (.inl (some (aI 1))) (C1, D, E) 1 := by
  refine z_Ev_blk 5 (c' := (5, [some (aR 0 16), some (aI p0), some (aI p1), some (aR 0 40), none], [aI p1, aI p0, aR 0 16, aI (0 : Int32), aR 0 40], (C, D, E))) rfl trivial ?_
  refine z_Ev_catch (m := m_L_set) (pc := 5) (k1 := 1) (k2 := 0) (m' := m_X4_set) (as := [aR 0 16, aI p0, aI p1]) (r := [aI (0 : Int32), aR 0 40]) (h := 15) (s := 4) hX rfl rfl rfl rfl rfl ?_
  refine z_Ev_blk 1 (c' := (16, [some (aR 0 16), some (aI p0), some (aI p1), some (aR 0 40), none], [aI (1 : Int32)], (C1, D, E))) rfl trivial ?_
  exact z_Ev_iretE rfl rfl (by rfl) (by rfl)
theorem w_set_0 {xs : Nat → Int32} {L : Nat} (p0 : Int32) (p1 : Int32) (C C1 : Nat → Nat → Nat → Int32) (D : Nat → Nat → Int32) (E : Nat → Int64) (hX : z_Mt xs L m_X4_set [aR 0 16, aI p0, aI p1] (C, D, E) (.inr 0) (C1, D, E) 1) : z_Mt xs L m_L_set [aR 0 16, aI p0, aI p1, aR 0 40] (C, D, E) (.inl (some (aI 2))) (C1, D, E) 1 := by
  refine z_Ev_blk 5 (c' := (5, [some (aR 0 16), some (aI p0), some (aI p1), some (aR 0 40), none], [aI p1, aI p0, aR 0 16, aI (0 : Int32), aR 0 40], (C, D, E))) rfl trivial ?_
  refine z_Ev_catch (m := m_L_set) (pc := 5) (k1 := 1) (k2 := 0) (m' := m_X4_set) (as := [aR 0 16, aI p0, aI p1]) (r := [aI (0 : Int32), aR 0 40]) (h := 19) (s := 4) hX rfl rfl rfl rfl rfl ?_
  refine z_Ev_blk 1 (c' := (20, [some (aR 0 16), some (aI p0), some (aI p1), some (aR 0 40), none], [aI (2 : Int32)], (C1, D, E))) rfl trivial ?_
  exact z_Ev_iretE rfl rfl (by rfl) (by rfl)
theorem w_append {xs : Nat → Int32} {L : Nat} (p0 : Int32) (r : Int32) (C C1 : Nat → Nat → Nat → Int32) (D : Nat → Nat → Int32) (E : Nat → Int64) (hX : z_Mt xs L m_X4_append [aR 0 16, aI p0] (C, D, E) (.inl (some (aI r))) (C1, D, E) 0) : z_Mt xs L m_L_append [aR 0 16, aI p0, aR 0 40] (C, D, E) (.inl (some (aI 0))) (C1, D, vp_updL E 1 r.toInt64) 0 := by
  refine z_Ev_blk 4 (c' := (4, [some (aR 0 16), some (aI p0), some (aR 0 40), none], [aI p0, aR 0 16, aI (0 : Int32), aR 0 40], (C, D, E))) rfl trivial ?_
  refine z_Ev_call0 (m' := m_X4_append) (as := [aR 0 16, aI p0]) (r := [aI (0 : Int32), aR 0 40]) (hX) rfl rfl ?_
  refine z_Ev_blk 4 (c' := (19, [some (aR 0 16), some (aI p0), some (aR 0 40), none], [aI (0 : Int32)], (C1, D, (vp_updL E 1 (r.toInt64))))) rfl ⟨rfl, trivial⟩ ?_
  exact z_Ev_iretE rfl rfl (by rfl) (by rfl)
theorem w_append_0 {xs : Nat → Int32} {L : Nat} (p0 : Int32) (C C1 : Nat → Nat → Nat → Int32) (D : Nat → Nat → Int32) (E : Nat → Int64) (hX : z_Mt xs L m_X4_append [aR 0 16, aI p0] (C, D, E) (.inr 0) (C1, D, E) 1) : z_Mt xs L m_L_append [aR 0 16, aI p0, aR 0 40] (C, D, E) (.inl (some (aI 1))) (C1, D, E) 1 := by
  refine z_Ev_blk 4 (c' := (4, [some (aR 0 16), some (aI p0), some (aR 0 40), none], [aI p0, aR 0 16, aI (0 : Int32), aR 0 40], (C, D, E))) rfl trivial ?_
  refine z_Ev_catch (m := m_L_append) (pc := 4) (k1 := 1) (k2 := 0) (m' := m_X4_append) (as := [aR 0 16, aI p0]) (r := [aI (0 : Int32), aR 0 40]) (h := 13) (s := 3) hX rfl rfl rfl rfl rfl ?_
  refine z_Ev_blk 1 (c' := (14, [some (aR 0 16), some (aI p0), some (aR 0 40), none], [aI (1 : Int32)], (C1, D, E))) rfl trivial ?_
  exact z_Ev_iretE rfl rfl (by rfl) (by rfl)
theorem w_append_1 {xs : Nat → Int32} {L : Nat} (p0 : Int32) (C C1 : Nat → Nat → Nat → Int32) (D : Nat → Nat → Int32) (E : Nat → Int64) (hX : z_Mt xs L m_X4_append [aR 0 16, aI p0] (C, D, E) (.inr 1) (C1, D, E) 1) : z_Mt xs L m_L_append [aR 0 16, aI p0, aR 0 40] (C, D, E) (.inl (some (aI 2))) (C1, D, E) 1 := by
  refine z_Ev_blk 4 (c' := (4, [some (aR 0 16), some (aI p0), some (aR 0 40), none], [aI p0, aR 0 16, aI (0 : Int32), aR 0 40], (C, D, E))) rfl trivial ?_
  refine z_Ev_catch (m := m_L_append) (pc := 4) (k1 := 1) (k2 := 0) (m' := m_X4_append) (as := [aR 0 16, aI p0]) (r := [aI (0 : Int32), aR 0 40]) (h := 16) (s := 3) hX rfl rfl rfl rfl rfl ?_
  refine z_Ev_blk 1 (c' := (17, [some (aR 0 16), some (aI p0), some (aR 0 40), none], [aI (2 : Int32)], (C1, D, E))) rfl trivial ?_
  exact z_Ev_iretE rfl rfl (by rfl) (by rfl)
theorem w_run {xs : Nat → Int32} {L : Nat}  (r : Int32) (C C1 : Nat → Nat → Nat → Int32) (D : Nat → Nat → Int32) (E : Nat → Int64) (hX : z_Mt xs L m_X4_run [aR 0 16] (C, D, E) (.inl (some (aI r))) (C1, D, E) 0) : z_Mt xs L m_L_run [aR 0 16, aR 0 40] (C, D, E) (.inl (some (aI 0))) (C1, D, vp_updL E 1 r.toInt64) 0 := by
  refine z_Ev_blk 3 (c' := (3, [some (aR 0 16), some (aR 0 40), none], [aR 0 16, aI (0 : Int32), aR 0 40], (C, D, E))) rfl trivial ?_
  refine z_Ev_call0 (m' := m_X4_run) (as := [aR 0 16]) (r := [aI (0 : Int32), aR 0 40]) (hX) rfl rfl ?_
  refine z_Ev_blk 4 (c' := (15, [some (aR 0 16), some (aR 0 40), none], [aI (0 : Int32)], (C1, D, (vp_updL E 1 (r.toInt64))))) rfl ⟨rfl, trivial⟩ ?_
  exact z_Ev_iretE rfl rfl (by rfl) (by rfl)
theorem w_run_0 {xs : Nat → Int32} {L : Nat}  (C C1 : Nat → Nat → Nat → Int32) (D : Nat → Nat → Int32) (E : Nat → Int64) (hX : z_Mt xs L m_X4_run [aR 0 16] (C, D, E) (.inr 0) (C1, D, E) 1) : z_Mt xs L m_L_run [aR 0 16, aR 0 40] (C, D, E) (.inl (some (aI 1))) (C1, D, E) 1 := by
  refine z_Ev_blk 3 (c' := (3, [some (aR 0 16), some (aR 0 40), none], [aR 0 16, aI (0 : Int32), aR 0 40], (C, D, E))) rfl trivial ?_
  refine z_Ev_catch (m := m_L_run) (pc := 3) (k1 := 1) (k2 := 0) (m' := m_X4_run) (as := [aR 0 16]) (r := [aI (0 : Int32), aR 0 40]) (h := 12) (s := 2) hX rfl rfl rfl rfl rfl ?_
  refine z_Ev_blk 1 (c' := (13, [some (aR 0 16), some (aR 0 40), none], [aI (1 : Int32)], (C1, D, E))) rfl trivial ?_
  exact z_Ev_iretE rfl rfl (by rfl) (by rfl)
theorem w_undo {xs : Nat → Int32} {L : Nat}  (r : Int32) (C C1 : Nat → Nat → Nat → Int32) (D : Nat → Nat → Int32) (E : Nat → Int64) (hX : z_Mt xs L m_X4_undo [aR 0 16] (C, D, E) (.inl (some (aI r))) (C1, D, E) 0) : z_Mt xs L m_L_undo [aR 0 16, aR 0 40] (C, D, E) (.inl (some (aI 0))) (C1, D, vp_updL E 1 r.toInt64) 0 := by
  refine z_Ev_blk 3 (c' := (3, [some (aR 0 16), some (aR 0 40), none], [aR 0 16, aI (0 : Int32), aR 0 40], (C, D, E))) rfl trivial ?_
  refine z_Ev_call0 (m' := m_X4_undo) (as := [aR 0 16]) (r := [aI (0 : Int32), aR 0 40]) (hX) rfl rfl ?_
  refine z_Ev_blk 4 (c' := (15, [some (aR 0 16), some (aR 0 40), none], [aI (0 : Int32)], (C1, D, (vp_updL E 1 (r.toInt64))))) rfl ⟨rfl, trivial⟩ ?_
  exact z_Ev_iretE rfl rfl (by rfl) (by rfl)
theorem w_undo_1 {xs : Nat → Int32} {L : Nat}  (C C1 : Nat → Nat → Nat → Int32) (D : Nat → Nat → Int32) (E : Nat → Int64) (hX : z_Mt xs L m_X4_undo [aR 0 16] (C, D, E) (.inr 1) (C1, D, E) 1) : z_Mt xs L m_L_undo [aR 0 16, aR 0 40] (C, D, E) (.inl (some (aI 1))) (C1, D, E) 1 := by
  refine z_Ev_blk 3 (c' := (3, [some (aR 0 16), some (aR 0 40), none], [aR 0 16, aI (0 : Int32), aR 0 40], (C, D, E))) rfl trivial ?_
  refine z_Ev_catch (m := m_L_undo) (pc := 3) (k1 := 1) (k2 := 0) (m' := m_X4_undo) (as := [aR 0 16]) (r := [aI (0 : Int32), aR 0 40]) (h := 12) (s := 2) hX rfl rfl rfl rfl rfl ?_
  refine z_Ev_blk 1 (c' := (13, [some (aR 0 16), some (aR 0 40), none], [aI (1 : Int32)], (C1, D, E))) rfl trivial ?_
  exact z_Ev_iretE rfl rfl (by rfl) (by rfl)
theorem w_setOf {xs : Nat → Int32} {L : Nat} (p0 : Int32) (p1 : Int32) (r : Int32) (C C1 : Nat → Nat → Nat → Int32) (D : Nat → Nat → Int32) (E : Nat → Int64) (hX : z_Mt xs L m_X4_setOf [aR 0 16, aI p0, aI p1] (C, D, E) (.inl (some (aI r))) (C1, D, E) 0) : z_Mt xs L m_L_setOf [aR 0 16, aI p0, aI p1, aR 0 40] (C, D, E) (.inl (some (aI 0))) (C1, D, vp_updL E 1 r.toInt64) 0 := by
  refine z_Ev_blk 5 (c' := (5, [some (aR 0 16), some (aI p0), some (aI p1), some (aR 0 40), none], [aI p1, aI p0, aR 0 16, aI (0 : Int32), aR 0 40], (C, D, E))) rfl trivial ?_
  refine z_Ev_call0 (m' := m_X4_setOf) (as := [aR 0 16, aI p0, aI p1]) (r := [aI (0 : Int32), aR 0 40]) (hX) rfl rfl ?_
  refine z_Ev_blk 4 (c' := (18, [some (aR 0 16), some (aI p0), some (aI p1), some (aR 0 40), none], [aI (0 : Int32)], (C1, D, (vp_updL E 1 (r.toInt64))))) rfl ⟨rfl, trivial⟩ ?_
  exact z_Ev_iretE rfl rfl (by rfl) (by rfl)
theorem w_setOf_0 {xs : Nat → Int32} {L : Nat} (p0 : Int32) (p1 : Int32) (C C1 : Nat → Nat → Nat → Int32) (D : Nat → Nat → Int32) (E : Nat → Int64) (hX : z_Mt xs L m_X4_setOf [aR 0 16, aI p0, aI p1] (C, D, E) (.inr 0) (C1, D, E) 1) : z_Mt xs L m_L_setOf [aR 0 16, aI p0, aI p1, aR 0 40] (C, D, E) (.inl (some (aI 1))) (C1, D, E) 1 := by
  refine z_Ev_blk 5 (c' := (5, [some (aR 0 16), some (aI p0), some (aI p1), some (aR 0 40), none], [aI p1, aI p0, aR 0 16, aI (0 : Int32), aR 0 40], (C, D, E))) rfl trivial ?_
  refine z_Ev_catch (m := m_L_setOf) (pc := 5) (k1 := 1) (k2 := 0) (m' := m_X4_setOf) (as := [aR 0 16, aI p0, aI p1]) (r := [aI (0 : Int32), aR 0 40]) (h := 15) (s := 4) hX rfl rfl rfl rfl rfl ?_
  refine z_Ev_blk 1 (c' := (16, [some (aR 0 16), some (aI p0), some (aI p1), some (aR 0 40), none], [aI (1 : Int32)], (C1, D, E))) rfl trivial ?_
  exact z_Ev_iretE rfl rfl (by rfl) (by rfl)
theorem w_hour {xs : Nat → Int32} {L : Nat} (p0 : Int32) (p1 : Int32) (r : Int32) (C C1 : Nat → Nat → Nat → Int32) (D : Nat → Nat → Int32) (E : Nat → Int64) (hX : z_Mt xs L m_X4_hour [aR 0 16, aI p0, aI p1] (C, D, E) (.inl (some (aI r))) (C1, D, E) 0) : z_Mt xs L m_L_hour [aR 0 16, aI p0, aI p1, aR 0 40] (C, D, E) (.inl (some (aI 0))) (C1, D, vp_updL E 1 r.toInt64) 0 := by
  refine z_Ev_blk 5 (c' := (5, [some (aR 0 16), some (aI p0), some (aI p1), some (aR 0 40), none], [aI p1, aI p0, aR 0 16, aI (0 : Int32), aR 0 40], (C, D, E))) rfl trivial ?_
  refine z_Ev_call0 (m' := m_X4_hour) (as := [aR 0 16, aI p0, aI p1]) (r := [aI (0 : Int32), aR 0 40]) (hX) rfl rfl ?_
  refine z_Ev_blk 4 (c' := (18, [some (aR 0 16), some (aI p0), some (aI p1), some (aR 0 40), none], [aI (0 : Int32)], (C1, D, (vp_updL E 1 (r.toInt64))))) rfl ⟨rfl, trivial⟩ ?_
  exact z_Ev_iretE rfl rfl (by rfl) (by rfl)
theorem w_hour_0 {xs : Nat → Int32} {L : Nat} (p0 : Int32) (p1 : Int32) (C C1 : Nat → Nat → Nat → Int32) (D : Nat → Nat → Int32) (E : Nat → Int64) (hX : z_Mt xs L m_X4_hour [aR 0 16, aI p0, aI p1] (C, D, E) (.inr 0) (C1, D, E) 1) : z_Mt xs L m_L_hour [aR 0 16, aI p0, aI p1, aR 0 40] (C, D, E) (.inl (some (aI 1))) (C1, D, E) 1 := by
  refine z_Ev_blk 5 (c' := (5, [some (aR 0 16), some (aI p0), some (aI p1), some (aR 0 40), none], [aI p1, aI p0, aR 0 16, aI (0 : Int32), aR 0 40], (C, D, E))) rfl trivial ?_
  refine z_Ev_catch (m := m_L_hour) (pc := 5) (k1 := 1) (k2 := 0) (m' := m_X4_hour) (as := [aR 0 16, aI p0, aI p1]) (r := [aI (0 : Int32), aR 0 40]) (h := 15) (s := 4) hX rfl rfl rfl rfl rfl ?_
  refine z_Ev_blk 1 (c' := (16, [some (aR 0 16), some (aI p0), some (aI p1), some (aR 0 40), none], [aI (1 : Int32)], (C1, D, E))) rfl trivial ?_
  exact z_Ev_iretE rfl rfl (by rfl) (by rfl)
theorem w_count {xs : Nat → Int32} {L : Nat} (p0 : Int32) (r : Int32) (C C1 : Nat → Nat → Nat → Int32) (D : Nat → Nat → Int32) (E : Nat → Int64) (hX : z_Mt xs L m_X4_count [aR 0 16, aI p0] (C, D, E) (.inl (some (aI r))) (C1, D, E) 0) : z_Mt xs L m_L_count [aR 0 16, aI p0, aR 0 40] (C, D, E) (.inl (some (aI 0))) (C1, D, vp_updL E 1 r.toInt64) 0 := by
  refine z_Ev_blk 4 (c' := (4, [some (aR 0 16), some (aI p0), some (aR 0 40), none], [aI p0, aR 0 16, aI (0 : Int32), aR 0 40], (C, D, E))) rfl trivial ?_
  refine z_Ev_call0 (m' := m_X4_count) (as := [aR 0 16, aI p0]) (r := [aI (0 : Int32), aR 0 40]) (hX) rfl rfl ?_
  refine z_Ev_blk 4 (c' := (16, [some (aR 0 16), some (aI p0), some (aR 0 40), none], [aI (0 : Int32)], (C1, D, (vp_updL E 1 (r.toInt64))))) rfl ⟨rfl, trivial⟩ ?_
  exact z_Ev_iretE rfl rfl (by rfl) (by rfl)
theorem w_count_0 {xs : Nat → Int32} {L : Nat} (p0 : Int32) (C C1 : Nat → Nat → Nat → Int32) (D : Nat → Nat → Int32) (E : Nat → Int64) (hX : z_Mt xs L m_X4_count [aR 0 16, aI p0] (C, D, E) (.inr 0) (C1, D, E) 1) : z_Mt xs L m_L_count [aR 0 16, aI p0, aR 0 40] (C, D, E) (.inl (some (aI 1))) (C1, D, E) 1 := by
  refine z_Ev_blk 4 (c' := (4, [some (aR 0 16), some (aI p0), some (aR 0 40), none], [aI p0, aR 0 16, aI (0 : Int32), aR 0 40], (C, D, E))) rfl trivial ?_
  refine z_Ev_catch (m := m_L_count) (pc := 4) (k1 := 1) (k2 := 0) (m' := m_X4_count) (as := [aR 0 16, aI p0]) (r := [aI (0 : Int32), aR 0 40]) (h := 13) (s := 3) hX rfl rfl rfl rfl rfl ?_
  refine z_Ev_blk 1 (c' := (14, [some (aR 0 16), some (aI p0), some (aR 0 40), none], [aI (1 : Int32)], (C1, D, E))) rfl trivial ?_
  exact z_Ev_iretE rfl rfl (by rfl) (by rfl)
theorem w_setting {xs : Nat → Int32} {L : Nat} (p0 : Int32) (r : Int32) (C C1 : Nat → Nat → Nat → Int32) (D : Nat → Nat → Int32) (E : Nat → Int64) (hX : z_Mt xs L m_X4_setting [aR 0 16, aI p0] (C, D, E) (.inl (some (aI r))) (C1, D, E) 0) : z_Mt xs L m_L_setting [aR 0 16, aI p0, aR 0 40] (C, D, E) (.inl (some (aI 0))) (C1, D, vp_updL E 1 r.toInt64) 0 := by
  refine z_Ev_blk 4 (c' := (4, [some (aR 0 16), some (aI p0), some (aR 0 40), none], [aI p0, aR 0 16, aI (0 : Int32), aR 0 40], (C, D, E))) rfl trivial ?_
  refine z_Ev_call0 (m' := m_X4_setting) (as := [aR 0 16, aI p0]) (r := [aI (0 : Int32), aR 0 40]) (hX) rfl rfl ?_
  refine z_Ev_blk 4 (c' := (16, [some (aR 0 16), some (aI p0), some (aR 0 40), none], [aI (0 : Int32)], (C1, D, (vp_updL E 1 (r.toInt64))))) rfl ⟨rfl, trivial⟩ ?_
  exact z_Ev_iretE rfl rfl (by rfl) (by rfl)
theorem w_setting_2 {xs : Nat → Int32} {L : Nat} (p0 : Int32) (C C1 : Nat → Nat → Nat → Int32) (D : Nat → Nat → Int32) (E : Nat → Int64) (hX : z_Mt xs L m_X4_setting [aR 0 16, aI p0] (C, D, E) (.inr 2) (C1, D, E) 1) : z_Mt xs L m_L_setting [aR 0 16, aI p0, aR 0 40] (C, D, E) (.inl (some (aI 1))) (C1, D, E) 1 := by
  refine z_Ev_blk 4 (c' := (4, [some (aR 0 16), some (aI p0), some (aR 0 40), none], [aI p0, aR 0 16, aI (0 : Int32), aR 0 40], (C, D, E))) rfl trivial ?_
  refine z_Ev_catch (m := m_L_setting) (pc := 4) (k1 := 1) (k2 := 0) (m' := m_X4_setting) (as := [aR 0 16, aI p0]) (r := [aI (0 : Int32), aR 0 40]) (h := 13) (s := 3) hX rfl rfl rfl rfl rfl ?_
  refine z_Ev_blk 1 (c' := (14, [some (aR 0 16), some (aI p0), some (aR 0 40), none], [aI (1 : Int32)], (C1, D, E))) rfl trivial ?_
  exact z_Ev_iretE rfl rfl (by rfl) (by rfl)
theorem w_ifLost {xs : Nat → Int32} {L : Nat} (p0 : Int32) (r : Int32) (C C1 : Nat → Nat → Nat → Int32) (D : Nat → Nat → Int32) (E : Nat → Int64) (hX : z_Mt xs L m_X4_ifLost [aR 0 16, aI p0] (C, D, E) (.inl (some (aI r))) (C1, D, E) 0) : z_Mt xs L m_L_ifLost [aR 0 16, aI p0, aR 0 40] (C, D, E) (.inl (some (aI 0))) (C1, D, vp_updL E 1 r.toInt64) 0 := by
  refine z_Ev_blk 4 (c' := (4, [some (aR 0 16), some (aI p0), some (aR 0 40), none], [aI p0, aR 0 16, aI (0 : Int32), aR 0 40], (C, D, E))) rfl trivial ?_
  refine z_Ev_call0 (m' := m_X4_ifLost) (as := [aR 0 16, aI p0]) (r := [aI (0 : Int32), aR 0 40]) (hX) rfl rfl ?_
  refine z_Ev_blk 4 (c' := (16, [some (aR 0 16), some (aI p0), some (aR 0 40), none], [aI (0 : Int32)], (C1, D, (vp_updL E 1 (r.toInt64))))) rfl ⟨rfl, trivial⟩ ?_
  exact z_Ev_iretE rfl rfl (by rfl) (by rfl)
theorem w_ifLost_0 {xs : Nat → Int32} {L : Nat} (p0 : Int32) (C C1 : Nat → Nat → Nat → Int32) (D : Nat → Nat → Int32) (E : Nat → Int64) (hX : z_Mt xs L m_X4_ifLost [aR 0 16, aI p0] (C, D, E) (.inr 0) (C1, D, E) 1) : z_Mt xs L m_L_ifLost [aR 0 16, aI p0, aR 0 40] (C, D, E) (.inl (some (aI 1))) (C1, D, E) 1 := by
  refine z_Ev_blk 4 (c' := (4, [some (aR 0 16), some (aI p0), some (aR 0 40), none], [aI p0, aR 0 16, aI (0 : Int32), aR 0 40], (C, D, E))) rfl trivial ?_
  refine z_Ev_catch (m := m_L_ifLost) (pc := 4) (k1 := 1) (k2 := 0) (m' := m_X4_ifLost) (as := [aR 0 16, aI p0]) (r := [aI (0 : Int32), aR 0 40]) (h := 13) (s := 3) hX rfl rfl rfl rfl rfl ?_
  refine z_Ev_blk 1 (c' := (14, [some (aR 0 16), some (aI p0), some (aR 0 40), none], [aI (1 : Int32)], (C1, D, E))) rfl trivial ?_
  exact z_Ev_iretE rfl rfl (by rfl) (by rfl)
theorem w_cheapest {xs : Nat → Int32} {L : Nat} (p0 : Int32) (p1 : Int32) (r : Int32) (C C1 : Nat → Nat → Nat → Int32) (D : Nat → Nat → Int32) (E : Nat → Int64) (hX : z_Mt xs L m_X4_cheapest [aR 0 16, aI p0, aI p1] (C, D, E) (.inl (some (aI r))) (C1, D, E) 0) : z_Mt xs L m_L_cheapest [aR 0 16, aI p0, aI p1, aR 0 40] (C, D, E) (.inl (some (aI 0))) (C1, D, vp_updL E 1 r.toInt64) 0 := by
  refine z_Ev_blk 5 (c' := (5, [some (aR 0 16), some (aI p0), some (aI p1), some (aR 0 40), none], [aI p1, aI p0, aR 0 16, aI (0 : Int32), aR 0 40], (C, D, E))) rfl trivial ?_
  refine z_Ev_call0 (m' := m_X4_cheapest) (as := [aR 0 16, aI p0, aI p1]) (r := [aI (0 : Int32), aR 0 40]) (hX) rfl rfl ?_
  refine z_Ev_blk 4 (c' := (18, [some (aR 0 16), some (aI p0), some (aI p1), some (aR 0 40), none], [aI (0 : Int32)], (C1, D, (vp_updL E 1 (r.toInt64))))) rfl ⟨rfl, trivial⟩ ?_
  exact z_Ev_iretE rfl rfl (by rfl) (by rfl)
theorem w_cheapest_0 {xs : Nat → Int32} {L : Nat} (p0 : Int32) (p1 : Int32) (C C1 : Nat → Nat → Nat → Int32) (D : Nat → Nat → Int32) (E : Nat → Int64) (hX : z_Mt xs L m_X4_cheapest [aR 0 16, aI p0, aI p1] (C, D, E) (.inr 0) (C1, D, E) 1) : z_Mt xs L m_L_cheapest [aR 0 16, aI p0, aI p1, aR 0 40] (C, D, E) (.inl (some (aI 1))) (C1, D, E) 1 := by
  refine z_Ev_blk 5 (c' := (5, [some (aR 0 16), some (aI p0), some (aI p1), some (aR 0 40), none], [aI p1, aI p0, aR 0 16, aI (0 : Int32), aR 0 40], (C, D, E))) rfl trivial ?_
  refine z_Ev_catch (m := m_L_cheapest) (pc := 5) (k1 := 1) (k2 := 0) (m' := m_X4_cheapest) (as := [aR 0 16, aI p0, aI p1]) (r := [aI (0 : Int32), aR 0 40]) (h := 15) (s := 4) hX rfl rfl rfl rfl rfl ?_
  refine z_Ev_blk 1 (c' := (16, [some (aR 0 16), some (aI p0), some (aI p1), some (aR 0 40), none], [aI (1 : Int32)], (C1, D, E))) rfl trivial ?_
  exact z_Ev_iretE rfl rfl (by rfl) (by rfl)
