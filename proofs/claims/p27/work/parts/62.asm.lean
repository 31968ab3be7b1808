/-! THE START: the memory -/
theorem arr_cg {cA : ClassId} {n : Nat} {f g : Nat → Value} (h : ∀ k, k < n → f k = g k) : arrV cA n f = arrV cA n g := by
  have e : (fun j : Fin n => f j.val) = fun j : Fin n => g j.val := funext fun j => h j.val j.isLt
  unfold arrV
  rw [e]
section AS
variable {D : va_G} {cl : List vw_C} {H : Heap} {a n : Nat} {c : ClassId} {w w2 : va_W}
theorem at_i {g g' : Nat → Int32} (h : va_at D cl (a, .inl (c, n, .inl g)) H) (e : ∀ k, k < n → g k = g' k) : va_at D cl (a, .inl (c, n, .inl g')) H := by
  have h0 : H[a]? = some (arrV c n (fun j => .int (g j))) := h
  show H[a]? = some (arrV c n (fun j => .int (g' j)))
  rw [h0, arr_cg (f := fun j => .int (g j)) (g := fun j => .int (g' j)) (fun k hk => by show Value.int (g k) = .int (g' k); rw [e k hk])]
theorem at_q {g g' : Nat → Option Nat} (h : va_at D cl (a, .inl (c, n, .inr (.inr (.inr (.inr g))))) H) (e : ∀ k, k < n → g k = g' k) : va_at D cl (a, .inl (c, n, .inr (.inr (.inr (.inr g'))))) H := by
  have h0 : H[a]? = some (arrV c n (fun j => va_rf (g j))) := h
  show H[a]? = some (arrV c n (fun j => va_rf (g' j)))
  rw [h0, arr_cg (f := fun j => va_rf (g j)) (g := fun j => va_rf (g' j)) (fun k hk => by show va_rf (g k) = va_rf (g' k); rw [e k hk])]
theorem P_l (h : va_P D cl (w ++ w2) H) : va_P D cl w H := fun k q hq => h k q (by rw [List.getElem?_append_left (List.getElem?_eq_some_iff.mp hq).1]; exact hq)
theorem P_r (h : va_P D cl (w ++ w2) H) : va_P D cl w2 H := fun k q hq => h (w.length + k) q (by rw [List.getElem?_append_right (by omega), Nat.add_sub_cancel_left]; exact hq)
end AS
theorem m0_40 : ∀ k, k < 48 → m0 (40 + k) = 100 := by decide +kernel
theorem m0_88 : ∀ k, k < 48 → ∀ r, r < 6 → m0 (88 + 6 * k + r) = 0 := by decide +kernel
/-- the memory at the start -/
def R0 : Nat → Nat → Int32 := cmR (fun _ => 0) (fun _ => 0) (fun _ => 0) (fun _ => 0) (fun _ => 0) (fun _ => 0) (fun _ => 0) (fun _ => 0)
def M0 : Mem := (cmx (fun _ => m0) R0, fun _ _ => 0, fun _ => 0)
theorem M0_eq : M0 = (cm m0 m0 (fun _ => m0) (fun _ => 0) (fun _ => 0) (fun _ => 0) (fun _ => 0) (fun _ => 0) (fun _ => 0) (fun _ => 0) (fun _ => 0), fun _ _ => 0, fun _ => 0) := by
  have e : cmI m0 m0 (fun _ => m0) = fun _ => m0 := by
    funext g
    match g with
    | 0 => rfl
    | 1 => rfl
    | g + 2 => rfl
  unfold M0 R0 cm
  rw [e]
/-- the addresses -/
def adW (b h1 : Nat) (u : (Nat → Nat) × (Nat → (Nat → Nat) × (Nat → Nat)) × (Nat → Nat) × (Nat → Nat)) : z_ad := fun f p => match p with
  | 0 => u.1 f
  | 1 => (u.2.1 f).1 0
  | 2 => (u.2.1 f).1 1
  | 3 => (u.2.1 f).1 2
  | 4 => (u.2.1 f).1 3
  | 5 => (u.2.1 f).1 4
  | 6 => (u.2.1 f).1 5
  | 7 => (u.2.1 f).1 6
  | 8 => (u.2.1 f).1 7
  | 9 => (u.2.1 f).1 8
  | 10 => (u.2.1 f).1 9
  | 11 => (u.2.1 (f / 7)).2 (f % 7)
  | 12 => (u.2.1 f).1 10
  | 16 => h1
  | 17 => u.1 8
  | 18 => u.1 9
  | 19 => u.1 10
  | 20 => u.2.2.1 0
  | 21 => u.2.2.1 1
  | 22 => u.2.2.1 2
  | 23 => u.1 11
  | 24 => u.2.2.2 0
  | _ => b
def islC (f : Nat) : List (Nat × Nat) := [(f, 0), (f, 1), (f, 2), (f, 3), (f, 4), (f, 5), (f, 6), (f, 7), (f, 8), (f, 9), (f, 10), (f, 12), (7 * f + 0, 11), (7 * f + 1, 11), (7 * f + 2, 11), (7 * f + 3, 11), (7 * f + 4, 11), (7 * f + 5, 11), (7 * f + 6, 11)]
/-- the parts in the order in which the constructors lay them -/
def codesW : List (Nat × Nat) := [(0, 16)] ++ islC 0 ++ islC 1 ++ [(0, 17)] ++ [(0, 18)] ++ [(0, 19), (0, 20), (0, 21), (0, 22)] ++ [(0, 23), (0, 24)] ++ islC 2 ++ islC 3 ++ islC 4 ++ islC 5 ++ islC 6 ++ islC 7
theorem codes_all : z_pts.all (fun q => codesW.any (fun r => Nat.beq r.1 q.1 && Nat.beq r.2 q.2)) = true := by decide +kernel
/-- the world when the law's loop begins -/
def wLw (h1 : Nat) (cs : Nat → ClassId) (u : (Nat → Nat) × (Nat → (Nat → Nat) × (Nat → Nat)) × (Nat → Nat) × (Nat → Nat)) : va_W := wIR h1 cs u
section AW
variable {D : va_G} {H : Heap} {b h1 : Nat} {cs : Nat → ClassId} {u : (Nat → Nat) × (Nat → (Nat → Nat) × (Nat → Nat)) × (Nat → Nat) × (Nat → Nat)} {A : Nat → Prop}
theorem isl_fst (f : Nat) : (wIs (u.1 f) cs (u.2.1 f)).map Prod.fst = (islC f).map (fun q => adW b h1 u q.1 q.2) := by
  have e : ∀ i, i < 7 → adW b h1 u (7 * f + i) 11 = (u.2.1 f).2 i := fun i hi => by
    show (u.2.1 ((7 * f + i) / 7)).2 ((7 * f + i) % 7) = _
    rw [show (7 * f + i) / 7 = f by omega, show (7 * f + i) % 7 = i by omega]
  unfold wIs islC
  simp only [List.map_cons, List.map_nil]
  rw [e 0 (by decide), e 1 (by decide), e 2 (by decide), e 3 (by decide), e 4 (by decide), e 5 (by decide), e 6 (by decide)]
  rfl
theorem w_fst : (wLw h1 cs u).map Prod.fst = codesW.map (fun q => adW b h1 u q.1 q.2) := by
  unfold wLw wIR codesW
  simp only [List.map_append, isl_fst (b := b) (h1 := h1)]
  rfl
theorem in_codes {f p : Nat} (h : z_val f p = true) : ∃ i : Nat, codesW[i]? = some (f, p) := by
  have h1 := List.all_eq_true.mp codes_all _ (List.mem_of_getElem? (z_ix_ok h))
  obtain ⟨r, h2, h3⟩ := List.any_eq_true.mp h1
  obtain ⟨h4, h5⟩ := Bool.and_eq_true_iff.mp h3
  have e1 : r.1 = f := Nat.eq_of_beq_eq_true h4
  have e2 : r.2 = p := Nat.eq_of_beq_eq_true h5
  obtain ⟨i, hi⟩ := List.getElem?_of_mem h2
  exact ⟨i, by rw [hi, ← e1, ← e2]⟩
theorem w_at {i f p : Nat} (h : codesW[i]? = some (f, p)) : ∃ e, (wLw h1 cs u)[i]? = some (adW b h1 u f p, e) := by
  have e : ((wLw h1 cs u).map Prod.fst)[i]? = (codesW.map (fun q => adW b h1 u q.1 q.2))[i]? := by rw [w_fst (b := b)]
  rw [List.getElem?_map, List.getElem?_map, h] at e
  cases hx : (wLw h1 cs u)[i]? with
  | none => rw [hx] at e; cases e
  | some x =>
    rw [hx] at e
    have e3 : x.1 = adW b h1 u f p := Option.some.inj e
    exact ⟨x.2, by rw [← e3]⟩
theorem asm_D (hD : va_D A (wLw h1 cs u)) : z_AD A (adW b h1 u) := by
  refine ⟨fun f p f' p' hv hv' e => ?_, fun f p hv => ?_⟩
  · obtain ⟨i, hi⟩ := in_codes hv
    obtain ⟨j, hj⟩ := in_codes hv'
    obtain ⟨e1, g1⟩ := w_at (b := b) (h1 := h1) (cs := cs) (u := u) hi
    obtain ⟨e2, g2⟩ := w_at (b := b) (h1 := h1) (cs := cs) (u := u) hj
    have hij := hD.1 i j _ _ g1 g2 e
    subst hij
    exact Option.some.inj (hi.symm.trans hj)
  · obtain ⟨i, hi⟩ := in_codes hv
    obtain ⟨e1, g1⟩ := w_at (b := b) (h1 := h1) (cs := cs) (u := u) hi
    exact hD.2 i _ g1
theorem asm_I (h : va_P D vwCl (wIR h1 cs u) H) : ∀ f, f < 8 → va_P D vwCl (wIs (u.1 f) cs (u.2.1 f)) H := by
  unfold wIR at h
  intro f hf
  match f, hf with
  | 0, _ => exact P_r (P_l (P_l (P_l (P_l (P_l (P_l (P_l (P_l (P_l (P_l (P_l (h))))))))))))
  | 1, _ => exact P_r (P_l (P_l (P_l (P_l (P_l (P_l (P_l (P_l (P_l (P_l (h)))))))))))
  | 2, _ => exact P_r (P_l (P_l (P_l (P_l (P_l (h))))))
  | 3, _ => exact P_r (P_l (P_l (P_l (P_l (h)))))
  | 4, _ => exact P_r (P_l (P_l (P_l (h))))
  | 5, _ => exact P_r (P_l (P_l (h)))
  | 6, _ => exact P_r (P_l (h))
  | 7, _ => exact P_r (h)
/-- a part of an island -/
theorem asm_f (h : va_P D vwCl (wIR h1 cs u) H) (p f : Nat) (hf : f < 8) (hp : p < 13) (hp1 : p ≠ 11) : va_at D vwCl (adW b h1 u f p, z_en (adW b h1 u) cs M0 f p) H := by
  have hI := asm_I h f hf
  match p, hp, hp1 with
  | 0, _, _ => exact hI 0 _ rfl
  | 1, _, _ => exact hI 1 _ rfl
  | 2, _, _ => exact at_i (hI 2 _ rfl) (fun k hk => by match k, hk with | 0, _ => rfl | 1, _ => rfl | 2, _ => rfl | 3, _ => rfl)
  | 3, _, _ => exact at_i (hI 3 _ rfl) (fun k hk => by match k, hk with | 0, _ => rfl | 1, _ => rfl | 2, _ => rfl | 3, _ => rfl)
  | 4, _, _ => exact at_i (hI 4 _ rfl) (fun k hk => by match k, hk with | 0, _ => rfl | 1, _ => rfl | 2, _ => rfl | 3, _ => rfl)
  | 5, _, _ => exact at_i (hI 5 _ rfl) (fun k hk => by match k, hk with | 0, _ => rfl | 1, _ => rfl | 2, _ => rfl | 3, _ => rfl)
  | 6, _, _ => exact at_i (hI 6 _ rfl) (fun k hk => by match k, hk with | 0, _ => rfl | 1, _ => rfl | 2, _ => rfl | 3, _ => rfl)
  | 7, _, _ => exact at_i (hI 7 _ rfl) (fun k hk => by match k, hk with | 0, _ => rfl | 1, _ => rfl | 2, _ => rfl | 3, _ => rfl)
  | 8, _, _ => exact at_i (hI 8 _ rfl) (fun k hk => by match k, hk with | 0, _ => rfl | 1, _ => rfl | 2, _ => rfl | 3, _ => rfl)
  | 9, _, _ => exact at_i (hI 9 _ rfl) (fun k hk => by match k, hk with | 0, _ => rfl | 1, _ => rfl | 2, _ => rfl | 3, _ => rfl)
  | 10, _, _ =>
    refine at_q (hI 10 _ rfl) (fun k hk => ?_)
    rw [if_pos hk]
    show some ((u.2.1 f).2 k) = some ((u.2.1 ((7 * f + k) / 7)).2 ((7 * f + k) % 7))
    rw [show (7 * f + k) / 7 = f by omega, show (7 * f + k) % 7 = k by omega]
  | 12, _, _ => exact at_i (hI 11 _ rfl) (fun k hk => by match k, hk with | 0, _ => rfl | 1, _ => rfl)
/-- a row of the hours -/
theorem asm_h (h : va_P D vwCl (wIR h1 cs u) H) (g r : Nat) (hg : g < 8) (hr : r < 7) : va_at D vwCl (adW b h1 u (7 * g + r) 11, z_en (adW b h1 u) cs M0 (7 * g + r) 11) H := by
  have hI := asm_I h g hg
  have e1 : (7 * g + r) / 7 = g := by omega
  have e2 : (7 * g + r) % 7 = r := by omega
  show va_at D vwCl ((u.2.1 ((7 * g + r) / 7)).2 ((7 * g + r) % 7), .inl (cs 0, 48, .inl (fun k => bif Nat.blt k 48 then m0 (bif Nat.beq ((7 * g + r) % 7) 0 then 40 + k else 88 + 6 * k + ((7 * g + r) % 7 - 1)) else 0))) H
  rw [e1, e2]
  have hb : ∀ k, k < 48 → Nat.blt k 48 = true := fun k hk => Nat.ble_eq.mpr hk
  match r, hr with
  | 0, _ =>
    refine at_i (hI 12 _ rfl) (fun k hk => ?_)
    rw [hb k hk]
    show fil 100 (fun _ => 0) 48 k = m0 (40 + k)
    rw [m0_40 k hk]
    exact if_pos hk
  | 1, _ =>
    refine at_i (hI 13 _ rfl) (fun k hk => ?_)
    rw [hb k hk]
    exact (m0_88 k hk 0 (by decide)).symm
  | 2, _ =>
    refine at_i (hI 14 _ rfl) (fun k hk => ?_)
    rw [hb k hk]
    exact (m0_88 k hk 1 (by decide)).symm
  | 3, _ =>
    refine at_i (hI 15 _ rfl) (fun k hk => ?_)
    rw [hb k hk]
    exact (m0_88 k hk 2 (by decide)).symm
  | 4, _ =>
    refine at_i (hI 16 _ rfl) (fun k hk => ?_)
    rw [hb k hk]
    exact (m0_88 k hk 3 (by decide)).symm
  | 5, _ =>
    refine at_i (hI 17 _ rfl) (fun k hk => ?_)
    rw [hb k hk]
    exact (m0_88 k hk 4 (by decide)).symm
  | 6, _ =>
    refine at_i (hI 18 _ rfl) (fun k hk => ?_)
    rw [hb k hk]
    exact (m0_88 k hk 5 (by decide)).symm
/-- the rest of the class -/
theorem asm_c (h : va_P D vwCl (wIR h1 cs u) H) (p : Nat) (h16 : 16 ≤ p) (h24 : p < 25) : va_at D vwCl (adW b h1 u 0 p, z_en (adW b h1 u) cs M0 0 p) H := by
  unfold wIR at h
  rcases (show p = 16 ∨ p = 17 ∨ p = 18 ∨ p = 19 ∨ p = 20 ∨ p = 21 ∨ p = 22 ∨ p = 23 ∨ p = 24 by omega) with rfl | rfl | rfl | rfl | rfl | rfl | rfl | rfl | rfl
  · exact (P_l (P_l (P_l (P_l (P_l (P_l (P_l (P_l (P_l (P_l (P_l (P_l (h))))))))))))) 0 _ rfl
  · exact at_q ((P_r (P_l (P_l (P_l (P_l (P_l (P_l (P_l (P_l (P_l (h))))))))))) 0 _ rfl) (fun k hk => by match k, hk with | 0, _ => rfl | 1, _ => rfl | 2, _ => rfl | 3, _ => rfl | 4, _ => rfl | 5, _ => rfl)
  · exact at_i ((P_r (P_l (P_l (P_l (P_l (P_l (P_l (P_l (P_l (h)))))))))) 0 _ rfl) (fun k hk => rfl)
  · exact (P_r (P_l (P_l (P_l (P_l (P_l (P_l (P_l (h))))))))) 0 _ rfl
  · exact at_i ((P_r (P_l (P_l (P_l (P_l (P_l (P_l (P_l (h))))))))) 1 _ rfl) (fun k hk => rfl)
  · exact at_i ((P_r (P_l (P_l (P_l (P_l (P_l (P_l (P_l (h))))))))) 2 _ rfl) (fun k hk => rfl)
  · exact at_i ((P_r (P_l (P_l (P_l (P_l (P_l (P_l (P_l (h))))))))) 3 _ rfl) (fun k hk => rfl)
  · exact (P_r (P_l (P_l (P_l (P_l (P_l (P_l (h)))))))) 0 _ rfl
  · exact at_i ((P_r (P_l (P_l (P_l (P_l (P_l (P_l (h)))))))) 1 _ rfl) (fun k hk => rfl)
theorem asm_at (h : va_P D vwCl (wLw h1 cs u) H) (f p : Nat) (hv : z_val f p = true) : va_at D vwCl (adW b h1 u f p, z_en (adW b h1 u) cs M0 f p) H := by
  unfold wLw at h
  have hR := h
  unfold z_val at hv
  split at hv
  · exact asm_f hR 0 f (Nat.ble_eq.mp hv) (by decide) (by decide)
  · exact asm_f hR 1 f (Nat.ble_eq.mp hv) (by decide) (by decide)
  · exact asm_f hR 2 f (Nat.ble_eq.mp hv) (by decide) (by decide)
  · exact asm_f hR 3 f (Nat.ble_eq.mp hv) (by decide) (by decide)
  · exact asm_f hR 4 f (Nat.ble_eq.mp hv) (by decide) (by decide)
  · exact asm_f hR 5 f (Nat.ble_eq.mp hv) (by decide) (by decide)
  · exact asm_f hR 6 f (Nat.ble_eq.mp hv) (by decide) (by decide)
  · exact asm_f hR 7 f (Nat.ble_eq.mp hv) (by decide) (by decide)
  · exact asm_f hR 8 f (Nat.ble_eq.mp hv) (by decide) (by decide)
  · exact asm_f hR 9 f (Nat.ble_eq.mp hv) (by decide) (by decide)
  · exact asm_f hR 10 f (Nat.ble_eq.mp hv) (by decide) (by decide)
  · exact asm_f hR 12 f (Nat.ble_eq.mp hv) (by decide) (by decide)
  · have hf : f < 56 := Nat.ble_eq.mp hv
    have e : f = 7 * (f / 7) + f % 7 := by omega
    rw [e]
    exact asm_h hR (f / 7) (f % 7) (by omega) (by omega)
  · have e : f = 0 := Nat.eq_of_beq_eq_true hv
    subst e
    exact asm_c hR 16 (by decide) (by decide)
  · have e : f = 0 := Nat.eq_of_beq_eq_true hv
    subst e
    exact asm_c hR 17 (by decide) (by decide)
  · have e : f = 0 := Nat.eq_of_beq_eq_true hv
    subst e
    exact asm_c hR 18 (by decide) (by decide)
  · have e : f = 0 := Nat.eq_of_beq_eq_true hv
    subst e
    exact asm_c hR 19 (by decide) (by decide)
  · have e : f = 0 := Nat.eq_of_beq_eq_true hv
    subst e
    exact asm_c hR 20 (by decide) (by decide)
  · have e : f = 0 := Nat.eq_of_beq_eq_true hv
    subst e
    exact asm_c hR 21 (by decide) (by decide)
  · have e : f = 0 := Nat.eq_of_beq_eq_true hv
    subst e
    exact asm_c hR 22 (by decide) (by decide)
  · have e : f = 0 := Nat.eq_of_beq_eq_true hv
    subst e
    exact asm_c hR 23 (by decide) (by decide)
  · have e : f = 0 := Nat.eq_of_beq_eq_true hv
    subst e
    exact asm_c hR 24 (by decide) (by decide)
  · cases hv
theorem asm_P (h : va_P D vwCl (wLw h1 cs u) H) : va_P D vwCl (z_W (adW b h1 u) cs M0) H := by
  intro k q hq
  unfold z_W at hq
  rw [List.getElem?_map] at hq
  cases hr : z_pts[k]? with
  | none => rw [hr] at hq; cases hq
  | some r =>
    rw [hr] at hq
    cases hq
    exact asm_at h r.1 r.2 (List.all_eq_true.mp z_pts_val r (List.mem_of_getElem? hr))
end AW
theorem okk_m0 : ∀ k, k < 4 → okk m0 k := by
  unfold okk
  decide +kernel
/-- what holds of the memory at the start -/
theorem Vs_0 : Vs m0 0 := ⟨okk_m0, ⟨rfl, by decide⟩, by decide +kernel, rfl, rfl, fun h hh => by rw [m0_40 h hh]; decide, by decide +kernel, by decide +kernel, rfl, rfl, fun h hh => absurd hh (Nat.not_lt_zero h)⟩
theorem Xk_0 : ∀ k, k < 4 → Xk m0 0 k := by
  unfold Xk
  decide +kernel
theorem Xs_0 : Xs m0 0 := ⟨Xk_0, fun h hh => absurd hh (Nat.not_lt_zero h)⟩
theorem Wd_0 : Wd m0 [] M0 := ⟨m0, fun _ => m0, fun _ => 0, fun _ => 0, fun _ => 0, fun _ => 0, fun _ => 0, fun _ => 0, fun _ => 0, fun _ => 0, fun _ _ => 0, fun _ => 0, 0, 0, M0_eq, rfl, rfl, by decide, by decide, trivial⟩
