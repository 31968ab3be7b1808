/-! THE START: the law up to its loop -/
set_option maxRecDepth 100000 in
theorem gL4 : GoodIn lw_tbl wsX4_init := goodIn_of _ (by decide +kernel)
set_option maxHeartbeats 8000000 in
set_option maxRecDepth 100000 in
/-- the law, from its entry to its loop -/
theorem law_enter {p : Program} {l : Launch} {e : Env} {s : State} {m : MethodId} {below : List Frame} {meth : Method} {c : Code} {b : Nat} {dC : Nat → ClassId} {dI : Nat → Nat → Nat} {cs : Nat → ClassId} {Q : State → Prop} (hx : p.tables.exec = Jvm.exec) (hb : c.code = cL_law) (hml : c.maxLocals = 9) (hown : s.vm.findClass RL = some m.cls) (hts : ∀ w ∈ lw_tbl, w.before #[Value.ref b] s = true) (hKC : z_KC (dC, dI) cs s)
    (kk : ∀ (h1 : Nat) (u : (Nat → Nat) × (Nat → (Nat → Nat) × (Nat → Nat)) × (Nat → Nat) × (Nat → Nat)) (ls : Array Slot) (H : Heap) (locs : List Loc), lv_has ls 9 [(1, .ref h1), (0, .ref b)] → va_P (dC, dI) vwCl (wLw h1 cs u) H → va_D (fun q => s.heap.size ≤ q) (wLw h1 cs u) → va_S (fun q => s.heap.size ≤ q) s.heap H locs → W p l e room_1 s m #[Value.ref b] below meth c H locs 168 6497 Q (F0 m 8 ls [])) :
    W p l e room_1 s m #[Value.ref b] below meth c s.heap [] 0 0 Q (entryFrame m ([Value.ref b] : List Value).toArray 9) := by
  have hK := hKC.1
  obtain ⟨A, hAd⟩ : ∃ A : Nat → Prop, A = fun q => s.heap.size ≤ q := ⟨_, rfl⟩
  have hA : ∀ q, s.heap.size ≤ q → A q := fun q h => by rw [hAd]; exact h
  have hS : va_S A s.heap s.heap [] := va_S.rf
  have hP : va_P (dC, dI) vwCl ([] : va_W) s.heap := fun k q h => by simp at h
  have hD : va_D A ([] : va_W) := ⟨fun i j p q h => by simp at h, fun k q h => by simp at h⟩
  have hl := lv_entry ([.ref b]) (n := 9) (Nat.le_of_ble_eq_true rfl)
  rw [lg_entry_eq]
  generalize (lg_sl ([.ref b]) ++ List.replicate (9 - (lg_sl ([.ref b])).length) Slot.unset).toArray = ls at hl ⊢
  have hl : lv_has ls 9 [(0, .ref b)] := hl
  refine va_new (D := (dC, dI)) (cl := vwCl) (ci := 4) (fs := [.null, .null, .null, .int 0, .int 0, .null, .int 0, .null, .null]) (C := RX4) (T := TX4) (N := 9) hx hb hts (by decide +kernel) tyX4 tyX4_ok hown (hts (.classLink RL 15 RX4) (by decide +kernel)) (hts (.instantiable RX4 9) (by decide +kernel)) (hts (.initialized RX4) (by decide +kernel)) hK hP hD hS hA rfl (fun j hj => by rcases (show j = 0 ∨ j = 1 ∨ j = 2 ∨ j = 3 ∨ j = 4 ∨ j = 5 ∨ j = 6 ∨ j = 7 ∨ j = 8 by omega) with rfl | rfl | rfl | rfl | rfl | rfl | rfl | rfl | rfl <;> rfl) (Nat.le_of_ble_eq_true rfl) (Nat.le_of_ble_eq_true rfl) dL_law_0 (fun q0 H hP hD hS => ?_)
  refine lv_dup hx hb dL_law_3 rfl ?_
  refine mk_call (S := (Nat → Nat) × (Nat → (Nat → Nat) × (Nat → Nat)) × (Nat → Nat) × (Nat → Nat)) (ws := ([] : va_W)) (q := (q0, .inr (4, [.null, .null, .null, .int 0, .int 0, .null, .int 0, .null, .null]))) (wN := wIR q0 cs) (K1 := fun _ t => z_KC (dC, dI) cs t) (va_runI (As := []) (rest := [.ref q0]) ⟨hx, hb, hml, hown, hts⟩ (c_X4_init l dC dI q0 H.size cs) (cwI 0 hts gL4 rfl rfl rfl (hts (.initialized RX4) (by decide +kernel)) (hts (.methodLink RL 75 yX4_init) (by decide +kernel)) (hts (.instanceMethod yX4_init) (by decide +kernel)) rfl (by decide +kernel) ⟨Nat.le_of_ble_eq_true rfl, Nat.le_of_ble_eq_true rfl⟩) (mk_pre hP hD (fun a U g mk h => z_KC.moved (U := U.calling g mk a) (State.WarmedH.refl U) h) (fun U hW => z_KC.moved hW hKC)) rfl rfl hl.1 rfl (lv_room (Nat.le_of_ble_eq_true rfl)) dL_law_4 ⟨by decide, by decide⟩) hP hD hS hA (fun u0 H locs hP hD hS => ?_)
  have hP : va_P (dC, dI) vwCl (wIR q0 cs u0) H := hP
  have hD : va_D A (wIR q0 cs u0) := hD
  refine lv_astore_n hx hb dL_law_7 rfl hl (by decide) (lv' := [(1, .ref q0), (0, .ref b)]) rfl (fun ls hl => ?_)
  subst hAd
  refine W.widen (k := 168) (n := 6497) (by decide) (by decide) ?_
  exact kk q0 u0 ls H _ hl hP hD hS
