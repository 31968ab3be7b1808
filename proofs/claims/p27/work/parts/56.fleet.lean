/-! THE CONSTRUCTORS: Fleet -/
theorem va_same {D : va_G} {cl : List vw_C} {U : State} {cA cI : ClassId} (h : va_K D cl ([(cI, .int)] ++ [(cA, .int)]) U) : cA = cI := by
  have h1 : U.vm.findClass ("[" ++ FieldType.int.toString) = some cI := (h.2 0 (cI, .int) rfl).2
  have h2 : U.vm.findClass ("[" ++ FieldType.int.toString) = some cA := (h.2 1 (cA, .int) rfl).2
  exact Option.some.inj (h2.symm.trans h1)
def wFl (h0 : Nat) (cI : ClassId) (u : Nat → Nat) : va_W := [(h0, .inr (0, [.ref (u 0), .ref (u 1), .ref (u 2), .ref (u 3), .ref (u 4), .ref (u 5), .ref (u 6), .ref (u 7)])), (u 0, .inl (cI, 4, .inl (fil 200 (fun _ => 0) 4))), (u 1, .inl (cI, 4, .inl (fil 60 (fun _ => 0) 4))), (u 2, .inl (cI, 4, .inl (upd (upd (upd (upd (fun _ => 0) 0 10) 1 20) 2 30) 3 40))), (u 3, .inl (cI, 4, .inl (fil 1 (fun _ => 0) 4))), (u 4, .inl (cI, 4, .inl (fun _ => 0))), (u 5, .inl (cI, 4, .inl (fun _ => 0))), (u 6, .inl (cI, 4, .inl (fun _ => 0))), (u 7, .inl (cI, 4, .inl (fun _ => 0)))]
set_option maxHeartbeats 2000000 in
set_option maxRecDepth 100000 in
/-- Fleet() -/
theorem c_X0_init (l : Launch) (dC : Nat → ClassId) (dI : Nat → Nat → Nat) (h0 sz : Nat) (cI : ClassId) : Met l yX0_init wsX0_init ({ frames := 1, cells := 8, slots := 32, locals := 30 }) (va_Pc [.ref h0] (fun U => U.heap.size = sz ∧ va_P (dC, dI) vwCl [(h0, .inr (0, [.null, .null, .null, .null, .null, .null, .null, .null]))] U.heap ∧ va_K (dC, dI) vwCl [(cI, .int)] U ∧ va_D (fun _ => True) [(h0, .inr (0, [.null, .null, .null, .null, .null, .null, .null, .null]))])) (va_Qv (fun _ : Nat → Nat => True) (fun u t => va_P (dC, dI) vwCl (wFl h0 cI u) t.heap ∧ va_K (dC, dI) vwCl [(cI, .int)] t ∧ va_D (va_A [(h0, .inr (0, [.null, .null, .null, .null, .null, .null, .null, .null]))] sz) (wFl h0 cI u)) (va_A [(h0, .inr (0, [.null, .null, .null, .null, .null, .null, .null, .null]))] sz)) 8 32 (va_A [(h0, .inr (0, [.null, .null, .null, .null, .null, .null, .null, .null]))] sz) := by
  refine Met.ofW (cc := cX0_init) (maxL := 2) (ret := none) (by decide) rfl ?_
  intro p e s m args below meth c s₁ B hml hv
  obtain ⟨rfl, hsz, hP, hK, hD0⟩ := hv
  have hx := B.exec
  have hb := B.bytes
  have hr := B.returns
  have hts := atoms_spec (ws := wsX0_init) B.pre
  have hown : s.vm.findClass RX0 = some m.cls := findClass_of_methodNamed B.named
  have hin : meth.name = "<init>" := (name_of_methodNamed B.named B.method).1
  subst hsz
  have hD := hD0.self (sz := s.heap.size)
  generalize hAe : va_A [(h0, .inr (0, [.null, .null, .null, .null, .null, .null, .null, .null]))] s.heap.size = A at hD ⊢
  have hA : ∀ q : Nat, s.heap.size ≤ q → A q := fun q h => by rw [← hAe]; exact Or.inr h
  have hS : va_S A s.heap s.heap [] := va_S.rf
  have hP : va_P (dC, dI) vwCl [(h0, .inr (0, [.null, .null, .null, .null, .null, .null, .null, .null]))] s.heap := hP
  have hl := lv_entry ([.ref h0]) (n := 2) (Nat.le_of_ble_eq_true rfl)
  rw [lg_entry_eq]
  generalize (lg_sl ([.ref h0]) ++ List.replicate (2 - (lg_sl ([.ref h0])).length) Slot.unset).toArray = ls at hl ⊢
  have hl : lv_has ls 2 [(0, .ref h0)] := hl
  refine lv_aload_n hx hb dX0_init_0 rfl (lv_at hl 0 rfl) ?_
  refine W.objInit hx hb hown (hts (.methodLink RX0 3 objectInit) (by decide +kernel)) (hts (.instanceMethod objectInit) (by decide +kernel)) (hts (.code objectInit ⟨#[0xb1]⟩ 1 none) (by decide +kernel)) rfl (by rw [hml]; exact hl.1) rfl dX0_init_1 (Nat.le_of_ble_eq_true rfl) (Nat.le_of_ble_eq_true rfl) ?_
  refine W.eq (g2 := F0 m 4 ls []) rfl ?_
  refine lv_aload_n hx hb dX0_init_4 rfl (lv_at hl 0 rfl) ?_
  refine lv_iconst (v := 4) hx hb dX0_init_5 rfl ?_
  refine va_newa (atype := .int) (D := (dC, dI)) (cl := vwCl) (tys := [(cI, .int)]) (n := 4) (a0 := (4, .inl (fun _ => 0))) hx hb (hts (.arrayClass .int) (by decide +kernel)) (ty := .int) rfl hK hP hD hS hA (fun _ => rfl) (by decide) (N' := 4) rfl (Nat.le_of_ble_eq_true rfl) (Nat.le_of_ble_eq_true rfl) (Nat.le_of_ble_eq_true rfl) dX0_init_6 (fun q6 cA H hK1 hP hD hS => ?_)
  obtain rfl : cI = cA := (va_same hK1).symm
  clear hK1
  have hP : va_P (dC, dI) vwCl [(h0, .inr (0, [.null, .null, .null, .null, .null, .null, .null, .null])), (q6, .inl (cI, 4, .inl (fun _ => 0)))] H := hP
  have hD : va_D A [(h0, .inr (0, [.null, .null, .null, .null, .null, .null, .null, .null])), (q6, .inl (cI, 4, .inl (fun _ => 0)))] := hD
  refine va_putF (D := (dC, dI)) (ci := 0) (v := .ref q6) (ty := .array .int) (C := RX0) (T := TX0) (N := 8) hx hb hts (by decide +kernel) tyX0 tyX0_ok nmX0 hown hK hP hD hS 0 rfl rfl 0 (by decide) (hts (.fieldLink RX0 9 "IslandReserve$Fleet" "greatest" "[I") (by decide +kernel)) (fun _ h9 => h9) rfl hin rfl (by decide +kernel) rfl rfl (Nat.le_of_ble_eq_true rfl) dX0_init_8 (fun H locs hP hD hS => ?_)
  have hP : va_P (dC, dI) vwCl [(h0, .inr (0, [.ref q6, .null, .null, .null, .null, .null, .null, .null])), (q6, .inl (cI, 4, .inl (fun _ => 0)))] H := hP
  have hD : va_D A [(h0, .inr (0, [.ref q6, .null, .null, .null, .null, .null, .null, .null])), (q6, .inl (cI, 4, .inl (fun _ => 0)))] := hD
  refine lv_aload_n hx hb dX0_init_11 rfl (lv_at hl 0 rfl) ?_
  refine lv_iconst (v := 4) hx hb dX0_init_12 rfl ?_
  refine va_newa (atype := .int) (D := (dC, dI)) (cl := vwCl) (tys := [(cI, .int)]) (n := 4) (a0 := (4, .inl (fun _ => 0))) hx hb (hts (.arrayClass .int) (by decide +kernel)) (ty := .int) rfl hK hP hD hS hA (fun _ => rfl) (by decide) (N' := 4) rfl (Nat.le_of_ble_eq_true rfl) (Nat.le_of_ble_eq_true rfl) (Nat.le_of_ble_eq_true rfl) dX0_init_13 (fun q13 cA H hK1 hP hD hS => ?_)
  obtain rfl : cI = cA := (va_same hK1).symm
  clear hK1
  have hP : va_P (dC, dI) vwCl [(h0, .inr (0, [.ref q6, .null, .null, .null, .null, .null, .null, .null])), (q6, .inl (cI, 4, .inl (fun _ => 0))), (q13, .inl (cI, 4, .inl (fun _ => 0)))] H := hP
  have hD : va_D A [(h0, .inr (0, [.ref q6, .null, .null, .null, .null, .null, .null, .null])), (q6, .inl (cI, 4, .inl (fun _ => 0))), (q13, .inl (cI, 4, .inl (fun _ => 0)))] := hD
  refine va_putF (D := (dC, dI)) (ci := 0) (v := .ref q13) (ty := .array .int) (C := RX0) (T := TX0) (N := 8) hx hb hts (by decide +kernel) tyX0 tyX0_ok nmX0 hown hK hP hD hS 0 rfl rfl 1 (by decide) (hts (.fieldLink RX0 15 "IslandReserve$Fleet" "least" "[I") (by decide +kernel)) (fun _ h9 => h9) rfl hin rfl (by decide +kernel) rfl rfl (Nat.le_of_ble_eq_true rfl) dX0_init_15 (fun H locs hP hD hS => ?_)
  have hP : va_P (dC, dI) vwCl [(h0, .inr (0, [.ref q6, .ref q13, .null, .null, .null, .null, .null, .null])), (q6, .inl (cI, 4, .inl (fun _ => 0))), (q13, .inl (cI, 4, .inl (fun _ => 0)))] H := hP
  have hD : va_D A [(h0, .inr (0, [.ref q6, .ref q13, .null, .null, .null, .null, .null, .null])), (q6, .inl (cI, 4, .inl (fun _ => 0))), (q13, .inl (cI, 4, .inl (fun _ => 0)))] := hD
  refine lv_aload_n hx hb dX0_init_18 rfl (lv_at hl 0 rfl) ?_
  refine lv_iconst (v := 4) hx hb dX0_init_19 rfl ?_
  refine va_newa (atype := .int) (D := (dC, dI)) (cl := vwCl) (tys := [(cI, .int)]) (n := 4) (a0 := (4, .inl (fun _ => 0))) hx hb (hts (.arrayClass .int) (by decide +kernel)) (ty := .int) rfl hK hP hD hS hA (fun _ => rfl) (by decide) (N' := 4) rfl (Nat.le_of_ble_eq_true rfl) (Nat.le_of_ble_eq_true rfl) (Nat.le_of_ble_eq_true rfl) dX0_init_20 (fun q20 cA H hK1 hP hD hS => ?_)
  obtain rfl : cI = cA := (va_same hK1).symm
  clear hK1
  have hP : va_P (dC, dI) vwCl [(h0, .inr (0, [.ref q6, .ref q13, .null, .null, .null, .null, .null, .null])), (q6, .inl (cI, 4, .inl (fun _ => 0))), (q13, .inl (cI, 4, .inl (fun _ => 0))), (q20, .inl (cI, 4, .inl (fun _ => 0)))] H := hP
  have hD : va_D A [(h0, .inr (0, [.ref q6, .ref q13, .null, .null, .null, .null, .null, .null])), (q6, .inl (cI, 4, .inl (fun _ => 0))), (q13, .inl (cI, 4, .inl (fun _ => 0))), (q20, .inl (cI, 4, .inl (fun _ => 0)))] := hD
  refine va_putF (D := (dC, dI)) (ci := 0) (v := .ref q20) (ty := .array .int) (C := RX0) (T := TX0) (N := 8) hx hb hts (by decide +kernel) tyX0 tyX0_ok nmX0 hown hK hP hD hS 0 rfl rfl 2 (by decide) (hts (.fieldLink RX0 18 "IslandReserve$Fleet" "merit" "[I") (by decide +kernel)) (fun _ h9 => h9) rfl hin rfl (by decide +kernel) rfl rfl (Nat.le_of_ble_eq_true rfl) dX0_init_22 (fun H locs hP hD hS => ?_)
  have hP : va_P (dC, dI) vwCl [(h0, .inr (0, [.ref q6, .ref q13, .ref q20, .null, .null, .null, .null, .null])), (q6, .inl (cI, 4, .inl (fun _ => 0))), (q13, .inl (cI, 4, .inl (fun _ => 0))), (q20, .inl (cI, 4, .inl (fun _ => 0)))] H := hP
  have hD : va_D A [(h0, .inr (0, [.ref q6, .ref q13, .ref q20, .null, .null, .null, .null, .null])), (q6, .inl (cI, 4, .inl (fun _ => 0))), (q13, .inl (cI, 4, .inl (fun _ => 0))), (q20, .inl (cI, 4, .inl (fun _ => 0)))] := hD
  refine lv_aload_n hx hb dX0_init_25 rfl (lv_at hl 0 rfl) ?_
  refine lv_iconst (v := 4) hx hb dX0_init_26 rfl ?_
  refine va_newa (atype := .int) (D := (dC, dI)) (cl := vwCl) (tys := [(cI, .int)]) (n := 4) (a0 := (4, .inl (fun _ => 0))) hx hb (hts (.arrayClass .int) (by decide +kernel)) (ty := .int) rfl hK hP hD hS hA (fun _ => rfl) (by decide) (N' := 4) rfl (Nat.le_of_ble_eq_true rfl) (Nat.le_of_ble_eq_true rfl) (Nat.le_of_ble_eq_true rfl) dX0_init_27 (fun q27 cA H hK1 hP hD hS => ?_)
  obtain rfl : cI = cA := (va_same hK1).symm
  clear hK1
  have hP : va_P (dC, dI) vwCl [(h0, .inr (0, [.ref q6, .ref q13, .ref q20, .null, .null, .null, .null, .null])), (q6, .inl (cI, 4, .inl (fun _ => 0))), (q13, .inl (cI, 4, .inl (fun _ => 0))), (q20, .inl (cI, 4, .inl (fun _ => 0))), (q27, .inl (cI, 4, .inl (fun _ => 0)))] H := hP
  have hD : va_D A [(h0, .inr (0, [.ref q6, .ref q13, .ref q20, .null, .null, .null, .null, .null])), (q6, .inl (cI, 4, .inl (fun _ => 0))), (q13, .inl (cI, 4, .inl (fun _ => 0))), (q20, .inl (cI, 4, .inl (fun _ => 0))), (q27, .inl (cI, 4, .inl (fun _ => 0)))] := hD
  refine va_putF (D := (dC, dI)) (ci := 0) (v := .ref q27) (ty := .array .int) (C := RX0) (T := TX0) (N := 8) hx hb hts (by decide +kernel) tyX0 tyX0_ok nmX0 hown hK hP hD hS 0 rfl rfl 3 (by decide) (hts (.fieldLink RX0 21 "IslandReserve$Fleet" "warmUp" "[I") (by decide +kernel)) (fun _ h9 => h9) rfl hin rfl (by decide +kernel) rfl rfl (Nat.le_of_ble_eq_true rfl) dX0_init_29 (fun H locs hP hD hS => ?_)
  have hP : va_P (dC, dI) vwCl [(h0, .inr (0, [.ref q6, .ref q13, .ref q20, .ref q27, .null, .null, .null, .null])), (q6, .inl (cI, 4, .inl (fun _ => 0))), (q13, .inl (cI, 4, .inl (fun _ => 0))), (q20, .inl (cI, 4, .inl (fun _ => 0))), (q27, .inl (cI, 4, .inl (fun _ => 0)))] H := hP
  have hD : va_D A [(h0, .inr (0, [.ref q6, .ref q13, .ref q20, .ref q27, .null, .null, .null, .null])), (q6, .inl (cI, 4, .inl (fun _ => 0))), (q13, .inl (cI, 4, .inl (fun _ => 0))), (q20, .inl (cI, 4, .inl (fun _ => 0))), (q27, .inl (cI, 4, .inl (fun _ => 0)))] := hD
  refine lv_aload_n hx hb dX0_init_32 rfl (lv_at hl 0 rfl) ?_
  refine lv_iconst (v := 4) hx hb dX0_init_33 rfl ?_
  refine va_newa (atype := .int) (D := (dC, dI)) (cl := vwCl) (tys := [(cI, .int)]) (n := 4) (a0 := (4, .inl (fun _ => 0))) hx hb (hts (.arrayClass .int) (by decide +kernel)) (ty := .int) rfl hK hP hD hS hA (fun _ => rfl) (by decide) (N' := 4) rfl (Nat.le_of_ble_eq_true rfl) (Nat.le_of_ble_eq_true rfl) (Nat.le_of_ble_eq_true rfl) dX0_init_34 (fun q34 cA H hK1 hP hD hS => ?_)
  obtain rfl : cI = cA := (va_same hK1).symm
  clear hK1
  have hP : va_P (dC, dI) vwCl [(h0, .inr (0, [.ref q6, .ref q13, .ref q20, .ref q27, .null, .null, .null, .null])), (q6, .inl (cI, 4, .inl (fun _ => 0))), (q13, .inl (cI, 4, .inl (fun _ => 0))), (q20, .inl (cI, 4, .inl (fun _ => 0))), (q27, .inl (cI, 4, .inl (fun _ => 0))), (q34, .inl (cI, 4, .inl (fun _ => 0)))] H := hP
  have hD : va_D A [(h0, .inr (0, [.ref q6, .ref q13, .ref q20, .ref q27, .null, .null, .null, .null])), (q6, .inl (cI, 4, .inl (fun _ => 0))), (q13, .inl (cI, 4, .inl (fun _ => 0))), (q20, .inl (cI, 4, .inl (fun _ => 0))), (q27, .inl (cI, 4, .inl (fun _ => 0))), (q34, .inl (cI, 4, .inl (fun _ => 0)))] := hD
  refine va_putF (D := (dC, dI)) (ci := 0) (v := .ref q34) (ty := .array .int) (C := RX0) (T := TX0) (N := 8) hx hb hts (by decide +kernel) tyX0 tyX0_ok nmX0 hown hK hP hD hS 0 rfl rfl 4 (by decide) (hts (.fieldLink RX0 24 "IslandReserve$Fleet" "phase" "[I") (by decide +kernel)) (fun _ h9 => h9) rfl hin rfl (by decide +kernel) rfl rfl (Nat.le_of_ble_eq_true rfl) dX0_init_36 (fun H locs hP hD hS => ?_)
  have hP : va_P (dC, dI) vwCl [(h0, .inr (0, [.ref q6, .ref q13, .ref q20, .ref q27, .ref q34, .null, .null, .null])), (q6, .inl (cI, 4, .inl (fun _ => 0))), (q13, .inl (cI, 4, .inl (fun _ => 0))), (q20, .inl (cI, 4, .inl (fun _ => 0))), (q27, .inl (cI, 4, .inl (fun _ => 0))), (q34, .inl (cI, 4, .inl (fun _ => 0)))] H := hP
  have hD : va_D A [(h0, .inr (0, [.ref q6, .ref q13, .ref q20, .ref q27, .ref q34, .null, .null, .null])), (q6, .inl (cI, 4, .inl (fun _ => 0))), (q13, .inl (cI, 4, .inl (fun _ => 0))), (q20, .inl (cI, 4, .inl (fun _ => 0))), (q27, .inl (cI, 4, .inl (fun _ => 0))), (q34, .inl (cI, 4, .inl (fun _ => 0)))] := hD
  refine lv_aload_n hx hb dX0_init_39 rfl (lv_at hl 0 rfl) ?_
  refine lv_iconst (v := 4) hx hb dX0_init_40 rfl ?_
  refine va_newa (atype := .int) (D := (dC, dI)) (cl := vwCl) (tys := [(cI, .int)]) (n := 4) (a0 := (4, .inl (fun _ => 0))) hx hb (hts (.arrayClass .int) (by decide +kernel)) (ty := .int) rfl hK hP hD hS hA (fun _ => rfl) (by decide) (N' := 4) rfl (Nat.le_of_ble_eq_true rfl) (Nat.le_of_ble_eq_true rfl) (Nat.le_of_ble_eq_true rfl) dX0_init_41 (fun q41 cA H hK1 hP hD hS => ?_)
  obtain rfl : cI = cA := (va_same hK1).symm
  clear hK1
  have hP : va_P (dC, dI) vwCl [(h0, .inr (0, [.ref q6, .ref q13, .ref q20, .ref q27, .ref q34, .null, .null, .null])), (q6, .inl (cI, 4, .inl (fun _ => 0))), (q13, .inl (cI, 4, .inl (fun _ => 0))), (q20, .inl (cI, 4, .inl (fun _ => 0))), (q27, .inl (cI, 4, .inl (fun _ => 0))), (q34, .inl (cI, 4, .inl (fun _ => 0))), (q41, .inl (cI, 4, .inl (fun _ => 0)))] H := hP
  have hD : va_D A [(h0, .inr (0, [.ref q6, .ref q13, .ref q20, .ref q27, .ref q34, .null, .null, .null])), (q6, .inl (cI, 4, .inl (fun _ => 0))), (q13, .inl (cI, 4, .inl (fun _ => 0))), (q20, .inl (cI, 4, .inl (fun _ => 0))), (q27, .inl (cI, 4, .inl (fun _ => 0))), (q34, .inl (cI, 4, .inl (fun _ => 0))), (q41, .inl (cI, 4, .inl (fun _ => 0)))] := hD
  refine va_putF (D := (dC, dI)) (ci := 0) (v := .ref q41) (ty := .array .int) (C := RX0) (T := TX0) (N := 8) hx hb hts (by decide +kernel) tyX0 tyX0_ok nmX0 hown hK hP hD hS 0 rfl rfl 5 (by decide) (hts (.fieldLink RX0 27 "IslandReserve$Fleet" "left" "[I") (by decide +kernel)) (fun _ h9 => h9) rfl hin rfl (by decide +kernel) rfl rfl (Nat.le_of_ble_eq_true rfl) dX0_init_43 (fun H locs hP hD hS => ?_)
  have hP : va_P (dC, dI) vwCl [(h0, .inr (0, [.ref q6, .ref q13, .ref q20, .ref q27, .ref q34, .ref q41, .null, .null])), (q6, .inl (cI, 4, .inl (fun _ => 0))), (q13, .inl (cI, 4, .inl (fun _ => 0))), (q20, .inl (cI, 4, .inl (fun _ => 0))), (q27, .inl (cI, 4, .inl (fun _ => 0))), (q34, .inl (cI, 4, .inl (fun _ => 0))), (q41, .inl (cI, 4, .inl (fun _ => 0)))] H := hP
  have hD : va_D A [(h0, .inr (0, [.ref q6, .ref q13, .ref q20, .ref q27, .ref q34, .ref q41, .null, .null])), (q6, .inl (cI, 4, .inl (fun _ => 0))), (q13, .inl (cI, 4, .inl (fun _ => 0))), (q20, .inl (cI, 4, .inl (fun _ => 0))), (q27, .inl (cI, 4, .inl (fun _ => 0))), (q34, .inl (cI, 4, .inl (fun _ => 0))), (q41, .inl (cI, 4, .inl (fun _ => 0)))] := hD
  refine lv_aload_n hx hb dX0_init_46 rfl (lv_at hl 0 rfl) ?_
  refine lv_iconst (v := 4) hx hb dX0_init_47 rfl ?_
  refine va_newa (atype := .int) (D := (dC, dI)) (cl := vwCl) (tys := [(cI, .int)]) (n := 4) (a0 := (4, .inl (fun _ => 0))) hx hb (hts (.arrayClass .int) (by decide +kernel)) (ty := .int) rfl hK hP hD hS hA (fun _ => rfl) (by decide) (N' := 4) rfl (Nat.le_of_ble_eq_true rfl) (Nat.le_of_ble_eq_true rfl) (Nat.le_of_ble_eq_true rfl) dX0_init_48 (fun q48 cA H hK1 hP hD hS => ?_)
  obtain rfl : cI = cA := (va_same hK1).symm
  clear hK1
  have hP : va_P (dC, dI) vwCl [(h0, .inr (0, [.ref q6, .ref q13, .ref q20, .ref q27, .ref q34, .ref q41, .null, .null])), (q6, .inl (cI, 4, .inl (fun _ => 0))), (q13, .inl (cI, 4, .inl (fun _ => 0))), (q20, .inl (cI, 4, .inl (fun _ => 0))), (q27, .inl (cI, 4, .inl (fun _ => 0))), (q34, .inl (cI, 4, .inl (fun _ => 0))), (q41, .inl (cI, 4, .inl (fun _ => 0))), (q48, .inl (cI, 4, .inl (fun _ => 0)))] H := hP
  have hD : va_D A [(h0, .inr (0, [.ref q6, .ref q13, .ref q20, .ref q27, .ref q34, .ref q41, .null, .null])), (q6, .inl (cI, 4, .inl (fun _ => 0))), (q13, .inl (cI, 4, .inl (fun _ => 0))), (q20, .inl (cI, 4, .inl (fun _ => 0))), (q27, .inl (cI, 4, .inl (fun _ => 0))), (q34, .inl (cI, 4, .inl (fun _ => 0))), (q41, .inl (cI, 4, .inl (fun _ => 0))), (q48, .inl (cI, 4, .inl (fun _ => 0)))] := hD
  refine va_putF (D := (dC, dI)) (ci := 0) (v := .ref q48) (ty := .array .int) (C := RX0) (T := TX0) (N := 8) hx hb hts (by decide +kernel) tyX0 tyX0_ok nmX0 hown hK hP hD hS 0 rfl rfl 6 (by decide) (hts (.fieldLink RX0 30 "IslandReserve$Fleet" "fuel" "[I") (by decide +kernel)) (fun _ h9 => h9) rfl hin rfl (by decide +kernel) rfl rfl (Nat.le_of_ble_eq_true rfl) dX0_init_50 (fun H locs hP hD hS => ?_)
  have hP : va_P (dC, dI) vwCl [(h0, .inr (0, [.ref q6, .ref q13, .ref q20, .ref q27, .ref q34, .ref q41, .ref q48, .null])), (q6, .inl (cI, 4, .inl (fun _ => 0))), (q13, .inl (cI, 4, .inl (fun _ => 0))), (q20, .inl (cI, 4, .inl (fun _ => 0))), (q27, .inl (cI, 4, .inl (fun _ => 0))), (q34, .inl (cI, 4, .inl (fun _ => 0))), (q41, .inl (cI, 4, .inl (fun _ => 0))), (q48, .inl (cI, 4, .inl (fun _ => 0)))] H := hP
  have hD : va_D A [(h0, .inr (0, [.ref q6, .ref q13, .ref q20, .ref q27, .ref q34, .ref q41, .ref q48, .null])), (q6, .inl (cI, 4, .inl (fun _ => 0))), (q13, .inl (cI, 4, .inl (fun _ => 0))), (q20, .inl (cI, 4, .inl (fun _ => 0))), (q27, .inl (cI, 4, .inl (fun _ => 0))), (q34, .inl (cI, 4, .inl (fun _ => 0))), (q41, .inl (cI, 4, .inl (fun _ => 0))), (q48, .inl (cI, 4, .inl (fun _ => 0)))] := hD
  refine lv_aload_n hx hb dX0_init_53 rfl (lv_at hl 0 rfl) ?_
  refine lv_iconst (v := 4) hx hb dX0_init_54 rfl ?_
  refine va_newa (atype := .int) (D := (dC, dI)) (cl := vwCl) (tys := [(cI, .int)]) (n := 4) (a0 := (4, .inl (fun _ => 0))) hx hb (hts (.arrayClass .int) (by decide +kernel)) (ty := .int) rfl hK hP hD hS hA (fun _ => rfl) (by decide) (N' := 4) rfl (Nat.le_of_ble_eq_true rfl) (Nat.le_of_ble_eq_true rfl) (Nat.le_of_ble_eq_true rfl) dX0_init_55 (fun q55 cA H hK1 hP hD hS => ?_)
  obtain rfl : cI = cA := (va_same hK1).symm
  clear hK1
  have hP : va_P (dC, dI) vwCl [(h0, .inr (0, [.ref q6, .ref q13, .ref q20, .ref q27, .ref q34, .ref q41, .ref q48, .null])), (q6, .inl (cI, 4, .inl (fun _ => 0))), (q13, .inl (cI, 4, .inl (fun _ => 0))), (q20, .inl (cI, 4, .inl (fun _ => 0))), (q27, .inl (cI, 4, .inl (fun _ => 0))), (q34, .inl (cI, 4, .inl (fun _ => 0))), (q41, .inl (cI, 4, .inl (fun _ => 0))), (q48, .inl (cI, 4, .inl (fun _ => 0))), (q55, .inl (cI, 4, .inl (fun _ => 0)))] H := hP
  have hD : va_D A [(h0, .inr (0, [.ref q6, .ref q13, .ref q20, .ref q27, .ref q34, .ref q41, .ref q48, .null])), (q6, .inl (cI, 4, .inl (fun _ => 0))), (q13, .inl (cI, 4, .inl (fun _ => 0))), (q20, .inl (cI, 4, .inl (fun _ => 0))), (q27, .inl (cI, 4, .inl (fun _ => 0))), (q34, .inl (cI, 4, .inl (fun _ => 0))), (q41, .inl (cI, 4, .inl (fun _ => 0))), (q48, .inl (cI, 4, .inl (fun _ => 0))), (q55, .inl (cI, 4, .inl (fun _ => 0)))] := hD
  refine va_putF (D := (dC, dI)) (ci := 0) (v := .ref q55) (ty := .array .int) (C := RX0) (T := TX0) (N := 8) hx hb hts (by decide +kernel) tyX0 tyX0_ok nmX0 hown hK hP hD hS 0 rfl rfl 7 (by decide) (hts (.fieldLink RX0 33 "IslandReserve$Fleet" "ranHours" "[I") (by decide +kernel)) (fun _ h9 => h9) rfl hin rfl (by decide +kernel) rfl rfl (Nat.le_of_ble_eq_true rfl) dX0_init_57 (fun H locs hP hD hS => ?_)
  have hP : va_P (dC, dI) vwCl [(h0, .inr (0, [.ref q6, .ref q13, .ref q20, .ref q27, .ref q34, .ref q41, .ref q48, .ref q55])), (q6, .inl (cI, 4, .inl (fun _ => 0))), (q13, .inl (cI, 4, .inl (fun _ => 0))), (q20, .inl (cI, 4, .inl (fun _ => 0))), (q27, .inl (cI, 4, .inl (fun _ => 0))), (q34, .inl (cI, 4, .inl (fun _ => 0))), (q41, .inl (cI, 4, .inl (fun _ => 0))), (q48, .inl (cI, 4, .inl (fun _ => 0))), (q55, .inl (cI, 4, .inl (fun _ => 0)))] H := hP
  have hD : va_D A [(h0, .inr (0, [.ref q6, .ref q13, .ref q20, .ref q27, .ref q34, .ref q41, .ref q48, .ref q55])), (q6, .inl (cI, 4, .inl (fun _ => 0))), (q13, .inl (cI, 4, .inl (fun _ => 0))), (q20, .inl (cI, 4, .inl (fun _ => 0))), (q27, .inl (cI, 4, .inl (fun _ => 0))), (q34, .inl (cI, 4, .inl (fun _ => 0))), (q41, .inl (cI, 4, .inl (fun _ => 0))), (q48, .inl (cI, 4, .inl (fun _ => 0))), (q55, .inl (cI, 4, .inl (fun _ => 0)))] := hD
  refine lv_aload_n hx hb dX0_init_60 rfl (lv_at hl 0 rfl) ?_
  refine va_get (D := (dC, dI)) (ci := 0) (C := RX0) (T := TX0) (N := 8) hx hb hts (by decide +kernel) hown hK hP 0 rfl rfl 0 (by decide) (hts (.fieldLink RX0 9 "IslandReserve$Fleet" "greatest" "[I") (by decide +kernel)) (fun _ h9 => h9) rfl dX0_init_61 ?_
  refine lv_sipush (v := 200) hx hb dX0_init_64 rfl ?_
  have hPc := hP.sub (ws' := [(q6, .inl (cI, 4, .inl (fun _ => 0)))]) [1] rfl
  have hDc := hD.sub (ws' := [(q6, .inl (cI, 4, .inl (fun _ => 0)))]) [1] (by decide) rfl
  have hKc := hK.sub (tys' := [(cI, .int)]) [0] rfl
  have hFc := va_free (wc := [(q6, .inl (cI, 4, .inl (fun _ => 0)))]) hD hS hA [1] rfl
  refine va_callv (va_runS (As := [.ref q6, .int 200]) (rest := []) ⟨hx, hb, hml, hown, hts⟩ (c_fill l dC dI q6 H.size cI 4 (by decide) (fun _ => 0) 200) (va_cwS 2 hts gX0_init_J7_fill_53178 rfl rfl rfl (by decide +kernel) ⟨Nat.le_of_ble_eq_true rfl, Nat.le_of_ble_eq_true rfl⟩) ⟨fun a U g mk q => by obtain ⟨q0, q1, qP, qK, qD⟩ := q; exact ⟨q0, q1, qP, va_K.moved (u := U) (U := U.calling g mk a) (Vm.Alike.refl U.vm) qK, qD⟩, fun U hU hW => ⟨rfl, by rw [hU], by rw [hU]; exact hPc, va_K.moved hW.alike hKc, hDc.weaken (fun _ _ _ _ => trivial)⟩⟩ rfl rfl hl.1 rfl (lv_room (Nat.le_of_ble_eq_true rfl)) dX0_init_67 ⟨by decide, by decide⟩) hS (fun q _ h => hFc q h) hFc (fun u t H1 locs ht hvm h16 hB hz1 hk1 hS => ?_)
  obtain ⟨hP1, hK1, hD1⟩ := hB
  rw [ht] at hP1
  clear hK1
  obtain ⟨hP, hD⟩ := va_join (wr := [(h0, .inr (0, [.ref q6, .ref q13, .ref q20, .ref q27, .ref q34, .ref q41, .ref q48, .ref q55])), (q13, .inl (cI, 4, .inl (fun _ => 0))), (q20, .inl (cI, 4, .inl (fun _ => 0))), (q27, .inl (cI, 4, .inl (fun _ => 0))), (q34, .inl (cI, 4, .inl (fun _ => 0))), (q41, .inl (cI, 4, .inl (fun _ => 0))), (q48, .inl (cI, 4, .inl (fun _ => 0))), (q55, .inl (cI, 4, .inl (fun _ => 0)))]) (w1 := [(q6, .inl (cI, 4, .inl (fil 200 (fun _ => 0) 4)))]) hP hD [1] [0, 2, 3, 4, 5, 6, 7, 8] rfl rfl (by decide) (by decide) hk1 hFc hP1 hD1
  generalize H1 = H at hP hS ⊢
  have hP : va_P (dC, dI) vwCl [(h0, .inr (0, [.ref q6, .ref q13, .ref q20, .ref q27, .ref q34, .ref q41, .ref q48, .ref q55])), (q13, .inl (cI, 4, .inl (fun _ => 0))), (q20, .inl (cI, 4, .inl (fun _ => 0))), (q27, .inl (cI, 4, .inl (fun _ => 0))), (q34, .inl (cI, 4, .inl (fun _ => 0))), (q41, .inl (cI, 4, .inl (fun _ => 0))), (q48, .inl (cI, 4, .inl (fun _ => 0))), (q55, .inl (cI, 4, .inl (fun _ => 0))), (q6, .inl (cI, 4, .inl (fil 200 (fun _ => 0) 4)))] H := hP
  have hD : va_D A [(h0, .inr (0, [.ref q6, .ref q13, .ref q20, .ref q27, .ref q34, .ref q41, .ref q48, .ref q55])), (q13, .inl (cI, 4, .inl (fun _ => 0))), (q20, .inl (cI, 4, .inl (fun _ => 0))), (q27, .inl (cI, 4, .inl (fun _ => 0))), (q34, .inl (cI, 4, .inl (fun _ => 0))), (q41, .inl (cI, 4, .inl (fun _ => 0))), (q48, .inl (cI, 4, .inl (fun _ => 0))), (q55, .inl (cI, 4, .inl (fun _ => 0))), (q6, .inl (cI, 4, .inl (fil 200 (fun _ => 0) 4)))] := hD
  refine lv_aload_n hx hb dX0_init_70 rfl (lv_at hl 0 rfl) ?_
  refine va_get (D := (dC, dI)) (ci := 0) (C := RX0) (T := TX0) (N := 8) hx hb hts (by decide +kernel) hown hK hP 0 rfl rfl 1 (by decide) (hts (.fieldLink RX0 15 "IslandReserve$Fleet" "least" "[I") (by decide +kernel)) (fun _ h9 => h9) rfl dX0_init_71 ?_
  refine lv_bipush (v := 60) hx hb dX0_init_74 rfl ?_
  have hPc := hP.sub (ws' := [(q13, .inl (cI, 4, .inl (fun _ => 0)))]) [1] rfl
  have hDc := hD.sub (ws' := [(q13, .inl (cI, 4, .inl (fun _ => 0)))]) [1] (by decide) rfl
  have hKc := hK.sub (tys' := [(cI, .int)]) [0] rfl
  have hFc := va_free (wc := [(q13, .inl (cI, 4, .inl (fun _ => 0)))]) hD hS hA [1] rfl
  refine va_callv (va_runS (As := [.ref q13, .int 60]) (rest := []) ⟨hx, hb, hml, hown, hts⟩ (c_fill l dC dI q13 H.size cI 4 (by decide) (fun _ => 0) 60) (va_cwS 2 hts gX0_init_J7_fill_53178 rfl rfl rfl (by decide +kernel) ⟨Nat.le_of_ble_eq_true rfl, Nat.le_of_ble_eq_true rfl⟩) ⟨fun a U g mk q => by obtain ⟨q0, q1, qP, qK, qD⟩ := q; exact ⟨q0, q1, qP, va_K.moved (u := U) (U := U.calling g mk a) (Vm.Alike.refl U.vm) qK, qD⟩, fun U hU hW => ⟨rfl, by rw [hU], by rw [hU]; exact hPc, va_K.moved hW.alike hKc, hDc.weaken (fun _ _ _ _ => trivial)⟩⟩ rfl rfl hl.1 rfl (lv_room (Nat.le_of_ble_eq_true rfl)) dX0_init_76 ⟨by decide, by decide⟩) hS (fun q _ h => hFc q h) hFc (fun u t H1 locs ht hvm h16 hB hz1 hk1 hS => ?_)
  obtain ⟨hP1, hK1, hD1⟩ := hB
  rw [ht] at hP1
  clear hK1
  obtain ⟨hP, hD⟩ := va_join (wr := [(h0, .inr (0, [.ref q6, .ref q13, .ref q20, .ref q27, .ref q34, .ref q41, .ref q48, .ref q55])), (q20, .inl (cI, 4, .inl (fun _ => 0))), (q27, .inl (cI, 4, .inl (fun _ => 0))), (q34, .inl (cI, 4, .inl (fun _ => 0))), (q41, .inl (cI, 4, .inl (fun _ => 0))), (q48, .inl (cI, 4, .inl (fun _ => 0))), (q55, .inl (cI, 4, .inl (fun _ => 0))), (q6, .inl (cI, 4, .inl (fil 200 (fun _ => 0) 4)))]) (w1 := [(q13, .inl (cI, 4, .inl (fil 60 (fun _ => 0) 4)))]) hP hD [1] [0, 2, 3, 4, 5, 6, 7, 8] rfl rfl (by decide) (by decide) hk1 hFc hP1 hD1
  generalize H1 = H at hP hS ⊢
  have hP : va_P (dC, dI) vwCl [(h0, .inr (0, [.ref q6, .ref q13, .ref q20, .ref q27, .ref q34, .ref q41, .ref q48, .ref q55])), (q20, .inl (cI, 4, .inl (fun _ => 0))), (q27, .inl (cI, 4, .inl (fun _ => 0))), (q34, .inl (cI, 4, .inl (fun _ => 0))), (q41, .inl (cI, 4, .inl (fun _ => 0))), (q48, .inl (cI, 4, .inl (fun _ => 0))), (q55, .inl (cI, 4, .inl (fun _ => 0))), (q6, .inl (cI, 4, .inl (fil 200 (fun _ => 0) 4))), (q13, .inl (cI, 4, .inl (fil 60 (fun _ => 0) 4)))] H := hP
  have hD : va_D A [(h0, .inr (0, [.ref q6, .ref q13, .ref q20, .ref q27, .ref q34, .ref q41, .ref q48, .ref q55])), (q20, .inl (cI, 4, .inl (fun _ => 0))), (q27, .inl (cI, 4, .inl (fun _ => 0))), (q34, .inl (cI, 4, .inl (fun _ => 0))), (q41, .inl (cI, 4, .inl (fun _ => 0))), (q48, .inl (cI, 4, .inl (fun _ => 0))), (q55, .inl (cI, 4, .inl (fun _ => 0))), (q6, .inl (cI, 4, .inl (fil 200 (fun _ => 0) 4))), (q13, .inl (cI, 4, .inl (fil 60 (fun _ => 0) 4)))] := hD
  refine lv_aload_n hx hb dX0_init_79 rfl (lv_at hl 0 rfl) ?_
  refine va_get (D := (dC, dI)) (ci := 0) (C := RX0) (T := TX0) (N := 8) hx hb hts (by decide +kernel) hown hK hP 0 rfl rfl 3 (by decide) (hts (.fieldLink RX0 21 "IslandReserve$Fleet" "warmUp" "[I") (by decide +kernel)) (fun _ h9 => h9) rfl dX0_init_80 ?_
  refine lv_iconst (v := 1) hx hb dX0_init_83 rfl ?_
  have hPc := hP.sub (ws' := [(q27, .inl (cI, 4, .inl (fun _ => 0)))]) [2] rfl
  have hDc := hD.sub (ws' := [(q27, .inl (cI, 4, .inl (fun _ => 0)))]) [2] (by decide) rfl
  have hKc := hK.sub (tys' := [(cI, .int)]) [0] rfl
  have hFc := va_free (wc := [(q27, .inl (cI, 4, .inl (fun _ => 0)))]) hD hS hA [2] rfl
  refine va_callv (va_runS (As := [.ref q27, .int 1]) (rest := []) ⟨hx, hb, hml, hown, hts⟩ (c_fill l dC dI q27 H.size cI 4 (by decide) (fun _ => 0) 1) (va_cwS 2 hts gX0_init_J7_fill_53178 rfl rfl rfl (by decide +kernel) ⟨Nat.le_of_ble_eq_true rfl, Nat.le_of_ble_eq_true rfl⟩) ⟨fun a U g mk q => by obtain ⟨q0, q1, qP, qK, qD⟩ := q; exact ⟨q0, q1, qP, va_K.moved (u := U) (U := U.calling g mk a) (Vm.Alike.refl U.vm) qK, qD⟩, fun U hU hW => ⟨rfl, by rw [hU], by rw [hU]; exact hPc, va_K.moved hW.alike hKc, hDc.weaken (fun _ _ _ _ => trivial)⟩⟩ rfl rfl hl.1 rfl (lv_room (Nat.le_of_ble_eq_true rfl)) dX0_init_84 ⟨by decide, by decide⟩) hS (fun q _ h => hFc q h) hFc (fun u t H1 locs ht hvm h16 hB hz1 hk1 hS => ?_)
  obtain ⟨hP1, hK1, hD1⟩ := hB
  rw [ht] at hP1
  clear hK1
  obtain ⟨hP, hD⟩ := va_join (wr := [(h0, .inr (0, [.ref q6, .ref q13, .ref q20, .ref q27, .ref q34, .ref q41, .ref q48, .ref q55])), (q20, .inl (cI, 4, .inl (fun _ => 0))), (q34, .inl (cI, 4, .inl (fun _ => 0))), (q41, .inl (cI, 4, .inl (fun _ => 0))), (q48, .inl (cI, 4, .inl (fun _ => 0))), (q55, .inl (cI, 4, .inl (fun _ => 0))), (q6, .inl (cI, 4, .inl (fil 200 (fun _ => 0) 4))), (q13, .inl (cI, 4, .inl (fil 60 (fun _ => 0) 4)))]) (w1 := [(q27, .inl (cI, 4, .inl (fil 1 (fun _ => 0) 4)))]) hP hD [2] [0, 1, 3, 4, 5, 6, 7, 8] rfl rfl (by decide) (by decide) hk1 hFc hP1 hD1
  generalize H1 = H at hP hS ⊢
  have hP : va_P (dC, dI) vwCl [(h0, .inr (0, [.ref q6, .ref q13, .ref q20, .ref q27, .ref q34, .ref q41, .ref q48, .ref q55])), (q20, .inl (cI, 4, .inl (fun _ => 0))), (q34, .inl (cI, 4, .inl (fun _ => 0))), (q41, .inl (cI, 4, .inl (fun _ => 0))), (q48, .inl (cI, 4, .inl (fun _ => 0))), (q55, .inl (cI, 4, .inl (fun _ => 0))), (q6, .inl (cI, 4, .inl (fil 200 (fun _ => 0) 4))), (q13, .inl (cI, 4, .inl (fil 60 (fun _ => 0) 4))), (q27, .inl (cI, 4, .inl (fil 1 (fun _ => 0) 4)))] H := hP
  have hD : va_D A [(h0, .inr (0, [.ref q6, .ref q13, .ref q20, .ref q27, .ref q34, .ref q41, .ref q48, .ref q55])), (q20, .inl (cI, 4, .inl (fun _ => 0))), (q34, .inl (cI, 4, .inl (fun _ => 0))), (q41, .inl (cI, 4, .inl (fun _ => 0))), (q48, .inl (cI, 4, .inl (fun _ => 0))), (q55, .inl (cI, 4, .inl (fun _ => 0))), (q6, .inl (cI, 4, .inl (fil 200 (fun _ => 0) 4))), (q13, .inl (cI, 4, .inl (fil 60 (fun _ => 0) 4))), (q27, .inl (cI, 4, .inl (fil 1 (fun _ => 0) 4)))] := hD
  refine lv_iconst (v := 0) hx hb dX0_init_87 rfl ?_
  refine lv_istore_n hx hb dX0_init_88 rfl hl (by decide) (lv' := [(1, .int 0), (0, .ref h0)]) rfl (fun ls hl => ?_)
  refine lv_iload_n hx hb dX0_init_89 rfl (lv_at hl 0 rfl) ?_
  refine lv_iconst (v := 4) hx hb dX0_init_90 rfl ?_
  refine lv_icmp_ge hx hb (tgt := 112) dX0_init_91 rfl (fun h9 => absurd h9 (by decide)) (fun _ => ?_)
  refine lv_aload_n hx hb dX0_init_94 rfl (lv_at hl 1 rfl) ?_
  refine va_get (D := (dC, dI)) (ci := 0) (C := RX0) (T := TX0) (N := 8) hx hb hts (by decide +kernel) hown hK hP 0 rfl rfl 2 (by decide) (hts (.fieldLink RX0 18 "IslandReserve$Fleet" "merit" "[I") (by decide +kernel)) (fun _ h9 => h9) rfl dX0_init_95 ?_
  refine lv_iload_n hx hb dX0_init_98 rfl (lv_at hl 0 rfl) ?_
  refine lv_bipush (v := 10) hx hb dX0_init_99 rfl ?_
  refine lv_iload_n hx hb dX0_init_101 rfl (lv_at hl 0 rfl) ?_
  refine lv_iconst (v := 1) hx hb dX0_init_102 rfl ?_
  refine lv_iadd hx hb dX0_init_103 ?_
  refine W.eq (g2 := F0 m 104 ls [.int 1, .int 10, .int 0, .ref q20]) rfl ?_
  refine lv_imul hx hb dX0_init_104 ?_
  refine W.eq (g2 := F0 m 105 ls [.int 10, .int 0, .ref q20]) rfl ?_
  refine va_iast hx hb hK hP hD hS 1 0 rfl rfl (z_inb_vp rfl) dX0_init_105 (fun H locs hP hD hS => ?_)
  have hP : va_P (dC, dI) vwCl [(h0, .inr (0, [.ref q6, .ref q13, .ref q20, .ref q27, .ref q34, .ref q41, .ref q48, .ref q55])), (q20, .inl (cI, 4, .inl (upd (fun _ => 0) 0 10))), (q34, .inl (cI, 4, .inl (fun _ => 0))), (q41, .inl (cI, 4, .inl (fun _ => 0))), (q48, .inl (cI, 4, .inl (fun _ => 0))), (q55, .inl (cI, 4, .inl (fun _ => 0))), (q6, .inl (cI, 4, .inl (fil 200 (fun _ => 0) 4))), (q13, .inl (cI, 4, .inl (fil 60 (fun _ => 0) 4))), (q27, .inl (cI, 4, .inl (fil 1 (fun _ => 0) 4)))] H := hP
  have hD : va_D A [(h0, .inr (0, [.ref q6, .ref q13, .ref q20, .ref q27, .ref q34, .ref q41, .ref q48, .ref q55])), (q20, .inl (cI, 4, .inl (upd (fun _ => 0) 0 10))), (q34, .inl (cI, 4, .inl (fun _ => 0))), (q41, .inl (cI, 4, .inl (fun _ => 0))), (q48, .inl (cI, 4, .inl (fun _ => 0))), (q55, .inl (cI, 4, .inl (fun _ => 0))), (q6, .inl (cI, 4, .inl (fil 200 (fun _ => 0) 4))), (q13, .inl (cI, 4, .inl (fil 60 (fun _ => 0) 4))), (q27, .inl (cI, 4, .inl (fil 1 (fun _ => 0) 4)))] := hD
  refine lv_iinc hx hb (v := 1) dX0_init_106 hl (k := 0) rfl rfl (by decide) (lv' := [(1, .int 1), (0, .ref h0)]) rfl (fun ls hl => ?_)
  refine lv_goto hx hb (tgt := 89) dX0_init_109 rfl ?_
  refine lv_iload_n hx hb dX0_init_89 rfl (lv_at hl 0 rfl) ?_
  refine lv_iconst (v := 4) hx hb dX0_init_90 rfl ?_
  refine lv_icmp_ge hx hb (tgt := 112) dX0_init_91 rfl (fun h9 => absurd h9 (by decide)) (fun _ => ?_)
  refine lv_aload_n hx hb dX0_init_94 rfl (lv_at hl 1 rfl) ?_
  refine va_get (D := (dC, dI)) (ci := 0) (C := RX0) (T := TX0) (N := 8) hx hb hts (by decide +kernel) hown hK hP 0 rfl rfl 2 (by decide) (hts (.fieldLink RX0 18 "IslandReserve$Fleet" "merit" "[I") (by decide +kernel)) (fun _ h9 => h9) rfl dX0_init_95 ?_
  refine lv_iload_n hx hb dX0_init_98 rfl (lv_at hl 0 rfl) ?_
  refine lv_bipush (v := 10) hx hb dX0_init_99 rfl ?_
  refine lv_iload_n hx hb dX0_init_101 rfl (lv_at hl 0 rfl) ?_
  refine lv_iconst (v := 1) hx hb dX0_init_102 rfl ?_
  refine lv_iadd hx hb dX0_init_103 ?_
  refine W.eq (g2 := F0 m 104 ls [.int 2, .int 10, .int 1, .ref q20]) rfl ?_
  refine lv_imul hx hb dX0_init_104 ?_
  refine W.eq (g2 := F0 m 105 ls [.int 20, .int 1, .ref q20]) rfl ?_
  refine va_iast hx hb hK hP hD hS 1 0 rfl rfl (z_inb_vp rfl) dX0_init_105 (fun H locs hP hD hS => ?_)
  have hP : va_P (dC, dI) vwCl [(h0, .inr (0, [.ref q6, .ref q13, .ref q20, .ref q27, .ref q34, .ref q41, .ref q48, .ref q55])), (q20, .inl (cI, 4, .inl (upd (upd (fun _ => 0) 0 10) 1 20))), (q34, .inl (cI, 4, .inl (fun _ => 0))), (q41, .inl (cI, 4, .inl (fun _ => 0))), (q48, .inl (cI, 4, .inl (fun _ => 0))), (q55, .inl (cI, 4, .inl (fun _ => 0))), (q6, .inl (cI, 4, .inl (fil 200 (fun _ => 0) 4))), (q13, .inl (cI, 4, .inl (fil 60 (fun _ => 0) 4))), (q27, .inl (cI, 4, .inl (fil 1 (fun _ => 0) 4)))] H := hP
  have hD : va_D A [(h0, .inr (0, [.ref q6, .ref q13, .ref q20, .ref q27, .ref q34, .ref q41, .ref q48, .ref q55])), (q20, .inl (cI, 4, .inl (upd (upd (fun _ => 0) 0 10) 1 20))), (q34, .inl (cI, 4, .inl (fun _ => 0))), (q41, .inl (cI, 4, .inl (fun _ => 0))), (q48, .inl (cI, 4, .inl (fun _ => 0))), (q55, .inl (cI, 4, .inl (fun _ => 0))), (q6, .inl (cI, 4, .inl (fil 200 (fun _ => 0) 4))), (q13, .inl (cI, 4, .inl (fil 60 (fun _ => 0) 4))), (q27, .inl (cI, 4, .inl (fil 1 (fun _ => 0) 4)))] := hD
  refine lv_iinc hx hb (v := 2) dX0_init_106 hl (k := 0) rfl rfl (by decide) (lv' := [(1, .int 2), (0, .ref h0)]) rfl (fun ls hl => ?_)
  refine lv_goto hx hb (tgt := 89) dX0_init_109 rfl ?_
  refine lv_iload_n hx hb dX0_init_89 rfl (lv_at hl 0 rfl) ?_
  refine lv_iconst (v := 4) hx hb dX0_init_90 rfl ?_
  refine lv_icmp_ge hx hb (tgt := 112) dX0_init_91 rfl (fun h9 => absurd h9 (by decide)) (fun _ => ?_)
  refine lv_aload_n hx hb dX0_init_94 rfl (lv_at hl 1 rfl) ?_
  refine va_get (D := (dC, dI)) (ci := 0) (C := RX0) (T := TX0) (N := 8) hx hb hts (by decide +kernel) hown hK hP 0 rfl rfl 2 (by decide) (hts (.fieldLink RX0 18 "IslandReserve$Fleet" "merit" "[I") (by decide +kernel)) (fun _ h9 => h9) rfl dX0_init_95 ?_
  refine lv_iload_n hx hb dX0_init_98 rfl (lv_at hl 0 rfl) ?_
  refine lv_bipush (v := 10) hx hb dX0_init_99 rfl ?_
  refine lv_iload_n hx hb dX0_init_101 rfl (lv_at hl 0 rfl) ?_
  refine lv_iconst (v := 1) hx hb dX0_init_102 rfl ?_
  refine lv_iadd hx hb dX0_init_103 ?_
  refine W.eq (g2 := F0 m 104 ls [.int 3, .int 10, .int 2, .ref q20]) rfl ?_
  refine lv_imul hx hb dX0_init_104 ?_
  refine W.eq (g2 := F0 m 105 ls [.int 30, .int 2, .ref q20]) rfl ?_
  refine va_iast hx hb hK hP hD hS 1 0 rfl rfl (z_inb_vp rfl) dX0_init_105 (fun H locs hP hD hS => ?_)
  have hP : va_P (dC, dI) vwCl [(h0, .inr (0, [.ref q6, .ref q13, .ref q20, .ref q27, .ref q34, .ref q41, .ref q48, .ref q55])), (q20, .inl (cI, 4, .inl (upd (upd (upd (fun _ => 0) 0 10) 1 20) 2 30))), (q34, .inl (cI, 4, .inl (fun _ => 0))), (q41, .inl (cI, 4, .inl (fun _ => 0))), (q48, .inl (cI, 4, .inl (fun _ => 0))), (q55, .inl (cI, 4, .inl (fun _ => 0))), (q6, .inl (cI, 4, .inl (fil 200 (fun _ => 0) 4))), (q13, .inl (cI, 4, .inl (fil 60 (fun _ => 0) 4))), (q27, .inl (cI, 4, .inl (fil 1 (fun _ => 0) 4)))] H := hP
  have hD : va_D A [(h0, .inr (0, [.ref q6, .ref q13, .ref q20, .ref q27, .ref q34, .ref q41, .ref q48, .ref q55])), (q20, .inl (cI, 4, .inl (upd (upd (upd (fun _ => 0) 0 10) 1 20) 2 30))), (q34, .inl (cI, 4, .inl (fun _ => 0))), (q41, .inl (cI, 4, .inl (fun _ => 0))), (q48, .inl (cI, 4, .inl (fun _ => 0))), (q55, .inl (cI, 4, .inl (fun _ => 0))), (q6, .inl (cI, 4, .inl (fil 200 (fun _ => 0) 4))), (q13, .inl (cI, 4, .inl (fil 60 (fun _ => 0) 4))), (q27, .inl (cI, 4, .inl (fil 1 (fun _ => 0) 4)))] := hD
  refine lv_iinc hx hb (v := 3) dX0_init_106 hl (k := 0) rfl rfl (by decide) (lv' := [(1, .int 3), (0, .ref h0)]) rfl (fun ls hl => ?_)
  refine lv_goto hx hb (tgt := 89) dX0_init_109 rfl ?_
  refine lv_iload_n hx hb dX0_init_89 rfl (lv_at hl 0 rfl) ?_
  refine lv_iconst (v := 4) hx hb dX0_init_90 rfl ?_
  refine lv_icmp_ge hx hb (tgt := 112) dX0_init_91 rfl (fun h9 => absurd h9 (by decide)) (fun _ => ?_)
  refine lv_aload_n hx hb dX0_init_94 rfl (lv_at hl 1 rfl) ?_
  refine va_get (D := (dC, dI)) (ci := 0) (C := RX0) (T := TX0) (N := 8) hx hb hts (by decide +kernel) hown hK hP 0 rfl rfl 2 (by decide) (hts (.fieldLink RX0 18 "IslandReserve$Fleet" "merit" "[I") (by decide +kernel)) (fun _ h9 => h9) rfl dX0_init_95 ?_
  refine lv_iload_n hx hb dX0_init_98 rfl (lv_at hl 0 rfl) ?_
  refine lv_bipush (v := 10) hx hb dX0_init_99 rfl ?_
  refine lv_iload_n hx hb dX0_init_101 rfl (lv_at hl 0 rfl) ?_
  refine lv_iconst (v := 1) hx hb dX0_init_102 rfl ?_
  refine lv_iadd hx hb dX0_init_103 ?_
  refine W.eq (g2 := F0 m 104 ls [.int 4, .int 10, .int 3, .ref q20]) rfl ?_
  refine lv_imul hx hb dX0_init_104 ?_
  refine W.eq (g2 := F0 m 105 ls [.int 40, .int 3, .ref q20]) rfl ?_
  refine va_iast hx hb hK hP hD hS 1 0 rfl rfl (z_inb_vp rfl) dX0_init_105 (fun H locs hP hD hS => ?_)
  have hP : va_P (dC, dI) vwCl [(h0, .inr (0, [.ref q6, .ref q13, .ref q20, .ref q27, .ref q34, .ref q41, .ref q48, .ref q55])), (q20, .inl (cI, 4, .inl (upd (upd (upd (upd (fun _ => 0) 0 10) 1 20) 2 30) 3 40))), (q34, .inl (cI, 4, .inl (fun _ => 0))), (q41, .inl (cI, 4, .inl (fun _ => 0))), (q48, .inl (cI, 4, .inl (fun _ => 0))), (q55, .inl (cI, 4, .inl (fun _ => 0))), (q6, .inl (cI, 4, .inl (fil 200 (fun _ => 0) 4))), (q13, .inl (cI, 4, .inl (fil 60 (fun _ => 0) 4))), (q27, .inl (cI, 4, .inl (fil 1 (fun _ => 0) 4)))] H := hP
  have hD : va_D A [(h0, .inr (0, [.ref q6, .ref q13, .ref q20, .ref q27, .ref q34, .ref q41, .ref q48, .ref q55])), (q20, .inl (cI, 4, .inl (upd (upd (upd (upd (fun _ => 0) 0 10) 1 20) 2 30) 3 40))), (q34, .inl (cI, 4, .inl (fun _ => 0))), (q41, .inl (cI, 4, .inl (fun _ => 0))), (q48, .inl (cI, 4, .inl (fun _ => 0))), (q55, .inl (cI, 4, .inl (fun _ => 0))), (q6, .inl (cI, 4, .inl (fil 200 (fun _ => 0) 4))), (q13, .inl (cI, 4, .inl (fil 60 (fun _ => 0) 4))), (q27, .inl (cI, 4, .inl (fil 1 (fun _ => 0) 4)))] := hD
  refine lv_iinc hx hb (v := 4) dX0_init_106 hl (k := 0) rfl rfl (by decide) (lv' := [(1, .int 4), (0, .ref h0)]) rfl (fun ls hl => ?_)
  refine lv_goto hx hb (tgt := 89) dX0_init_109 rfl ?_
  refine lv_iload_n hx hb dX0_init_89 rfl (lv_at hl 0 rfl) ?_
  refine lv_iconst (v := 4) hx hb dX0_init_90 rfl ?_
  refine lv_icmp_ge hx hb (tgt := 112) dX0_init_91 rfl (fun _ => ?_) (fun h9 => absurd (by decide) h9)
  have hP9 := hP.sub (ws' := wFl h0 cI (fun k => [q6, q13, q20, q27, q34, q41, q48, q55].getD k 0)) [0, 6, 7, 1, 8, 2, 3, 4, 5] rfl
  have hD9 := hD.sub (ws' := wFl h0 cI (fun k => [q6, q13, q20, q27, q34, q41, q48, q55].getD k 0)) [0, 6, 7, 1, 8, 2, 3, 4, 5] (by decide) rfl
  have hK9 := hK.sub (tys' := [(cI, .int)]) [0] rfl
  refine W.widen (k := 8) (n := 32) (by decide) (by decide) ?_
  exact W.vret hx hb hr (fun t ht hW => ⟨⟨(fun k => [q6, q13, q20, q27, q34, q41, q48, q55].getD k 0), rfl, trivial, by rw [ht]; exact hP9, va_K.moved hW.alike hK9, hD9⟩, hS.F ht⟩) hS.2.2 dX0_init_112

