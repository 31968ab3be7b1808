/-! THE CONSTRUCTORS: the model -/
/-- 100 from 40 on, i times -/
def fl9 (F : Nat → Int32) (i : Nat) : Nat → Int32 := fun j => if 40 ≤ j ∧ j < 40 + i then 100 else F j
theorem fl9_0 {F : Nat → Int32} : fl9 F 0 = F := by
  funext j
  unfold fl9
  rw [if_neg (by omega)]
theorem fl9_s {F : Nat → Int32} {i : Nat} : upd (fl9 F i) (40 + i) 100 = fl9 F (i + 1) := by
  funext j
  simp only [upd, fl9]
  by_cases h : j = 40 + i
  · subst h; rw [if_pos rfl, if_pos (by omega)]
  · rw [if_neg h]
    by_cases h2 : 40 ≤ j ∧ j < 40 + i
    · rw [if_pos h2, if_pos (by omega)]
    · rw [if_neg h2, if_neg (by omega)]
section ML
variable {p : Program} {l : Launch} {e : Env} {R : Room} {s : State} {m : MethodId} {args : Array Value} {below : List Frame} {meth : Method} {c : Code} {cells slots : Nat} {Q : State → Prop} {dC : Nat → ClassId} {dI : Nat → Nat → Nat} {A : Nat → Prop} {H0 : Heap}
/-- the second loop -/
theorem m_loop {h0 a : Nat} {cs : Nat → ClassId} {fr : List Value} {F : Nat → Int32} {X : va_W} (hx : p.tables.exec = Jvm.exec) (hb : c.code = cX5_init) (hts : ∀ w ∈ wsX5_init, w.before args s = true) (hown : s.vm.findClass RX5 = some m.cls) (hK : va_K (dC, dI) vwCl (z_tys cs) s)
    (kk : ∀ (ls : Array Slot) (H : Heap) (locs : List Loc), lv_has ls 2 [(1, .int (nI 48)), (0, .ref h0)] → va_P (dC, dI) vwCl ((h0, .inr (5, .int 0 :: .ref a :: fr)) :: (a, .inl (cs 0, 376, .inl (fl9 F 48))) :: X) H → va_D A ((h0, .inr (5, .int 0 :: .ref a :: fr)) :: (a, .inl (cs 0, 376, .inl (fl9 F 48))) :: X) → va_S A H0 H locs → W p l e R s m args below meth c H locs cells slots Q (F0 m 131 ls [])) :
    ∀ (d i : Nat), i + d = 48 → ∀ (ls : Array Slot) (H : Heap) (locs : List Loc), lv_has ls 2 [(1, .int (nI i)), (0, .ref h0)] → va_P (dC, dI) vwCl ((h0, .inr (5, .int 0 :: .ref a :: fr)) :: (a, .inl (cs 0, 376, .inl (fl9 F i))) :: X) H → va_D A ((h0, .inr (5, .int 0 :: .ref a :: fr)) :: (a, .inl (cs 0, 376, .inl (fl9 F i))) :: X) → va_S A H0 H locs → W p l e R s m args below meth c H locs cells slots Q (F0 m 108 ls []) := by
  intro d
  induction d with
  | zero =>
    intro i hi ls H locs hl hP hD hS
    have e : i = 48 := by omega
    subst e
    refine lv_iload_n hx hb dX5_init_108 rfl (lv_at hl 0 rfl) ?_
    refine lv_bipush (v := 48) hx hb dX5_init_109 rfl ?_
    refine lv_icmp_ge hx hb (tgt := 131) dX5_init_111 rfl (fun _ => kk ls H locs hl hP hD hS) (fun h => absurd (by decide) h)
  | succ d ih =>
    intro i hi ls H locs hl hP hD hS
    refine lv_iload_n hx hb dX5_init_108 rfl (lv_at hl 0 rfl) ?_
    refine lv_bipush (v := 48) hx hb dX5_init_109 rfl ?_
    refine lv_icmp_ge hx hb (tgt := 131) dX5_init_111 rfl (fun h => absurd h (nI_ge (show i < 48 by omega) (by decide))) (fun _ => ?_)
    refine lv_aload_n hx hb dX5_init_114 rfl (lv_at hl 1 rfl) ?_
    refine va_get (D := (dC, dI)) (ci := 5) (C := RX5) (T := TX5) (N := 19) hx hb hts (by decide +kernel) hown hK hP 0 rfl rfl 1 (by decide) (hts (.fieldLink RX5 7 "IslandReserveModel" "s" "[I") (by decide +kernel)) (fun _ h9 => h9) rfl dX5_init_115 ?_
    refine lv_bipush (v := 40) hx hb dX5_init_118 rfl ?_
    refine lv_iload_n hx hb dX5_init_120 rfl (lv_at hl 0 rfl) ?_
    refine lv_iadd hx hb dX5_init_121 ?_
    refine W.eq (g2 := F0 m 122 ls [.int (nI (40 + i)), .ref a]) (by rw [← nI_add]; rfl) ?_
    refine lv_bipush (v := 100) hx hb dX5_init_122 rfl ?_
    refine va_iast hx hb hK hP hD hS 1 0 rfl rfl (z_inb_vp (inb_nI (show 40 + i < 376 by omega) (by decide))) dX5_init_124 (fun H locs hP hD hS => ?_)
    rw [nI_clamp (show 40 + i < 2 ^ 31 by omega), fl9_s] at hP hD
    refine lv_iinc hx hb (v := nI (i + 1)) dX5_init_125 hl (k := 0) rfl (nI_1 i) (by decide) (lv' := [(1, .int (nI (i + 1))), (0, .ref h0)]) rfl (fun ls hl => ?_)
    refine lv_goto hx hb (tgt := 108) dX5_init_128 rfl ?_
    exact ih (i + 1) (by omega) ls H locs hl hP hD hS
end ML
/-- the model's numbers behind its first loop -/
def m1 : Nat → Int32 := (upd (upd (upd (upd (upd (upd (upd (upd (upd (upd (upd (upd (upd (upd (upd (upd (fun _ => 0) 0 200) 4 60) 8 10) 12 1) 1 200) 5 60) 9 20) 13 1) 2 200) 6 60) 10 30) 14 1) 3 200) 7 60) 11 40) 15 1)
/-- and at the end -/
def m0 : Nat → Int32 := upd (upd (fl9 m1 48) 32 80) 33 6
/-- what IslandReserveModel() lays -/
def wMo (h0 : Nat) (cs : Nat → ClassId) (u : Nat → Nat) : va_W := [(h0, .inr (5, [.int 0, .ref (u 0), .ref (u 1), .ref (u 2), .int 0, .ref (u 3), .int 0, .ref (u 4), .int 0, .int 0, .int 0, .int 0, .int 0, .int 0, .int 0, .int 0, .int 0, .int 0, .long 0])), (u 0, .inl (cs 0, 376, .inl m0)), (u 1, .inl (cs 0, 376, .inl (fun _ => 0))), (u 2, .inl (cs 0, 2256, .inl (fun _ => 0))), (u 3, .inl (cs 0, 60, .inl (fun _ => 0))), (u 4, .inl (cs 0, 4, .inl (fun _ => 0)))]
set_option maxHeartbeats 8000000 in
set_option maxRecDepth 100000 in
/-- IslandReserveModel() -/
theorem c_X5_init (l : Launch) (dC : Nat → ClassId) (dI : Nat → Nat → Nat) (h0 sz : Nat) (cs : Nat → ClassId) : Met l yX5_init wsX5_init ({ frames := 1, cells := 5, slots := 3072, locals := 30 }) (va_Pc [.ref h0] (fun U => U.heap.size = sz ∧ va_P (dC, dI) vwCl [(h0, .inr (5, [.int 0, .null, .null, .null, .int 0, .null, .int 0, .null, .int 0, .int 0, .int 0, .int 0, .int 0, .int 0, .int 0, .int 0, .int 0, .int 0, .long 0]))] U.heap ∧ z_KC (dC, dI) cs U ∧ va_D (fun _ => True) [(h0, .inr (5, [.int 0, .null, .null, .null, .int 0, .null, .int 0, .null, .int 0, .int 0, .int 0, .int 0, .int 0, .int 0, .int 0, .int 0, .int 0, .int 0, .long 0]))])) (va_Qv (fun _ : Nat → Nat => True) (fun u t => va_P (dC, dI) vwCl (wMo h0 cs u) t.heap ∧ z_KC (dC, dI) cs t ∧ va_D (va_A [(h0, .inr (5, [.int 0, .null, .null, .null, .int 0, .null, .int 0, .null, .int 0, .int 0, .int 0, .int 0, .int 0, .int 0, .int 0, .int 0, .int 0, .int 0, .long 0]))] sz) (wMo h0 cs u)) (va_A [(h0, .inr (5, [.int 0, .null, .null, .null, .int 0, .null, .int 0, .null, .int 0, .int 0, .int 0, .int 0, .int 0, .int 0, .int 0, .int 0, .int 0, .int 0, .long 0]))] sz)) 5 3072 (va_A [(h0, .inr (5, [.int 0, .null, .null, .null, .int 0, .null, .int 0, .null, .int 0, .int 0, .int 0, .int 0, .int 0, .int 0, .int 0, .int 0, .int 0, .int 0, .long 0]))] sz) := by
  refine Met.ofW (cc := cX5_init) (maxL := 2) (ret := none) (by decide) rfl ?_
  intro p e s m args below meth c s₁ B hml hv
  obtain ⟨rfl, hsz, hP, hKC, hD0⟩ := hv
  have hx := B.exec
  have hb := B.bytes
  have hr := B.returns
  have hts := atoms_spec (ws := wsX5_init) B.pre
  have hown : s.vm.findClass RX5 = some m.cls := findClass_of_methodNamed B.named
  have hin : meth.name = "<init>" := (name_of_methodNamed B.named B.method).1
  subst hsz
  have hK := hKC.1
  have hD := hD0.self (sz := s.heap.size)
  generalize hAe : va_A [(h0, .inr (5, [.int 0, .null, .null, .null, .int 0, .null, .int 0, .null, .int 0, .int 0, .int 0, .int 0, .int 0, .int 0, .int 0, .int 0, .int 0, .int 0, .long 0]))] s.heap.size = A at hD ⊢
  have hA : ∀ q : Nat, s.heap.size ≤ q → A q := fun q h => by rw [← hAe]; exact Or.inr h
  have hS : va_S A s.heap s.heap [] := va_S.rf
  have hP : va_P (dC, dI) vwCl [(h0, .inr (5, [.int 0, .null, .null, .null, .int 0, .null, .int 0, .null, .int 0, .int 0, .int 0, .int 0, .int 0, .int 0, .int 0, .int 0, .int 0, .int 0, .long 0]))] s.heap := hP
  have hl := lv_entry ([.ref h0]) (n := 2) (Nat.le_of_ble_eq_true rfl)
  rw [lg_entry_eq]
  generalize (lg_sl ([.ref h0]) ++ List.replicate (2 - (lg_sl ([.ref h0])).length) Slot.unset).toArray = ls at hl ⊢
  have hl : lv_has ls 2 [(0, .ref h0)] := hl
  refine lv_aload_n hx hb dX5_init_0 rfl (lv_at hl 0 rfl) ?_
  refine W.objInit hx hb hown (hts (.methodLink RX5 1 objectInit) (by decide +kernel)) (hts (.instanceMethod objectInit) (by decide +kernel)) (hts (.code objectInit ⟨#[0xb1]⟩ 1 none) (by decide +kernel)) rfl (by rw [hml]; exact hl.1) rfl dX5_init_1 (Nat.le_of_ble_eq_true rfl) (Nat.le_of_ble_eq_true rfl) ?_
  refine W.eq (g2 := F0 m 4 ls []) rfl ?_
  refine lv_aload_n hx hb dX5_init_4 rfl (lv_at hl 0 rfl) ?_
  refine lv_sipush (v := 376) hx hb dX5_init_5 rfl ?_
  refine va_newa (atype := .int) (D := (dC, dI)) (cl := vwCl) (tys := z_tys cs) (n := 376) (a0 := (376, .inl (fun _ => 0))) hx hb (hts (.arrayClass .int) (by decide +kernel)) (ty := .int) rfl hK hP hD hS hA (fun _ => rfl) (by decide) (N' := 376) rfl (Nat.le_of_ble_eq_true rfl) (Nat.le_of_ble_eq_true rfl) (Nat.le_of_ble_eq_true rfl) dX5_init_8 (fun q8 cA H hK1 hP hD hS => ?_)
  obtain rfl : cA = cs 0 := same_0 hK1
  clear hK1
  have hP : va_P (dC, dI) vwCl [(h0, .inr (5, [.int 0, .null, .null, .null, .int 0, .null, .int 0, .null, .int 0, .int 0, .int 0, .int 0, .int 0, .int 0, .int 0, .int 0, .int 0, .int 0, .long 0])), (q8, .inl (cs 0, 376, .inl (fun _ => 0)))] H := hP
  have hD : va_D A [(h0, .inr (5, [.int 0, .null, .null, .null, .int 0, .null, .int 0, .null, .int 0, .int 0, .int 0, .int 0, .int 0, .int 0, .int 0, .int 0, .int 0, .int 0, .long 0])), (q8, .inl (cs 0, 376, .inl (fun _ => 0)))] := hD
  refine va_putF (D := (dC, dI)) (ci := 5) (v := .ref q8) (ty := .array .int) (C := RX5) (T := TX5) (N := 19) hx hb hts (by decide +kernel) tyX5 tyX5_ok nmX5 hown hK hP hD hS 0 rfl rfl 1 (by decide) (hts (.fieldLink RX5 7 "IslandReserveModel" "s" "[I") (by decide +kernel)) (fun _ h9 => h9) rfl hin rfl (by decide +kernel) rfl rfl (Nat.le_of_ble_eq_true rfl) dX5_init_10 (fun H locs hP hD hS => ?_)
  have hP : va_P (dC, dI) vwCl [(h0, .inr (5, [.int 0, .ref q8, .null, .null, .int 0, .null, .int 0, .null, .int 0, .int 0, .int 0, .int 0, .int 0, .int 0, .int 0, .int 0, .int 0, .int 0, .long 0])), (q8, .inl (cs 0, 376, .inl (fun _ => 0)))] H := hP
  have hD : va_D A [(h0, .inr (5, [.int 0, .ref q8, .null, .null, .int 0, .null, .int 0, .null, .int 0, .int 0, .int 0, .int 0, .int 0, .int 0, .int 0, .int 0, .int 0, .int 0, .long 0])), (q8, .inl (cs 0, 376, .inl (fun _ => 0)))] := hD
  refine lv_aload_n hx hb dX5_init_13 rfl (lv_at hl 0 rfl) ?_
  refine lv_sipush (v := 376) hx hb dX5_init_14 rfl ?_
  refine va_newa (atype := .int) (D := (dC, dI)) (cl := vwCl) (tys := z_tys cs) (n := 376) (a0 := (376, .inl (fun _ => 0))) hx hb (hts (.arrayClass .int) (by decide +kernel)) (ty := .int) rfl hK hP hD hS hA (fun _ => rfl) (by decide) (N' := 376) rfl (Nat.le_of_ble_eq_true rfl) (Nat.le_of_ble_eq_true rfl) (Nat.le_of_ble_eq_true rfl) dX5_init_17 (fun q17 cA H hK1 hP hD hS => ?_)
  obtain rfl : cA = cs 0 := same_0 hK1
  clear hK1
  have hP : va_P (dC, dI) vwCl [(h0, .inr (5, [.int 0, .ref q8, .null, .null, .int 0, .null, .int 0, .null, .int 0, .int 0, .int 0, .int 0, .int 0, .int 0, .int 0, .int 0, .int 0, .int 0, .long 0])), (q8, .inl (cs 0, 376, .inl (fun _ => 0))), (q17, .inl (cs 0, 376, .inl (fun _ => 0)))] H := hP
  have hD : va_D A [(h0, .inr (5, [.int 0, .ref q8, .null, .null, .int 0, .null, .int 0, .null, .int 0, .int 0, .int 0, .int 0, .int 0, .int 0, .int 0, .int 0, .int 0, .int 0, .long 0])), (q8, .inl (cs 0, 376, .inl (fun _ => 0))), (q17, .inl (cs 0, 376, .inl (fun _ => 0)))] := hD
  refine va_putF (D := (dC, dI)) (ci := 5) (v := .ref q17) (ty := .array .int) (C := RX5) (T := TX5) (N := 19) hx hb hts (by decide +kernel) tyX5 tyX5_ok nmX5 hown hK hP hD hS 0 rfl rfl 2 (by decide) (hts (.fieldLink RX5 13 "IslandReserveModel" "aside" "[I") (by decide +kernel)) (fun _ h9 => h9) rfl hin rfl (by decide +kernel) rfl rfl (Nat.le_of_ble_eq_true rfl) dX5_init_19 (fun H locs hP hD hS => ?_)
  have hP : va_P (dC, dI) vwCl [(h0, .inr (5, [.int 0, .ref q8, .ref q17, .null, .int 0, .null, .int 0, .null, .int 0, .int 0, .int 0, .int 0, .int 0, .int 0, .int 0, .int 0, .int 0, .int 0, .long 0])), (q8, .inl (cs 0, 376, .inl (fun _ => 0))), (q17, .inl (cs 0, 376, .inl (fun _ => 0)))] H := hP
  have hD : va_D A [(h0, .inr (5, [.int 0, .ref q8, .ref q17, .null, .int 0, .null, .int 0, .null, .int 0, .int 0, .int 0, .int 0, .int 0, .int 0, .int 0, .int 0, .int 0, .int 0, .long 0])), (q8, .inl (cs 0, 376, .inl (fun _ => 0))), (q17, .inl (cs 0, 376, .inl (fun _ => 0)))] := hD
  refine lv_aload_n hx hb dX5_init_22 rfl (lv_at hl 0 rfl) ?_
  refine lv_sipush (v := 2256) hx hb dX5_init_23 rfl ?_
  refine va_newa (atype := .int) (D := (dC, dI)) (cl := vwCl) (tys := z_tys cs) (n := 2256) (a0 := (2256, .inl (fun _ => 0))) hx hb (hts (.arrayClass .int) (by decide +kernel)) (ty := .int) rfl hK hP hD hS hA (fun _ => rfl) (by decide) (N' := 2256) rfl (Nat.le_of_ble_eq_true rfl) (Nat.le_of_ble_eq_true rfl) (Nat.le_of_ble_eq_true rfl) dX5_init_26 (fun q26 cA H hK1 hP hD hS => ?_)
  obtain rfl : cA = cs 0 := same_0 hK1
  clear hK1
  have hP : va_P (dC, dI) vwCl [(h0, .inr (5, [.int 0, .ref q8, .ref q17, .null, .int 0, .null, .int 0, .null, .int 0, .int 0, .int 0, .int 0, .int 0, .int 0, .int 0, .int 0, .int 0, .int 0, .long 0])), (q8, .inl (cs 0, 376, .inl (fun _ => 0))), (q17, .inl (cs 0, 376, .inl (fun _ => 0))), (q26, .inl (cs 0, 2256, .inl (fun _ => 0)))] H := hP
  have hD : va_D A [(h0, .inr (5, [.int 0, .ref q8, .ref q17, .null, .int 0, .null, .int 0, .null, .int 0, .int 0, .int 0, .int 0, .int 0, .int 0, .int 0, .int 0, .int 0, .int 0, .long 0])), (q8, .inl (cs 0, 376, .inl (fun _ => 0))), (q17, .inl (cs 0, 376, .inl (fun _ => 0))), (q26, .inl (cs 0, 2256, .inl (fun _ => 0)))] := hD
  refine va_putF (D := (dC, dI)) (ci := 5) (v := .ref q26) (ty := .array .int) (C := RX5) (T := TX5) (N := 19) hx hb hts (by decide +kernel) tyX5 tyX5_ok nmX5 hown hK hP hD hS 0 rfl rfl 3 (by decide) (hts (.fieldLink RX5 16 "IslandReserveModel" "saved" "[I") (by decide +kernel)) (fun _ h9 => h9) rfl hin rfl (by decide +kernel) rfl rfl (Nat.le_of_ble_eq_true rfl) dX5_init_28 (fun H locs hP hD hS => ?_)
  have hP : va_P (dC, dI) vwCl [(h0, .inr (5, [.int 0, .ref q8, .ref q17, .ref q26, .int 0, .null, .int 0, .null, .int 0, .int 0, .int 0, .int 0, .int 0, .int 0, .int 0, .int 0, .int 0, .int 0, .long 0])), (q8, .inl (cs 0, 376, .inl (fun _ => 0))), (q17, .inl (cs 0, 376, .inl (fun _ => 0))), (q26, .inl (cs 0, 2256, .inl (fun _ => 0)))] H := hP
  have hD : va_D A [(h0, .inr (5, [.int 0, .ref q8, .ref q17, .ref q26, .int 0, .null, .int 0, .null, .int 0, .int 0, .int 0, .int 0, .int 0, .int 0, .int 0, .int 0, .int 0, .int 0, .long 0])), (q8, .inl (cs 0, 376, .inl (fun _ => 0))), (q17, .inl (cs 0, 376, .inl (fun _ => 0))), (q26, .inl (cs 0, 2256, .inl (fun _ => 0)))] := hD
  refine lv_aload_n hx hb dX5_init_31 rfl (lv_at hl 0 rfl) ?_
  refine lv_bipush (v := 60) hx hb dX5_init_32 rfl ?_
  refine va_newa (atype := .int) (D := (dC, dI)) (cl := vwCl) (tys := z_tys cs) (n := 60) (a0 := (60, .inl (fun _ => 0))) hx hb (hts (.arrayClass .int) (by decide +kernel)) (ty := .int) rfl hK hP hD hS hA (fun _ => rfl) (by decide) (N' := 60) rfl (Nat.le_of_ble_eq_true rfl) (Nat.le_of_ble_eq_true rfl) (Nat.le_of_ble_eq_true rfl) dX5_init_34 (fun q34 cA H hK1 hP hD hS => ?_)
  obtain rfl : cA = cs 0 := same_0 hK1
  clear hK1
  have hP : va_P (dC, dI) vwCl [(h0, .inr (5, [.int 0, .ref q8, .ref q17, .ref q26, .int 0, .null, .int 0, .null, .int 0, .int 0, .int 0, .int 0, .int 0, .int 0, .int 0, .int 0, .int 0, .int 0, .long 0])), (q8, .inl (cs 0, 376, .inl (fun _ => 0))), (q17, .inl (cs 0, 376, .inl (fun _ => 0))), (q26, .inl (cs 0, 2256, .inl (fun _ => 0))), (q34, .inl (cs 0, 60, .inl (fun _ => 0)))] H := hP
  have hD : va_D A [(h0, .inr (5, [.int 0, .ref q8, .ref q17, .ref q26, .int 0, .null, .int 0, .null, .int 0, .int 0, .int 0, .int 0, .int 0, .int 0, .int 0, .int 0, .int 0, .int 0, .long 0])), (q8, .inl (cs 0, 376, .inl (fun _ => 0))), (q17, .inl (cs 0, 376, .inl (fun _ => 0))), (q26, .inl (cs 0, 2256, .inl (fun _ => 0))), (q34, .inl (cs 0, 60, .inl (fun _ => 0)))] := hD
  refine va_putF (D := (dC, dI)) (ci := 5) (v := .ref q34) (ty := .array .int) (C := RX5) (T := TX5) (N := 19) hx hb hts (by decide +kernel) tyX5 tyX5_ok nmX5 hown hK hP hD hS 0 rfl rfl 5 (by decide) (hts (.fieldLink RX5 19 "IslandReserveModel" "text" "[I") (by decide +kernel)) (fun _ h9 => h9) rfl hin rfl (by decide +kernel) rfl rfl (Nat.le_of_ble_eq_true rfl) dX5_init_36 (fun H locs hP hD hS => ?_)
  have hP : va_P (dC, dI) vwCl [(h0, .inr (5, [.int 0, .ref q8, .ref q17, .ref q26, .int 0, .ref q34, .int 0, .null, .int 0, .int 0, .int 0, .int 0, .int 0, .int 0, .int 0, .int 0, .int 0, .int 0, .long 0])), (q8, .inl (cs 0, 376, .inl (fun _ => 0))), (q17, .inl (cs 0, 376, .inl (fun _ => 0))), (q26, .inl (cs 0, 2256, .inl (fun _ => 0))), (q34, .inl (cs 0, 60, .inl (fun _ => 0)))] H := hP
  have hD : va_D A [(h0, .inr (5, [.int 0, .ref q8, .ref q17, .ref q26, .int 0, .ref q34, .int 0, .null, .int 0, .int 0, .int 0, .int 0, .int 0, .int 0, .int 0, .int 0, .int 0, .int 0, .long 0])), (q8, .inl (cs 0, 376, .inl (fun _ => 0))), (q17, .inl (cs 0, 376, .inl (fun _ => 0))), (q26, .inl (cs 0, 2256, .inl (fun _ => 0))), (q34, .inl (cs 0, 60, .inl (fun _ => 0)))] := hD
  refine lv_aload_n hx hb dX5_init_39 rfl (lv_at hl 0 rfl) ?_
  refine lv_iconst (v := 4) hx hb dX5_init_40 rfl ?_
  refine va_newa (atype := .int) (D := (dC, dI)) (cl := vwCl) (tys := z_tys cs) (n := 4) (a0 := (4, .inl (fun _ => 0))) hx hb (hts (.arrayClass .int) (by decide +kernel)) (ty := .int) rfl hK hP hD hS hA (fun _ => rfl) (by decide) (N' := 4) rfl (Nat.le_of_ble_eq_true rfl) (Nat.le_of_ble_eq_true rfl) (Nat.le_of_ble_eq_true rfl) dX5_init_41 (fun q41 cA H hK1 hP hD hS => ?_)
  obtain rfl : cA = cs 0 := same_0 hK1
  clear hK1
  have hP : va_P (dC, dI) vwCl [(h0, .inr (5, [.int 0, .ref q8, .ref q17, .ref q26, .int 0, .ref q34, .int 0, .null, .int 0, .int 0, .int 0, .int 0, .int 0, .int 0, .int 0, .int 0, .int 0, .int 0, .long 0])), (q8, .inl (cs 0, 376, .inl (fun _ => 0))), (q17, .inl (cs 0, 376, .inl (fun _ => 0))), (q26, .inl (cs 0, 2256, .inl (fun _ => 0))), (q34, .inl (cs 0, 60, .inl (fun _ => 0))), (q41, .inl (cs 0, 4, .inl (fun _ => 0)))] H := hP
  have hD : va_D A [(h0, .inr (5, [.int 0, .ref q8, .ref q17, .ref q26, .int 0, .ref q34, .int 0, .null, .int 0, .int 0, .int 0, .int 0, .int 0, .int 0, .int 0, .int 0, .int 0, .int 0, .long 0])), (q8, .inl (cs 0, 376, .inl (fun _ => 0))), (q17, .inl (cs 0, 376, .inl (fun _ => 0))), (q26, .inl (cs 0, 2256, .inl (fun _ => 0))), (q34, .inl (cs 0, 60, .inl (fun _ => 0))), (q41, .inl (cs 0, 4, .inl (fun _ => 0)))] := hD
  refine va_putF (D := (dC, dI)) (ci := 5) (v := .ref q41) (ty := .array .int) (C := RX5) (T := TX5) (N := 19) hx hb hts (by decide +kernel) tyX5 tyX5_ok nmX5 hown hK hP hD hS 0 rfl rfl 7 (by decide) (hts (.fieldLink RX5 22 "IslandReserveModel" "load" "[I") (by decide +kernel)) (fun _ h9 => h9) rfl hin rfl (by decide +kernel) rfl rfl (Nat.le_of_ble_eq_true rfl) dX5_init_43 (fun H locs hP hD hS => ?_)
  have hP : va_P (dC, dI) vwCl [(h0, .inr (5, [.int 0, .ref q8, .ref q17, .ref q26, .int 0, .ref q34, .int 0, .ref q41, .int 0, .int 0, .int 0, .int 0, .int 0, .int 0, .int 0, .int 0, .int 0, .int 0, .long 0])), (q8, .inl (cs 0, 376, .inl (fun _ => 0))), (q17, .inl (cs 0, 376, .inl (fun _ => 0))), (q26, .inl (cs 0, 2256, .inl (fun _ => 0))), (q34, .inl (cs 0, 60, .inl (fun _ => 0))), (q41, .inl (cs 0, 4, .inl (fun _ => 0)))] H := hP
  have hD : va_D A [(h0, .inr (5, [.int 0, .ref q8, .ref q17, .ref q26, .int 0, .ref q34, .int 0, .ref q41, .int 0, .int 0, .int 0, .int 0, .int 0, .int 0, .int 0, .int 0, .int 0, .int 0, .long 0])), (q8, .inl (cs 0, 376, .inl (fun _ => 0))), (q17, .inl (cs 0, 376, .inl (fun _ => 0))), (q26, .inl (cs 0, 2256, .inl (fun _ => 0))), (q34, .inl (cs 0, 60, .inl (fun _ => 0))), (q41, .inl (cs 0, 4, .inl (fun _ => 0)))] := hD
  refine lv_iconst (v := 0) hx hb dX5_init_46 rfl ?_
  refine lv_istore_n hx hb dX5_init_47 rfl hl (by decide) (lv' := [(1, .int 0), (0, .ref h0)]) rfl (fun ls hl => ?_)
  refine lv_iload_n hx hb dX5_init_48 rfl (lv_at hl 0 rfl) ?_
  refine lv_iconst (v := 4) hx hb dX5_init_49 rfl ?_
  refine lv_icmp_ge hx hb (tgt := 106) dX5_init_50 rfl (fun h9 => absurd h9 (by decide)) (fun _ => ?_)
  refine lv_aload_n hx hb dX5_init_53 rfl (lv_at hl 1 rfl) ?_
  refine va_get (D := (dC, dI)) (ci := 5) (C := RX5) (T := TX5) (N := 19) hx hb hts (by decide +kernel) hown hK hP 0 rfl rfl 1 (by decide) (hts (.fieldLink RX5 7 "IslandReserveModel" "s" "[I") (by decide +kernel)) (fun _ h9 => h9) rfl dX5_init_54 ?_
  refine lv_iconst (v := 0) hx hb dX5_init_57 rfl ?_
  refine lv_iload_n hx hb dX5_init_58 rfl (lv_at hl 0 rfl) ?_
  refine lv_iadd hx hb dX5_init_59 ?_
  refine W.eq (g2 := F0 m 60 ls [.int 0, .ref q8]) rfl ?_
  refine lv_sipush (v := 200) hx hb dX5_init_60 rfl ?_
  refine va_iast hx hb hK hP hD hS 1 0 rfl rfl (z_inb_vp rfl) dX5_init_63 (fun H locs hP hD hS => ?_)
  have hP : va_P (dC, dI) vwCl [(h0, .inr (5, [.int 0, .ref q8, .ref q17, .ref q26, .int 0, .ref q34, .int 0, .ref q41, .int 0, .int 0, .int 0, .int 0, .int 0, .int 0, .int 0, .int 0, .int 0, .int 0, .long 0])), (q8, .inl (cs 0, 376, .inl (upd (fun _ => 0) 0 200))), (q17, .inl (cs 0, 376, .inl (fun _ => 0))), (q26, .inl (cs 0, 2256, .inl (fun _ => 0))), (q34, .inl (cs 0, 60, .inl (fun _ => 0))), (q41, .inl (cs 0, 4, .inl (fun _ => 0)))] H := hP
  have hD : va_D A [(h0, .inr (5, [.int 0, .ref q8, .ref q17, .ref q26, .int 0, .ref q34, .int 0, .ref q41, .int 0, .int 0, .int 0, .int 0, .int 0, .int 0, .int 0, .int 0, .int 0, .int 0, .long 0])), (q8, .inl (cs 0, 376, .inl (upd (fun _ => 0) 0 200))), (q17, .inl (cs 0, 376, .inl (fun _ => 0))), (q26, .inl (cs 0, 2256, .inl (fun _ => 0))), (q34, .inl (cs 0, 60, .inl (fun _ => 0))), (q41, .inl (cs 0, 4, .inl (fun _ => 0)))] := hD
  refine lv_aload_n hx hb dX5_init_64 rfl (lv_at hl 1 rfl) ?_
  refine va_get (D := (dC, dI)) (ci := 5) (C := RX5) (T := TX5) (N := 19) hx hb hts (by decide +kernel) hown hK hP 0 rfl rfl 1 (by decide) (hts (.fieldLink RX5 7 "IslandReserveModel" "s" "[I") (by decide +kernel)) (fun _ h9 => h9) rfl dX5_init_65 ?_
  refine lv_iconst (v := 4) hx hb dX5_init_68 rfl ?_
  refine lv_iload_n hx hb dX5_init_69 rfl (lv_at hl 0 rfl) ?_
  refine lv_iadd hx hb dX5_init_70 ?_
  refine W.eq (g2 := F0 m 71 ls [.int 4, .ref q8]) rfl ?_
  refine lv_bipush (v := 60) hx hb dX5_init_71 rfl ?_
  refine va_iast hx hb hK hP hD hS 1 0 rfl rfl (z_inb_vp rfl) dX5_init_73 (fun H locs hP hD hS => ?_)
  have hP : va_P (dC, dI) vwCl [(h0, .inr (5, [.int 0, .ref q8, .ref q17, .ref q26, .int 0, .ref q34, .int 0, .ref q41, .int 0, .int 0, .int 0, .int 0, .int 0, .int 0, .int 0, .int 0, .int 0, .int 0, .long 0])), (q8, .inl (cs 0, 376, .inl (upd (upd (fun _ => 0) 0 200) 4 60))), (q17, .inl (cs 0, 376, .inl (fun _ => 0))), (q26, .inl (cs 0, 2256, .inl (fun _ => 0))), (q34, .inl (cs 0, 60, .inl (fun _ => 0))), (q41, .inl (cs 0, 4, .inl (fun _ => 0)))] H := hP
  have hD : va_D A [(h0, .inr (5, [.int 0, .ref q8, .ref q17, .ref q26, .int 0, .ref q34, .int 0, .ref q41, .int 0, .int 0, .int 0, .int 0, .int 0, .int 0, .int 0, .int 0, .int 0, .int 0, .long 0])), (q8, .inl (cs 0, 376, .inl (upd (upd (fun _ => 0) 0 200) 4 60))), (q17, .inl (cs 0, 376, .inl (fun _ => 0))), (q26, .inl (cs 0, 2256, .inl (fun _ => 0))), (q34, .inl (cs 0, 60, .inl (fun _ => 0))), (q41, .inl (cs 0, 4, .inl (fun _ => 0)))] := hD
  refine lv_aload_n hx hb dX5_init_74 rfl (lv_at hl 1 rfl) ?_
  refine va_get (D := (dC, dI)) (ci := 5) (C := RX5) (T := TX5) (N := 19) hx hb hts (by decide +kernel) hown hK hP 0 rfl rfl 1 (by decide) (hts (.fieldLink RX5 7 "IslandReserveModel" "s" "[I") (by decide +kernel)) (fun _ h9 => h9) rfl dX5_init_75 ?_
  refine lv_bipush (v := 8) hx hb dX5_init_78 rfl ?_
  refine lv_iload_n hx hb dX5_init_80 rfl (lv_at hl 0 rfl) ?_
  refine lv_iadd hx hb dX5_init_81 ?_
  refine W.eq (g2 := F0 m 82 ls [.int 8, .ref q8]) rfl ?_
  refine lv_bipush (v := 10) hx hb dX5_init_82 rfl ?_
  refine lv_iload_n hx hb dX5_init_84 rfl (lv_at hl 0 rfl) ?_
  refine lv_imul hx hb dX5_init_85 ?_
  refine W.eq (g2 := F0 m 86 ls [.int 0, .int 8, .ref q8]) rfl ?_
  refine lv_bipush (v := 10) hx hb dX5_init_86 rfl ?_
  refine lv_iadd hx hb dX5_init_88 ?_
  refine W.eq (g2 := F0 m 89 ls [.int 10, .int 8, .ref q8]) rfl ?_
  refine va_iast hx hb hK hP hD hS 1 0 rfl rfl (z_inb_vp rfl) dX5_init_89 (fun H locs hP hD hS => ?_)
  have hP : va_P (dC, dI) vwCl [(h0, .inr (5, [.int 0, .ref q8, .ref q17, .ref q26, .int 0, .ref q34, .int 0, .ref q41, .int 0, .int 0, .int 0, .int 0, .int 0, .int 0, .int 0, .int 0, .int 0, .int 0, .long 0])), (q8, .inl (cs 0, 376, .inl (upd (upd (upd (fun _ => 0) 0 200) 4 60) 8 10))), (q17, .inl (cs 0, 376, .inl (fun _ => 0))), (q26, .inl (cs 0, 2256, .inl (fun _ => 0))), (q34, .inl (cs 0, 60, .inl (fun _ => 0))), (q41, .inl (cs 0, 4, .inl (fun _ => 0)))] H := hP
  have hD : va_D A [(h0, .inr (5, [.int 0, .ref q8, .ref q17, .ref q26, .int 0, .ref q34, .int 0, .ref q41, .int 0, .int 0, .int 0, .int 0, .int 0, .int 0, .int 0, .int 0, .int 0, .int 0, .long 0])), (q8, .inl (cs 0, 376, .inl (upd (upd (upd (fun _ => 0) 0 200) 4 60) 8 10))), (q17, .inl (cs 0, 376, .inl (fun _ => 0))), (q26, .inl (cs 0, 2256, .inl (fun _ => 0))), (q34, .inl (cs 0, 60, .inl (fun _ => 0))), (q41, .inl (cs 0, 4, .inl (fun _ => 0)))] := hD
  refine lv_aload_n hx hb dX5_init_90 rfl (lv_at hl 1 rfl) ?_
  refine va_get (D := (dC, dI)) (ci := 5) (C := RX5) (T := TX5) (N := 19) hx hb hts (by decide +kernel) hown hK hP 0 rfl rfl 1 (by decide) (hts (.fieldLink RX5 7 "IslandReserveModel" "s" "[I") (by decide +kernel)) (fun _ h9 => h9) rfl dX5_init_91 ?_
  refine lv_bipush (v := 12) hx hb dX5_init_94 rfl ?_
  refine lv_iload_n hx hb dX5_init_96 rfl (lv_at hl 0 rfl) ?_
  refine lv_iadd hx hb dX5_init_97 ?_
  refine W.eq (g2 := F0 m 98 ls [.int 12, .ref q8]) rfl ?_
  refine lv_iconst (v := 1) hx hb dX5_init_98 rfl ?_
  refine va_iast hx hb hK hP hD hS 1 0 rfl rfl (z_inb_vp rfl) dX5_init_99 (fun H locs hP hD hS => ?_)
  have hP : va_P (dC, dI) vwCl [(h0, .inr (5, [.int 0, .ref q8, .ref q17, .ref q26, .int 0, .ref q34, .int 0, .ref q41, .int 0, .int 0, .int 0, .int 0, .int 0, .int 0, .int 0, .int 0, .int 0, .int 0, .long 0])), (q8, .inl (cs 0, 376, .inl (upd (upd (upd (upd (fun _ => 0) 0 200) 4 60) 8 10) 12 1))), (q17, .inl (cs 0, 376, .inl (fun _ => 0))), (q26, .inl (cs 0, 2256, .inl (fun _ => 0))), (q34, .inl (cs 0, 60, .inl (fun _ => 0))), (q41, .inl (cs 0, 4, .inl (fun _ => 0)))] H := hP
  have hD : va_D A [(h0, .inr (5, [.int 0, .ref q8, .ref q17, .ref q26, .int 0, .ref q34, .int 0, .ref q41, .int 0, .int 0, .int 0, .int 0, .int 0, .int 0, .int 0, .int 0, .int 0, .int 0, .long 0])), (q8, .inl (cs 0, 376, .inl (upd (upd (upd (upd (fun _ => 0) 0 200) 4 60) 8 10) 12 1))), (q17, .inl (cs 0, 376, .inl (fun _ => 0))), (q26, .inl (cs 0, 2256, .inl (fun _ => 0))), (q34, .inl (cs 0, 60, .inl (fun _ => 0))), (q41, .inl (cs 0, 4, .inl (fun _ => 0)))] := hD
  refine lv_iinc hx hb (v := 1) dX5_init_100 hl (k := 0) rfl rfl (by decide) (lv' := [(1, .int 1), (0, .ref h0)]) rfl (fun ls hl => ?_)
  refine lv_goto hx hb (tgt := 48) dX5_init_103 rfl ?_
  refine lv_iload_n hx hb dX5_init_48 rfl (lv_at hl 0 rfl) ?_
  refine lv_iconst (v := 4) hx hb dX5_init_49 rfl ?_
  refine lv_icmp_ge hx hb (tgt := 106) dX5_init_50 rfl (fun h9 => absurd h9 (by decide)) (fun _ => ?_)
  refine lv_aload_n hx hb dX5_init_53 rfl (lv_at hl 1 rfl) ?_
  refine va_get (D := (dC, dI)) (ci := 5) (C := RX5) (T := TX5) (N := 19) hx hb hts (by decide +kernel) hown hK hP 0 rfl rfl 1 (by decide) (hts (.fieldLink RX5 7 "IslandReserveModel" "s" "[I") (by decide +kernel)) (fun _ h9 => h9) rfl dX5_init_54 ?_
  refine lv_iconst (v := 0) hx hb dX5_init_57 rfl ?_
  refine lv_iload_n hx hb dX5_init_58 rfl (lv_at hl 0 rfl) ?_
  refine lv_iadd hx hb dX5_init_59 ?_
  refine W.eq (g2 := F0 m 60 ls [.int 1, .ref q8]) rfl ?_
  refine lv_sipush (v := 200) hx hb dX5_init_60 rfl ?_
  refine va_iast hx hb hK hP hD hS 1 0 rfl rfl (z_inb_vp rfl) dX5_init_63 (fun H locs hP hD hS => ?_)
  have hP : va_P (dC, dI) vwCl [(h0, .inr (5, [.int 0, .ref q8, .ref q17, .ref q26, .int 0, .ref q34, .int 0, .ref q41, .int 0, .int 0, .int 0, .int 0, .int 0, .int 0, .int 0, .int 0, .int 0, .int 0, .long 0])), (q8, .inl (cs 0, 376, .inl (upd (upd (upd (upd (upd (fun _ => 0) 0 200) 4 60) 8 10) 12 1) 1 200))), (q17, .inl (cs 0, 376, .inl (fun _ => 0))), (q26, .inl (cs 0, 2256, .inl (fun _ => 0))), (q34, .inl (cs 0, 60, .inl (fun _ => 0))), (q41, .inl (cs 0, 4, .inl (fun _ => 0)))] H := hP
  have hD : va_D A [(h0, .inr (5, [.int 0, .ref q8, .ref q17, .ref q26, .int 0, .ref q34, .int 0, .ref q41, .int 0, .int 0, .int 0, .int 0, .int 0, .int 0, .int 0, .int 0, .int 0, .int 0, .long 0])), (q8, .inl (cs 0, 376, .inl (upd (upd (upd (upd (upd (fun _ => 0) 0 200) 4 60) 8 10) 12 1) 1 200))), (q17, .inl (cs 0, 376, .inl (fun _ => 0))), (q26, .inl (cs 0, 2256, .inl (fun _ => 0))), (q34, .inl (cs 0, 60, .inl (fun _ => 0))), (q41, .inl (cs 0, 4, .inl (fun _ => 0)))] := hD
  refine lv_aload_n hx hb dX5_init_64 rfl (lv_at hl 1 rfl) ?_
  refine va_get (D := (dC, dI)) (ci := 5) (C := RX5) (T := TX5) (N := 19) hx hb hts (by decide +kernel) hown hK hP 0 rfl rfl 1 (by decide) (hts (.fieldLink RX5 7 "IslandReserveModel" "s" "[I") (by decide +kernel)) (fun _ h9 => h9) rfl dX5_init_65 ?_
  refine lv_iconst (v := 4) hx hb dX5_init_68 rfl ?_
  refine lv_iload_n hx hb dX5_init_69 rfl (lv_at hl 0 rfl) ?_
  refine lv_iadd hx hb dX5_init_70 ?_
  refine W.eq (g2 := F0 m 71 ls [.int 5, .ref q8]) rfl ?_
  refine lv_bipush (v := 60) hx hb dX5_init_71 rfl ?_
  refine va_iast hx hb hK hP hD hS 1 0 rfl rfl (z_inb_vp rfl) dX5_init_73 (fun H locs hP hD hS => ?_)
  have hP : va_P (dC, dI) vwCl [(h0, .inr (5, [.int 0, .ref q8, .ref q17, .ref q26, .int 0, .ref q34, .int 0, .ref q41, .int 0, .int 0, .int 0, .int 0, .int 0, .int 0, .int 0, .int 0, .int 0, .int 0, .long 0])), (q8, .inl (cs 0, 376, .inl (upd (upd (upd (upd (upd (upd (fun _ => 0) 0 200) 4 60) 8 10) 12 1) 1 200) 5 60))), (q17, .inl (cs 0, 376, .inl (fun _ => 0))), (q26, .inl (cs 0, 2256, .inl (fun _ => 0))), (q34, .inl (cs 0, 60, .inl (fun _ => 0))), (q41, .inl (cs 0, 4, .inl (fun _ => 0)))] H := hP
  have hD : va_D A [(h0, .inr (5, [.int 0, .ref q8, .ref q17, .ref q26, .int 0, .ref q34, .int 0, .ref q41, .int 0, .int 0, .int 0, .int 0, .int 0, .int 0, .int 0, .int 0, .int 0, .int 0, .long 0])), (q8, .inl (cs 0, 376, .inl (upd (upd (upd (upd (upd (upd (fun _ => 0) 0 200) 4 60) 8 10) 12 1) 1 200) 5 60))), (q17, .inl (cs 0, 376, .inl (fun _ => 0))), (q26, .inl (cs 0, 2256, .inl (fun _ => 0))), (q34, .inl (cs 0, 60, .inl (fun _ => 0))), (q41, .inl (cs 0, 4, .inl (fun _ => 0)))] := hD
  refine lv_aload_n hx hb dX5_init_74 rfl (lv_at hl 1 rfl) ?_
  refine va_get (D := (dC, dI)) (ci := 5) (C := RX5) (T := TX5) (N := 19) hx hb hts (by decide +kernel) hown hK hP 0 rfl rfl 1 (by decide) (hts (.fieldLink RX5 7 "IslandReserveModel" "s" "[I") (by decide +kernel)) (fun _ h9 => h9) rfl dX5_init_75 ?_
  refine lv_bipush (v := 8) hx hb dX5_init_78 rfl ?_
  refine lv_iload_n hx hb dX5_init_80 rfl (lv_at hl 0 rfl) ?_
  refine lv_iadd hx hb dX5_init_81 ?_
  refine W.eq (g2 := F0 m 82 ls [.int 9, .ref q8]) rfl ?_
  refine lv_bipush (v := 10) hx hb dX5_init_82 rfl ?_
  refine lv_iload_n hx hb dX5_init_84 rfl (lv_at hl 0 rfl) ?_
  refine lv_imul hx hb dX5_init_85 ?_
  refine W.eq (g2 := F0 m 86 ls [.int 10, .int 9, .ref q8]) rfl ?_
  refine lv_bipush (v := 10) hx hb dX5_init_86 rfl ?_
  refine lv_iadd hx hb dX5_init_88 ?_
  refine W.eq (g2 := F0 m 89 ls [.int 20, .int 9, .ref q8]) rfl ?_
  refine va_iast hx hb hK hP hD hS 1 0 rfl rfl (z_inb_vp rfl) dX5_init_89 (fun H locs hP hD hS => ?_)
  have hP : va_P (dC, dI) vwCl [(h0, .inr (5, [.int 0, .ref q8, .ref q17, .ref q26, .int 0, .ref q34, .int 0, .ref q41, .int 0, .int 0, .int 0, .int 0, .int 0, .int 0, .int 0, .int 0, .int 0, .int 0, .long 0])), (q8, .inl (cs 0, 376, .inl (upd (upd (upd (upd (upd (upd (upd (fun _ => 0) 0 200) 4 60) 8 10) 12 1) 1 200) 5 60) 9 20))), (q17, .inl (cs 0, 376, .inl (fun _ => 0))), (q26, .inl (cs 0, 2256, .inl (fun _ => 0))), (q34, .inl (cs 0, 60, .inl (fun _ => 0))), (q41, .inl (cs 0, 4, .inl (fun _ => 0)))] H := hP
  have hD : va_D A [(h0, .inr (5, [.int 0, .ref q8, .ref q17, .ref q26, .int 0, .ref q34, .int 0, .ref q41, .int 0, .int 0, .int 0, .int 0, .int 0, .int 0, .int 0, .int 0, .int 0, .int 0, .long 0])), (q8, .inl (cs 0, 376, .inl (upd (upd (upd (upd (upd (upd (upd (fun _ => 0) 0 200) 4 60) 8 10) 12 1) 1 200) 5 60) 9 20))), (q17, .inl (cs 0, 376, .inl (fun _ => 0))), (q26, .inl (cs 0, 2256, .inl (fun _ => 0))), (q34, .inl (cs 0, 60, .inl (fun _ => 0))), (q41, .inl (cs 0, 4, .inl (fun _ => 0)))] := hD
  refine lv_aload_n hx hb dX5_init_90 rfl (lv_at hl 1 rfl) ?_
  refine va_get (D := (dC, dI)) (ci := 5) (C := RX5) (T := TX5) (N := 19) hx hb hts (by decide +kernel) hown hK hP 0 rfl rfl 1 (by decide) (hts (.fieldLink RX5 7 "IslandReserveModel" "s" "[I") (by decide +kernel)) (fun _ h9 => h9) rfl dX5_init_91 ?_
  refine lv_bipush (v := 12) hx hb dX5_init_94 rfl ?_
  refine lv_iload_n hx hb dX5_init_96 rfl (lv_at hl 0 rfl) ?_
  refine lv_iadd hx hb dX5_init_97 ?_
  refine W.eq (g2 := F0 m 98 ls [.int 13, .ref q8]) rfl ?_
  refine lv_iconst (v := 1) hx hb dX5_init_98 rfl ?_
  refine va_iast hx hb hK hP hD hS 1 0 rfl rfl (z_inb_vp rfl) dX5_init_99 (fun H locs hP hD hS => ?_)
  have hP : va_P (dC, dI) vwCl [(h0, .inr (5, [.int 0, .ref q8, .ref q17, .ref q26, .int 0, .ref q34, .int 0, .ref q41, .int 0, .int 0, .int 0, .int 0, .int 0, .int 0, .int 0, .int 0, .int 0, .int 0, .long 0])), (q8, .inl (cs 0, 376, .inl (upd (upd (upd (upd (upd (upd (upd (upd (fun _ => 0) 0 200) 4 60) 8 10) 12 1) 1 200) 5 60) 9 20) 13 1))), (q17, .inl (cs 0, 376, .inl (fun _ => 0))), (q26, .inl (cs 0, 2256, .inl (fun _ => 0))), (q34, .inl (cs 0, 60, .inl (fun _ => 0))), (q41, .inl (cs 0, 4, .inl (fun _ => 0)))] H := hP
  have hD : va_D A [(h0, .inr (5, [.int 0, .ref q8, .ref q17, .ref q26, .int 0, .ref q34, .int 0, .ref q41, .int 0, .int 0, .int 0, .int 0, .int 0, .int 0, .int 0, .int 0, .int 0, .int 0, .long 0])), (q8, .inl (cs 0, 376, .inl (upd (upd (upd (upd (upd (upd (upd (upd (fun _ => 0) 0 200) 4 60) 8 10) 12 1) 1 200) 5 60) 9 20) 13 1))), (q17, .inl (cs 0, 376, .inl (fun _ => 0))), (q26, .inl (cs 0, 2256, .inl (fun _ => 0))), (q34, .inl (cs 0, 60, .inl (fun _ => 0))), (q41, .inl (cs 0, 4, .inl (fun _ => 0)))] := hD
  refine lv_iinc hx hb (v := 2) dX5_init_100 hl (k := 0) rfl rfl (by decide) (lv' := [(1, .int 2), (0, .ref h0)]) rfl (fun ls hl => ?_)
  refine lv_goto hx hb (tgt := 48) dX5_init_103 rfl ?_
  refine lv_iload_n hx hb dX5_init_48 rfl (lv_at hl 0 rfl) ?_
  refine lv_iconst (v := 4) hx hb dX5_init_49 rfl ?_
  refine lv_icmp_ge hx hb (tgt := 106) dX5_init_50 rfl (fun h9 => absurd h9 (by decide)) (fun _ => ?_)
  refine lv_aload_n hx hb dX5_init_53 rfl (lv_at hl 1 rfl) ?_
  refine va_get (D := (dC, dI)) (ci := 5) (C := RX5) (T := TX5) (N := 19) hx hb hts (by decide +kernel) hown hK hP 0 rfl rfl 1 (by decide) (hts (.fieldLink RX5 7 "IslandReserveModel" "s" "[I") (by decide +kernel)) (fun _ h9 => h9) rfl dX5_init_54 ?_
  refine lv_iconst (v := 0) hx hb dX5_init_57 rfl ?_
  refine lv_iload_n hx hb dX5_init_58 rfl (lv_at hl 0 rfl) ?_
  refine lv_iadd hx hb dX5_init_59 ?_
  refine W.eq (g2 := F0 m 60 ls [.int 2, .ref q8]) rfl ?_
  refine lv_sipush (v := 200) hx hb dX5_init_60 rfl ?_
  refine va_iast hx hb hK hP hD hS 1 0 rfl rfl (z_inb_vp rfl) dX5_init_63 (fun H locs hP hD hS => ?_)
  have hP : va_P (dC, dI) vwCl [(h0, .inr (5, [.int 0, .ref q8, .ref q17, .ref q26, .int 0, .ref q34, .int 0, .ref q41, .int 0, .int 0, .int 0, .int 0, .int 0, .int 0, .int 0, .int 0, .int 0, .int 0, .long 0])), (q8, .inl (cs 0, 376, .inl (upd (upd (upd (upd (upd (upd (upd (upd (upd (fun _ => 0) 0 200) 4 60) 8 10) 12 1) 1 200) 5 60) 9 20) 13 1) 2 200))), (q17, .inl (cs 0, 376, .inl (fun _ => 0))), (q26, .inl (cs 0, 2256, .inl (fun _ => 0))), (q34, .inl (cs 0, 60, .inl (fun _ => 0))), (q41, .inl (cs 0, 4, .inl (fun _ => 0)))] H := hP
  have hD : va_D A [(h0, .inr (5, [.int 0, .ref q8, .ref q17, .ref q26, .int 0, .ref q34, .int 0, .ref q41, .int 0, .int 0, .int 0, .int 0, .int 0, .int 0, .int 0, .int 0, .int 0, .int 0, .long 0])), (q8, .inl (cs 0, 376, .inl (upd (upd (upd (upd (upd (upd (upd (upd (upd (fun _ => 0) 0 200) 4 60) 8 10) 12 1) 1 200) 5 60) 9 20) 13 1) 2 200))), (q17, .inl (cs 0, 376, .inl (fun _ => 0))), (q26, .inl (cs 0, 2256, .inl (fun _ => 0))), (q34, .inl (cs 0, 60, .inl (fun _ => 0))), (q41, .inl (cs 0, 4, .inl (fun _ => 0)))] := hD
  refine lv_aload_n hx hb dX5_init_64 rfl (lv_at hl 1 rfl) ?_
  refine va_get (D := (dC, dI)) (ci := 5) (C := RX5) (T := TX5) (N := 19) hx hb hts (by decide +kernel) hown hK hP 0 rfl rfl 1 (by decide) (hts (.fieldLink RX5 7 "IslandReserveModel" "s" "[I") (by decide +kernel)) (fun _ h9 => h9) rfl dX5_init_65 ?_
  refine lv_iconst (v := 4) hx hb dX5_init_68 rfl ?_
  refine lv_iload_n hx hb dX5_init_69 rfl (lv_at hl 0 rfl) ?_
  refine lv_iadd hx hb dX5_init_70 ?_
  refine W.eq (g2 := F0 m 71 ls [.int 6, .ref q8]) rfl ?_
  refine lv_bipush (v := 60) hx hb dX5_init_71 rfl ?_
  refine va_iast hx hb hK hP hD hS 1 0 rfl rfl (z_inb_vp rfl) dX5_init_73 (fun H locs hP hD hS => ?_)
  have hP : va_P (dC, dI) vwCl [(h0, .inr (5, [.int 0, .ref q8, .ref q17, .ref q26, .int 0, .ref q34, .int 0, .ref q41, .int 0, .int 0, .int 0, .int 0, .int 0, .int 0, .int 0, .int 0, .int 0, .int 0, .long 0])), (q8, .inl (cs 0, 376, .inl (upd (upd (upd (upd (upd (upd (upd (upd (upd (upd (fun _ => 0) 0 200) 4 60) 8 10) 12 1) 1 200) 5 60) 9 20) 13 1) 2 200) 6 60))), (q17, .inl (cs 0, 376, .inl (fun _ => 0))), (q26, .inl (cs 0, 2256, .inl (fun _ => 0))), (q34, .inl (cs 0, 60, .inl (fun _ => 0))), (q41, .inl (cs 0, 4, .inl (fun _ => 0)))] H := hP
  have hD : va_D A [(h0, .inr (5, [.int 0, .ref q8, .ref q17, .ref q26, .int 0, .ref q34, .int 0, .ref q41, .int 0, .int 0, .int 0, .int 0, .int 0, .int 0, .int 0, .int 0, .int 0, .int 0, .long 0])), (q8, .inl (cs 0, 376, .inl (upd (upd (upd (upd (upd (upd (upd (upd (upd (upd (fun _ => 0) 0 200) 4 60) 8 10) 12 1) 1 200) 5 60) 9 20) 13 1) 2 200) 6 60))), (q17, .inl (cs 0, 376, .inl (fun _ => 0))), (q26, .inl (cs 0, 2256, .inl (fun _ => 0))), (q34, .inl (cs 0, 60, .inl (fun _ => 0))), (q41, .inl (cs 0, 4, .inl (fun _ => 0)))] := hD
  refine lv_aload_n hx hb dX5_init_74 rfl (lv_at hl 1 rfl) ?_
  refine va_get (D := (dC, dI)) (ci := 5) (C := RX5) (T := TX5) (N := 19) hx hb hts (by decide +kernel) hown hK hP 0 rfl rfl 1 (by decide) (hts (.fieldLink RX5 7 "IslandReserveModel" "s" "[I") (by decide +kernel)) (fun _ h9 => h9) rfl dX5_init_75 ?_
  refine lv_bipush (v := 8) hx hb dX5_init_78 rfl ?_
  refine lv_iload_n hx hb dX5_init_80 rfl (lv_at hl 0 rfl) ?_
  refine lv_iadd hx hb dX5_init_81 ?_
  refine W.eq (g2 := F0 m 82 ls [.int 10, .ref q8]) rfl ?_
  refine lv_bipush (v := 10) hx hb dX5_init_82 rfl ?_
  refine lv_iload_n hx hb dX5_init_84 rfl (lv_at hl 0 rfl) ?_
  refine lv_imul hx hb dX5_init_85 ?_
  refine W.eq (g2 := F0 m 86 ls [.int 20, .int 10, .ref q8]) rfl ?_
  refine lv_bipush (v := 10) hx hb dX5_init_86 rfl ?_
  refine lv_iadd hx hb dX5_init_88 ?_
  refine W.eq (g2 := F0 m 89 ls [.int 30, .int 10, .ref q8]) rfl ?_
  refine va_iast hx hb hK hP hD hS 1 0 rfl rfl (z_inb_vp rfl) dX5_init_89 (fun H locs hP hD hS => ?_)
  have hP : va_P (dC, dI) vwCl [(h0, .inr (5, [.int 0, .ref q8, .ref q17, .ref q26, .int 0, .ref q34, .int 0, .ref q41, .int 0, .int 0, .int 0, .int 0, .int 0, .int 0, .int 0, .int 0, .int 0, .int 0, .long 0])), (q8, .inl (cs 0, 376, .inl (upd (upd (upd (upd (upd (upd (upd (upd (upd (upd (upd (fun _ => 0) 0 200) 4 60) 8 10) 12 1) 1 200) 5 60) 9 20) 13 1) 2 200) 6 60) 10 30))), (q17, .inl (cs 0, 376, .inl (fun _ => 0))), (q26, .inl (cs 0, 2256, .inl (fun _ => 0))), (q34, .inl (cs 0, 60, .inl (fun _ => 0))), (q41, .inl (cs 0, 4, .inl (fun _ => 0)))] H := hP
  have hD : va_D A [(h0, .inr (5, [.int 0, .ref q8, .ref q17, .ref q26, .int 0, .ref q34, .int 0, .ref q41, .int 0, .int 0, .int 0, .int 0, .int 0, .int 0, .int 0, .int 0, .int 0, .int 0, .long 0])), (q8, .inl (cs 0, 376, .inl (upd (upd (upd (upd (upd (upd (upd (upd (upd (upd (upd (fun _ => 0) 0 200) 4 60) 8 10) 12 1) 1 200) 5 60) 9 20) 13 1) 2 200) 6 60) 10 30))), (q17, .inl (cs 0, 376, .inl (fun _ => 0))), (q26, .inl (cs 0, 2256, .inl (fun _ => 0))), (q34, .inl (cs 0, 60, .inl (fun _ => 0))), (q41, .inl (cs 0, 4, .inl (fun _ => 0)))] := hD
  refine lv_aload_n hx hb dX5_init_90 rfl (lv_at hl 1 rfl) ?_
  refine va_get (D := (dC, dI)) (ci := 5) (C := RX5) (T := TX5) (N := 19) hx hb hts (by decide +kernel) hown hK hP 0 rfl rfl 1 (by decide) (hts (.fieldLink RX5 7 "IslandReserveModel" "s" "[I") (by decide +kernel)) (fun _ h9 => h9) rfl dX5_init_91 ?_
  refine lv_bipush (v := 12) hx hb dX5_init_94 rfl ?_
  refine lv_iload_n hx hb dX5_init_96 rfl (lv_at hl 0 rfl) ?_
  refine lv_iadd hx hb dX5_init_97 ?_
  refine W.eq (g2 := F0 m 98 ls [.int 14, .ref q8]) rfl ?_
  refine lv_iconst (v := 1) hx hb dX5_init_98 rfl ?_
  refine va_iast hx hb hK hP hD hS 1 0 rfl rfl (z_inb_vp rfl) dX5_init_99 (fun H locs hP hD hS => ?_)
  have hP : va_P (dC, dI) vwCl [(h0, .inr (5, [.int 0, .ref q8, .ref q17, .ref q26, .int 0, .ref q34, .int 0, .ref q41, .int 0, .int 0, .int 0, .int 0, .int 0, .int 0, .int 0, .int 0, .int 0, .int 0, .long 0])), (q8, .inl (cs 0, 376, .inl (upd (upd (upd (upd (upd (upd (upd (upd (upd (upd (upd (upd (fun _ => 0) 0 200) 4 60) 8 10) 12 1) 1 200) 5 60) 9 20) 13 1) 2 200) 6 60) 10 30) 14 1))), (q17, .inl (cs 0, 376, .inl (fun _ => 0))), (q26, .inl (cs 0, 2256, .inl (fun _ => 0))), (q34, .inl (cs 0, 60, .inl (fun _ => 0))), (q41, .inl (cs 0, 4, .inl (fun _ => 0)))] H := hP
  have hD : va_D A [(h0, .inr (5, [.int 0, .ref q8, .ref q17, .ref q26, .int 0, .ref q34, .int 0, .ref q41, .int 0, .int 0, .int 0, .int 0, .int 0, .int 0, .int 0, .int 0, .int 0, .int 0, .long 0])), (q8, .inl (cs 0, 376, .inl (upd (upd (upd (upd (upd (upd (upd (upd (upd (upd (upd (upd (fun _ => 0) 0 200) 4 60) 8 10) 12 1) 1 200) 5 60) 9 20) 13 1) 2 200) 6 60) 10 30) 14 1))), (q17, .inl (cs 0, 376, .inl (fun _ => 0))), (q26, .inl (cs 0, 2256, .inl (fun _ => 0))), (q34, .inl (cs 0, 60, .inl (fun _ => 0))), (q41, .inl (cs 0, 4, .inl (fun _ => 0)))] := hD
  refine lv_iinc hx hb (v := 3) dX5_init_100 hl (k := 0) rfl rfl (by decide) (lv' := [(1, .int 3), (0, .ref h0)]) rfl (fun ls hl => ?_)
  refine lv_goto hx hb (tgt := 48) dX5_init_103 rfl ?_
  refine lv_iload_n hx hb dX5_init_48 rfl (lv_at hl 0 rfl) ?_
  refine lv_iconst (v := 4) hx hb dX5_init_49 rfl ?_
  refine lv_icmp_ge hx hb (tgt := 106) dX5_init_50 rfl (fun h9 => absurd h9 (by decide)) (fun _ => ?_)
  refine lv_aload_n hx hb dX5_init_53 rfl (lv_at hl 1 rfl) ?_
  refine va_get (D := (dC, dI)) (ci := 5) (C := RX5) (T := TX5) (N := 19) hx hb hts (by decide +kernel) hown hK hP 0 rfl rfl 1 (by decide) (hts (.fieldLink RX5 7 "IslandReserveModel" "s" "[I") (by decide +kernel)) (fun _ h9 => h9) rfl dX5_init_54 ?_
  refine lv_iconst (v := 0) hx hb dX5_init_57 rfl ?_
  refine lv_iload_n hx hb dX5_init_58 rfl (lv_at hl 0 rfl) ?_
  refine lv_iadd hx hb dX5_init_59 ?_
  refine W.eq (g2 := F0 m 60 ls [.int 3, .ref q8]) rfl ?_
  refine lv_sipush (v := 200) hx hb dX5_init_60 rfl ?_
  refine va_iast hx hb hK hP hD hS 1 0 rfl rfl (z_inb_vp rfl) dX5_init_63 (fun H locs hP hD hS => ?_)
  have hP : va_P (dC, dI) vwCl [(h0, .inr (5, [.int 0, .ref q8, .ref q17, .ref q26, .int 0, .ref q34, .int 0, .ref q41, .int 0, .int 0, .int 0, .int 0, .int 0, .int 0, .int 0, .int 0, .int 0, .int 0, .long 0])), (q8, .inl (cs 0, 376, .inl (upd (upd (upd (upd (upd (upd (upd (upd (upd (upd (upd (upd (upd (fun _ => 0) 0 200) 4 60) 8 10) 12 1) 1 200) 5 60) 9 20) 13 1) 2 200) 6 60) 10 30) 14 1) 3 200))), (q17, .inl (cs 0, 376, .inl (fun _ => 0))), (q26, .inl (cs 0, 2256, .inl (fun _ => 0))), (q34, .inl (cs 0, 60, .inl (fun _ => 0))), (q41, .inl (cs 0, 4, .inl (fun _ => 0)))] H := hP
  have hD : va_D A [(h0, .inr (5, [.int 0, .ref q8, .ref q17, .ref q26, .int 0, .ref q34, .int 0, .ref q41, .int 0, .int 0, .int 0, .int 0, .int 0, .int 0, .int 0, .int 0, .int 0, .int 0, .long 0])), (q8, .inl (cs 0, 376, .inl (upd (upd (upd (upd (upd (upd (upd (upd (upd (upd (upd (upd (upd (fun _ => 0) 0 200) 4 60) 8 10) 12 1) 1 200) 5 60) 9 20) 13 1) 2 200) 6 60) 10 30) 14 1) 3 200))), (q17, .inl (cs 0, 376, .inl (fun _ => 0))), (q26, .inl (cs 0, 2256, .inl (fun _ => 0))), (q34, .inl (cs 0, 60, .inl (fun _ => 0))), (q41, .inl (cs 0, 4, .inl (fun _ => 0)))] := hD
  refine lv_aload_n hx hb dX5_init_64 rfl (lv_at hl 1 rfl) ?_
  refine va_get (D := (dC, dI)) (ci := 5) (C := RX5) (T := TX5) (N := 19) hx hb hts (by decide +kernel) hown hK hP 0 rfl rfl 1 (by decide) (hts (.fieldLink RX5 7 "IslandReserveModel" "s" "[I") (by decide +kernel)) (fun _ h9 => h9) rfl dX5_init_65 ?_
  refine lv_iconst (v := 4) hx hb dX5_init_68 rfl ?_
  refine lv_iload_n hx hb dX5_init_69 rfl (lv_at hl 0 rfl) ?_
  refine lv_iadd hx hb dX5_init_70 ?_
  refine W.eq (g2 := F0 m 71 ls [.int 7, .ref q8]) rfl ?_
  refine lv_bipush (v := 60) hx hb dX5_init_71 rfl ?_
  refine va_iast hx hb hK hP hD hS 1 0 rfl rfl (z_inb_vp rfl) dX5_init_73 (fun H locs hP hD hS => ?_)
  have hP : va_P (dC, dI) vwCl [(h0, .inr (5, [.int 0, .ref q8, .ref q17, .ref q26, .int 0, .ref q34, .int 0, .ref q41, .int 0, .int 0, .int 0, .int 0, .int 0, .int 0, .int 0, .int 0, .int 0, .int 0, .long 0])), (q8, .inl (cs 0, 376, .inl (upd (upd (upd (upd (upd (upd (upd (upd (upd (upd (upd (upd (upd (upd (fun _ => 0) 0 200) 4 60) 8 10) 12 1) 1 200) 5 60) 9 20) 13 1) 2 200) 6 60) 10 30) 14 1) 3 200) 7 60))), (q17, .inl (cs 0, 376, .inl (fun _ => 0))), (q26, .inl (cs 0, 2256, .inl (fun _ => 0))), (q34, .inl (cs 0, 60, .inl (fun _ => 0))), (q41, .inl (cs 0, 4, .inl (fun _ => 0)))] H := hP
  have hD : va_D A [(h0, .inr (5, [.int 0, .ref q8, .ref q17, .ref q26, .int 0, .ref q34, .int 0, .ref q41, .int 0, .int 0, .int 0, .int 0, .int 0, .int 0, .int 0, .int 0, .int 0, .int 0, .long 0])), (q8, .inl (cs 0, 376, .inl (upd (upd (upd (upd (upd (upd (upd (upd (upd (upd (upd (upd (upd (upd (fun _ => 0) 0 200) 4 60) 8 10) 12 1) 1 200) 5 60) 9 20) 13 1) 2 200) 6 60) 10 30) 14 1) 3 200) 7 60))), (q17, .inl (cs 0, 376, .inl (fun _ => 0))), (q26, .inl (cs 0, 2256, .inl (fun _ => 0))), (q34, .inl (cs 0, 60, .inl (fun _ => 0))), (q41, .inl (cs 0, 4, .inl (fun _ => 0)))] := hD
  refine lv_aload_n hx hb dX5_init_74 rfl (lv_at hl 1 rfl) ?_
  refine va_get (D := (dC, dI)) (ci := 5) (C := RX5) (T := TX5) (N := 19) hx hb hts (by decide +kernel) hown hK hP 0 rfl rfl 1 (by decide) (hts (.fieldLink RX5 7 "IslandReserveModel" "s" "[I") (by decide +kernel)) (fun _ h9 => h9) rfl dX5_init_75 ?_
  refine lv_bipush (v := 8) hx hb dX5_init_78 rfl ?_
  refine lv_iload_n hx hb dX5_init_80 rfl (lv_at hl 0 rfl) ?_
  refine lv_iadd hx hb dX5_init_81 ?_
  refine W.eq (g2 := F0 m 82 ls [.int 11, .ref q8]) rfl ?_
  refine lv_bipush (v := 10) hx hb dX5_init_82 rfl ?_
  refine lv_iload_n hx hb dX5_init_84 rfl (lv_at hl 0 rfl) ?_
  refine lv_imul hx hb dX5_init_85 ?_
  refine W.eq (g2 := F0 m 86 ls [.int 30, .int 11, .ref q8]) rfl ?_
  refine lv_bipush (v := 10) hx hb dX5_init_86 rfl ?_
  refine lv_iadd hx hb dX5_init_88 ?_
  refine W.eq (g2 := F0 m 89 ls [.int 40, .int 11, .ref q8]) rfl ?_
  refine va_iast hx hb hK hP hD hS 1 0 rfl rfl (z_inb_vp rfl) dX5_init_89 (fun H locs hP hD hS => ?_)
  have hP : va_P (dC, dI) vwCl [(h0, .inr (5, [.int 0, .ref q8, .ref q17, .ref q26, .int 0, .ref q34, .int 0, .ref q41, .int 0, .int 0, .int 0, .int 0, .int 0, .int 0, .int 0, .int 0, .int 0, .int 0, .long 0])), (q8, .inl (cs 0, 376, .inl (upd (upd (upd (upd (upd (upd (upd (upd (upd (upd (upd (upd (upd (upd (upd (fun _ => 0) 0 200) 4 60) 8 10) 12 1) 1 200) 5 60) 9 20) 13 1) 2 200) 6 60) 10 30) 14 1) 3 200) 7 60) 11 40))), (q17, .inl (cs 0, 376, .inl (fun _ => 0))), (q26, .inl (cs 0, 2256, .inl (fun _ => 0))), (q34, .inl (cs 0, 60, .inl (fun _ => 0))), (q41, .inl (cs 0, 4, .inl (fun _ => 0)))] H := hP
  have hD : va_D A [(h0, .inr (5, [.int 0, .ref q8, .ref q17, .ref q26, .int 0, .ref q34, .int 0, .ref q41, .int 0, .int 0, .int 0, .int 0, .int 0, .int 0, .int 0, .int 0, .int 0, .int 0, .long 0])), (q8, .inl (cs 0, 376, .inl (upd (upd (upd (upd (upd (upd (upd (upd (upd (upd (upd (upd (upd (upd (upd (fun _ => 0) 0 200) 4 60) 8 10) 12 1) 1 200) 5 60) 9 20) 13 1) 2 200) 6 60) 10 30) 14 1) 3 200) 7 60) 11 40))), (q17, .inl (cs 0, 376, .inl (fun _ => 0))), (q26, .inl (cs 0, 2256, .inl (fun _ => 0))), (q34, .inl (cs 0, 60, .inl (fun _ => 0))), (q41, .inl (cs 0, 4, .inl (fun _ => 0)))] := hD
  refine lv_aload_n hx hb dX5_init_90 rfl (lv_at hl 1 rfl) ?_
  refine va_get (D := (dC, dI)) (ci := 5) (C := RX5) (T := TX5) (N := 19) hx hb hts (by decide +kernel) hown hK hP 0 rfl rfl 1 (by decide) (hts (.fieldLink RX5 7 "IslandReserveModel" "s" "[I") (by decide +kernel)) (fun _ h9 => h9) rfl dX5_init_91 ?_
  refine lv_bipush (v := 12) hx hb dX5_init_94 rfl ?_
  refine lv_iload_n hx hb dX5_init_96 rfl (lv_at hl 0 rfl) ?_
  refine lv_iadd hx hb dX5_init_97 ?_
  refine W.eq (g2 := F0 m 98 ls [.int 15, .ref q8]) rfl ?_
  refine lv_iconst (v := 1) hx hb dX5_init_98 rfl ?_
  refine va_iast hx hb hK hP hD hS 1 0 rfl rfl (z_inb_vp rfl) dX5_init_99 (fun H locs hP hD hS => ?_)
  have hP : va_P (dC, dI) vwCl [(h0, .inr (5, [.int 0, .ref q8, .ref q17, .ref q26, .int 0, .ref q34, .int 0, .ref q41, .int 0, .int 0, .int 0, .int 0, .int 0, .int 0, .int 0, .int 0, .int 0, .int 0, .long 0])), (q8, .inl (cs 0, 376, .inl (upd (upd (upd (upd (upd (upd (upd (upd (upd (upd (upd (upd (upd (upd (upd (upd (fun _ => 0) 0 200) 4 60) 8 10) 12 1) 1 200) 5 60) 9 20) 13 1) 2 200) 6 60) 10 30) 14 1) 3 200) 7 60) 11 40) 15 1))), (q17, .inl (cs 0, 376, .inl (fun _ => 0))), (q26, .inl (cs 0, 2256, .inl (fun _ => 0))), (q34, .inl (cs 0, 60, .inl (fun _ => 0))), (q41, .inl (cs 0, 4, .inl (fun _ => 0)))] H := hP
  have hD : va_D A [(h0, .inr (5, [.int 0, .ref q8, .ref q17, .ref q26, .int 0, .ref q34, .int 0, .ref q41, .int 0, .int 0, .int 0, .int 0, .int 0, .int 0, .int 0, .int 0, .int 0, .int 0, .long 0])), (q8, .inl (cs 0, 376, .inl (upd (upd (upd (upd (upd (upd (upd (upd (upd (upd (upd (upd (upd (upd (upd (upd (fun _ => 0) 0 200) 4 60) 8 10) 12 1) 1 200) 5 60) 9 20) 13 1) 2 200) 6 60) 10 30) 14 1) 3 200) 7 60) 11 40) 15 1))), (q17, .inl (cs 0, 376, .inl (fun _ => 0))), (q26, .inl (cs 0, 2256, .inl (fun _ => 0))), (q34, .inl (cs 0, 60, .inl (fun _ => 0))), (q41, .inl (cs 0, 4, .inl (fun _ => 0)))] := hD
  refine lv_iinc hx hb (v := 4) dX5_init_100 hl (k := 0) rfl rfl (by decide) (lv' := [(1, .int 4), (0, .ref h0)]) rfl (fun ls hl => ?_)
  refine lv_goto hx hb (tgt := 48) dX5_init_103 rfl ?_
  refine lv_iload_n hx hb dX5_init_48 rfl (lv_at hl 0 rfl) ?_
  refine lv_iconst (v := 4) hx hb dX5_init_49 rfl ?_
  refine lv_icmp_ge hx hb (tgt := 106) dX5_init_50 rfl (fun _ => ?_) (fun h9 => absurd (by decide) h9)
  refine lv_iconst (v := 0) hx hb dX5_init_106 rfl ?_
  refine lv_istore_n hx hb dX5_init_107 rfl hl (by decide) (lv' := [(1, .int 0), (0, .ref h0)]) rfl (fun ls hl => ?_)
  refine m_loop (F := m1) hx hb hts hown hK (fun ls H locs hl hP hD hS => ?_) 48 0 rfl ls H locs hl (by rw [fl9_0]; exact hP) (by rw [fl9_0]; exact hD) hS
  have hP : va_P (dC, dI) vwCl [(h0, .inr (5, [.int 0, .ref q8, .ref q17, .ref q26, .int 0, .ref q34, .int 0, .ref q41, .int 0, .int 0, .int 0, .int 0, .int 0, .int 0, .int 0, .int 0, .int 0, .int 0, .long 0])), (q8, .inl (cs 0, 376, .inl (fl9 m1 48))), (q17, .inl (cs 0, 376, .inl (fun _ => 0))), (q26, .inl (cs 0, 2256, .inl (fun _ => 0))), (q34, .inl (cs 0, 60, .inl (fun _ => 0))), (q41, .inl (cs 0, 4, .inl (fun _ => 0)))] H := hP
  have hD : va_D A [(h0, .inr (5, [.int 0, .ref q8, .ref q17, .ref q26, .int 0, .ref q34, .int 0, .ref q41, .int 0, .int 0, .int 0, .int 0, .int 0, .int 0, .int 0, .int 0, .int 0, .int 0, .long 0])), (q8, .inl (cs 0, 376, .inl (fl9 m1 48))), (q17, .inl (cs 0, 376, .inl (fun _ => 0))), (q26, .inl (cs 0, 2256, .inl (fun _ => 0))), (q34, .inl (cs 0, 60, .inl (fun _ => 0))), (q41, .inl (cs 0, 4, .inl (fun _ => 0)))] := hD
  refine lv_aload_n hx hb dX5_init_131 rfl (lv_at hl 1 rfl) ?_
  refine va_get (D := (dC, dI)) (ci := 5) (C := RX5) (T := TX5) (N := 19) hx hb hts (by decide +kernel) hown hK hP 0 rfl rfl 1 (by decide) (hts (.fieldLink RX5 7 "IslandReserveModel" "s" "[I") (by decide +kernel)) (fun _ h9 => h9) rfl dX5_init_132 ?_
  refine lv_bipush (v := 32) hx hb dX5_init_135 rfl ?_
  refine lv_bipush (v := 80) hx hb dX5_init_137 rfl ?_
  refine va_iast hx hb hK hP hD hS 1 0 rfl rfl (z_inb_vp rfl) dX5_init_139 (fun H locs hP hD hS => ?_)
  have hP : va_P (dC, dI) vwCl [(h0, .inr (5, [.int 0, .ref q8, .ref q17, .ref q26, .int 0, .ref q34, .int 0, .ref q41, .int 0, .int 0, .int 0, .int 0, .int 0, .int 0, .int 0, .int 0, .int 0, .int 0, .long 0])), (q8, .inl (cs 0, 376, .inl (upd (fl9 m1 48) 32 80))), (q17, .inl (cs 0, 376, .inl (fun _ => 0))), (q26, .inl (cs 0, 2256, .inl (fun _ => 0))), (q34, .inl (cs 0, 60, .inl (fun _ => 0))), (q41, .inl (cs 0, 4, .inl (fun _ => 0)))] H := hP
  have hD : va_D A [(h0, .inr (5, [.int 0, .ref q8, .ref q17, .ref q26, .int 0, .ref q34, .int 0, .ref q41, .int 0, .int 0, .int 0, .int 0, .int 0, .int 0, .int 0, .int 0, .int 0, .int 0, .long 0])), (q8, .inl (cs 0, 376, .inl (upd (fl9 m1 48) 32 80))), (q17, .inl (cs 0, 376, .inl (fun _ => 0))), (q26, .inl (cs 0, 2256, .inl (fun _ => 0))), (q34, .inl (cs 0, 60, .inl (fun _ => 0))), (q41, .inl (cs 0, 4, .inl (fun _ => 0)))] := hD
  refine lv_aload_n hx hb dX5_init_140 rfl (lv_at hl 1 rfl) ?_
  refine va_get (D := (dC, dI)) (ci := 5) (C := RX5) (T := TX5) (N := 19) hx hb hts (by decide +kernel) hown hK hP 0 rfl rfl 1 (by decide) (hts (.fieldLink RX5 7 "IslandReserveModel" "s" "[I") (by decide +kernel)) (fun _ h9 => h9) rfl dX5_init_141 ?_
  refine lv_bipush (v := 33) hx hb dX5_init_144 rfl ?_
  refine lv_bipush (v := 6) hx hb dX5_init_146 rfl ?_
  refine va_iast hx hb hK hP hD hS 1 0 rfl rfl (z_inb_vp rfl) dX5_init_148 (fun H locs hP hD hS => ?_)
  have hP : va_P (dC, dI) vwCl [(h0, .inr (5, [.int 0, .ref q8, .ref q17, .ref q26, .int 0, .ref q34, .int 0, .ref q41, .int 0, .int 0, .int 0, .int 0, .int 0, .int 0, .int 0, .int 0, .int 0, .int 0, .long 0])), (q8, .inl (cs 0, 376, .inl (upd (upd (fl9 m1 48) 32 80) 33 6))), (q17, .inl (cs 0, 376, .inl (fun _ => 0))), (q26, .inl (cs 0, 2256, .inl (fun _ => 0))), (q34, .inl (cs 0, 60, .inl (fun _ => 0))), (q41, .inl (cs 0, 4, .inl (fun _ => 0)))] H := hP
  have hD : va_D A [(h0, .inr (5, [.int 0, .ref q8, .ref q17, .ref q26, .int 0, .ref q34, .int 0, .ref q41, .int 0, .int 0, .int 0, .int 0, .int 0, .int 0, .int 0, .int 0, .int 0, .int 0, .long 0])), (q8, .inl (cs 0, 376, .inl (upd (upd (fl9 m1 48) 32 80) 33 6))), (q17, .inl (cs 0, 376, .inl (fun _ => 0))), (q26, .inl (cs 0, 2256, .inl (fun _ => 0))), (q34, .inl (cs 0, 60, .inl (fun _ => 0))), (q41, .inl (cs 0, 4, .inl (fun _ => 0)))] := hD
  have hP9 := hP.sub (ws' := wMo h0 cs (fun k => [q8, q17, q26, q34, q41].getD k 0)) [0, 1, 2, 3, 4, 5] rfl
  have hD9 := hD.sub (ws' := wMo h0 cs (fun k => [q8, q17, q26, q34, q41].getD k 0)) [0, 1, 2, 3, 4, 5] (by decide) rfl
  refine W.widen (k := 5) (n := 3072) (by decide) (by decide) ?_
  exact W.vret hx hb hr (fun t ht hW => ⟨⟨(fun k => [q8, q17, q26, q34, q41].getD k 0), rfl, trivial, by rw [ht]; exact hP9, z_KC.moved hW hKC, hD9⟩, hS.F ht⟩) hS.2.2 dX5_init_149
