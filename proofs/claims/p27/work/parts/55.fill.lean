/-! THE CONSTRUCTORS: Arrays.fill -/
def fil (x : Int32) (f : Nat → Int32) (i : Nat) : Nat → Int32 := fun j => if j < i then x else f j
theorem fil_0 {x : Int32} {f : Nat → Int32} : fil x f 0 = f := by
  funext j
  unfold fil
  rw [if_neg (by omega)]
theorem fil_s {x : Int32} {f : Nat → Int32} {i : Nat} : upd (fil x f i) i x = fil x f (i + 1) := by
  funext j
  simp only [upd, fil]
  by_cases h : j = i
  · subst h; rw [if_pos rfl, if_pos (by omega)]
  · rw [if_neg h]
    by_cases h2 : j < i
    · rw [if_pos h2, if_pos (by omega)]
    · rw [if_neg h2, if_neg (by omega)]
/-- Arrays.fill of an array of ints -/
theorem c_fill (l : Launch) (dC : Nat → ClassId) (dI : Nat → Nat → Nat) (a sz : Nat) (cA : ClassId) (N : Nat) (hN : N < 2 ^ 31) (f : Nat → Int32) (x : Int32) : Met l yJ7_fill_53178 wsJ7_fill_53178 ({ frames := 0, cells := 0, slots := 0, locals := 0 }) (va_Pc [.ref a, .int x] (fun U => U.heap.size = sz ∧ va_P (dC, dI) vwCl [(a, .inl (cA, N, .inl f))] U.heap ∧ va_K (dC, dI) vwCl [(cA, .int)] U ∧ va_D (fun _ => True) [(a, .inl (cA, N, .inl f))])) (va_Qv (fun _ : Unit => True) (fun _ t => va_P (dC, dI) vwCl [(a, .inl (cA, N, .inl (fil x f N)))] t.heap ∧ va_K (dC, dI) vwCl [(cA, .int)] t ∧ va_D (va_A [(a, .inl (cA, N, .inl f))] sz) [(a, .inl (cA, N, .inl (fil x f N)))]) (va_A [(a, .inl (cA, N, .inl f))] sz)) 0 0 (va_A [(a, .inl (cA, N, .inl f))] sz) := by
  refine Met.ofW (cc := cJ7_fill_53178) (maxL := 4) (ret := none) (by decide) rfl ?_
  intro p e s m args below meth c s₁ B hml hv
  obtain ⟨rfl, hsz, hP, hK, hD0⟩ := hv
  have hx := B.exec
  have hb := B.bytes
  have hr := B.returns
  subst hsz
  have hD := hD0.self (sz := s.heap.size)
  generalize hAe : va_A [(a, .inl (cA, N, .inl f))] s.heap.size = A at hD ⊢
  have hS : va_S A s.heap s.heap [] := va_S.rf
  have hP : va_P (dC, dI) vwCl [(a, .inl (cA, N, .inl f))] s.heap := hP
  have hl := lv_entry ([.ref a, .int x]) (n := 4) (Nat.le_of_ble_eq_true rfl)
  rw [lg_entry_eq]
  generalize (lg_sl ([.ref a, .int x]) ++ List.replicate (4 - (lg_sl ([.ref a, .int x])).length) Slot.unset).toArray = ls at hl ⊢
  have hl : lv_has ls 4 [(0, .ref a), (1, .int x)] := hl
  refine lv_iconst (v := 0) hx hb dJ7_fill_53178_0 rfl ?_
  refine lv_istore_n hx hb dJ7_fill_53178_1 rfl hl (by decide) (lv' := [(2, .int 0), (0, .ref a), (1, .int x)]) rfl (fun ls hl => ?_)
  refine lv_aload_n hx hb dJ7_fill_53178_2 rfl (lv_at hl 1 rfl) ?_
  refine va_alen hx hb hK hP 0 0 rfl rfl (v := nI N) rfl dJ7_fill_53178_3 ?_
  refine lv_istore_n hx hb dJ7_fill_53178_4 rfl hl (by decide) (lv' := [(3, .int (nI N)), (2, .int 0), (0, .ref a), (1, .int x)]) rfl (fun ls hl => ?_)
  have hl : lv_has ls 4 [(2, .int (nI 0)), (3, .int (nI N)), (0, .ref a), (1, .int x)] := lv_sub hl [1, 0, 2, 3] rfl
  have key : ∀ (d i : Nat), i + d = N → ∀ (ls : Array Slot) (H : Heap) (locs : List Loc), lv_has ls 4 [(2, .int (nI i)), (3, .int (nI N)), (0, .ref a), (1, .int x)] → va_P (dC, dI) vwCl [(a, .inl (cA, N, .inl (fil x f i)))] H → va_D A [(a, .inl (cA, N, .inl (fil x f i)))] → va_S A s.heap H locs → W p l e (headSpec wsJ7_fill_53178 { frames := 0, cells := 0, slots := 0, locals := 0 }).room s m [Value.ref a, Value.int x].toArray below meth c H locs 0 0 (MQ below (va_Qv (fun _ : Unit => True) (fun _ t => va_P (dC, dI) vwCl [(a, .inl (cA, N, .inl (fil x f N)))] t.heap ∧ va_K (dC, dI) vwCl [(cA, .int)] t ∧ va_D A [(a, .inl (cA, N, .inl (fil x f N)))]) A) [Value.ref a, Value.int x].toArray s 0 0 A) (F0 m 5 ls []) := by
    intro d
    induction d with
    | zero =>
      intro i hi ls H locs hl hP hD hS
      have e : i = N := by omega
      subst e
      refine lv_iload_n hx hb dJ7_fill_53178_5 rfl (lv_at hl 0 rfl) ?_
      refine lv_iload_n hx hb dJ7_fill_53178_6 rfl (lv_at hl 1 rfl) ?_
      refine lv_icmp_ge hx hb (tgt := 20) dJ7_fill_53178_7 rfl (fun _ => ?_) (fun h => absurd (Int32.le_refl _) h)
      have hP9 := hP.sub (ws' := [(a, .inl (cA, i, .inl (fil x f i)))]) [0] rfl
      have hD9 := hD.sub (ws' := [(a, .inl (cA, i, .inl (fil x f i)))]) [0] (by decide) rfl
      have hK9 := hK.sub (tys' := [(cA, .int)]) [0] rfl
      exact W.vret hx hb hr (fun t ht hW => ⟨⟨(), rfl, trivial, by rw [ht]; exact hP9, va_K.moved hW.alike hK9, hD9⟩, hS.F ht⟩) hS.2.2 dJ7_fill_53178_20
    | succ d ih =>
      intro i hi ls H locs hl hP hD hS
      refine lv_iload_n hx hb dJ7_fill_53178_5 rfl (lv_at hl 0 rfl) ?_
      refine lv_iload_n hx hb dJ7_fill_53178_6 rfl (lv_at hl 1 rfl) ?_
      refine lv_icmp_ge hx hb (tgt := 20) dJ7_fill_53178_7 rfl (fun h => absurd h (nI_ge (by omega) hN)) (fun _ => ?_)
      refine lv_aload_n hx hb dJ7_fill_53178_10 rfl (lv_at hl 2 rfl) ?_
      refine lv_iload_n hx hb dJ7_fill_53178_11 rfl (lv_at hl 0 rfl) ?_
      refine lv_iload_n hx hb dJ7_fill_53178_12 rfl (lv_at hl 3 rfl) ?_
      refine va_iast hx hb hK hP hD hS 0 0 rfl rfl (z_inb_vp (inb_nI (show i < N by omega) hN)) dJ7_fill_53178_13 (fun H locs hP hD hS => ?_)
      rw [nI_clamp (show i < 2 ^ 31 by omega), fil_s] at hP hD
      refine lv_iinc hx hb (v := nI (i + 1)) dJ7_fill_53178_14 hl (k := 0) rfl (nI_1 i) (by decide) (lv' := [(2, .int (nI (i + 1))), (3, .int (nI N)), (0, .ref a), (1, .int x)]) rfl (fun ls hl => ?_)
      refine lv_goto hx hb (tgt := 5) dJ7_fill_53178_17 rfl ?_
      exact ih (i + 1) (by omega) ls H locs hl hP hD hS
  exact key N 0 (by omega) ls s.heap [] hl (by rw [fil_0]; exact hP) (by rw [fil_0]; exact hD) hS

