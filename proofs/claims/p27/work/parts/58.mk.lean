/-! THE CONSTRUCTORS: a call of one -/
/-- what a word of an array of arrays says -/
theorem ao_spec {t : FieldType} {u : State} (h : va_AOA t u) : ∃ comp c k, u.vm.findClass (FieldType.array t).toString = some comp ∧ (u.vm.classes.findIdx? fun (x : Class) => match x.kind with | .array component _ => component == comp | _ => false) = some c ∧ u.vm.classes[c]? = some k ∧ k.kind = .array comp (.array t) ∧ u.vm.findClass ("[" ++ (FieldType.array t).toString) = some c := by
  unfold va_AOA at h
  simp only [Cond.before, Cond.holds, Cond.value, beq_iff_eq] at h
  cases hc : u.vm.findClass (FieldType.array t).toString with
  | none => simp [hc] at h
  | some comp =>
    simp only [hc, Option.bind_some, Option.bind_eq_some_iff, Option.map_eq_some_iff] at h
    obtain ⟨c, hi, k, hk, hb⟩ := h
    obtain ⟨hlt, hp, -⟩ := Array.findIdx?_eq_some_iff_getElem.mp hi
    have hkk : u.vm.classes[c] = k := (Array.getElem?_eq_some_iff.mp hk).2
    rw [hkk] at hp
    cases hkind : k.kind with
    | array component ty =>
      rw [hkind] at hb hp
      simp at hb hp
      exact ⟨comp, c, k, rfl, hi, hk, by rw [hkind, hp, hb.1], hb.2⟩
    | _ => rw [hkind] at hb; simp at hb
theorem va_AOA.moved {t : FieldType} {u U : State} (hvm : u.vm.Alike U.vm) (h : va_AOA t u) : va_AOA t U := by
  obtain ⟨comp, c, k, h1, h2, h3, h4, h5⟩ := ao_spec h
  obtain ⟨k', hk', he⟩ := hvm.2.2 _ _ h3
  have hi : (U.vm.classes.findIdx? fun (x : Class) => match x.kind with | .array component _ => component == comp | _ => false) = some c := by
    refine Eq.trans (va_idx_bare U.vm comp).symm ?_
    first | rw [hvm.bare_eq] | rw [← hvm.bare_eq]
    exact (va_idx_bare u.vm comp).trans h2
  have hkind : k'.kind = .array comp (.array t) := by rw [he]; exact h4
  have f1 : U.vm.findClass (FieldType.array t).toString = some comp := by rw [hvm.findClass]; exact h1
  have f2 : U.vm.findClass ("[" ++ (FieldType.array t).toString) = some c := by rw [hvm.findClass]; exact h5
  unfold va_AOA Cond.before Cond.holds
  simp only [Cond.value]
  rw [f1, Option.bind_some]
  refine (congrArg (fun o : Option Nat => (o.bind (fun c => (U.vm.classes[c]?).map fun (k : Class) => match k.kind with | .array _ ty => decide (ty = FieldType.array t) && decide (U.vm.findClass ("[" ++ (FieldType.array t).toString) = some c) | _ => false) == some true)) hi).trans ?_
  simp [hk', hkind, f2]
/-- what the constructors know -/
def z_KC (D : va_G) (cs : Nat → ClassId) (U : State) : Prop := va_K D vwCl (z_tys cs) U ∧ (∀ w ∈ z_misc, va_Nw w U) ∧ va_AO RX1 U ∧ va_AOA .int U
theorem z_KC.moved {D : va_G} {cs : Nat → ClassId} {s U : State} (hW : s.WarmedH U.vm) (h : z_KC D cs s) : z_KC D cs U := ⟨va_K.moved hW.alike h.1, fun w hw => z_nw_warm (List.mem_filter.mp hw).2 hW (h.2.1 w hw), va_AO.moved hW.alike h.2.2.1, va_AOA.moved hW.alike h.2.2.2⟩
theorem same_0 {D : va_G} {cl : List vw_C} {U : State} {cs : Nat → ClassId} {cA : ClassId} (h : va_K D cl (z_tys cs ++ [(cA, .int)]) U) : cA = cs 0 := by
  have h1 : U.vm.findClass ("[" ++ FieldType.int.toString) = some (cs 0) := (h.2 0 (cs 0, .int) rfl).2
  have h2 : U.vm.findClass ("[" ++ FieldType.int.toString) = some cA := (h.2 3 (cA, .int) rfl).2
  exact Option.some.inj (h2.symm.trans h1)
theorem same_2 {D : va_G} {cl : List vw_C} {U : State} {cs : Nat → ClassId} {cA : ClassId} (h : va_K D cl (z_tys cs ++ [(cA, .object RX1)]) U) : cA = cs 2 := by
  obtain ⟨k1, c1, -, -, -, h1⟩ := (h.2 1 (cs 2, .object RX1) rfl).2
  obtain ⟨k2, c2, -, -, -, h2⟩ := (h.2 3 (cA, .object RX1) rfl).2
  exact Option.some.inj (h2.symm.trans h1)
theorem same_3 {D : va_G} {cl : List vw_C} {U : State} {cs : Nat → ClassId} {cA : ClassId} (h : va_K D cl (z_tys cs ++ [(cA, .array .int)]) U) : cA = cs 3 := by
  have h1 : U.vm.findClass ("[" ++ (FieldType.array .int).toString) = some (cs 3) := (h.2 2 (cs 3, .array .int) rfl).2
  have h2 : U.vm.findClass ("[" ++ (FieldType.array .int).toString) = some cA := (h.2 3 (cA, .array .int) rfl).2
  exact Option.some.inj (h2.symm.trans h1)
theorem va_nd_of : ∀ (l : List Nat), l.Nodup → va_nd l = true
  | [], _ => rfl
  | a :: l, h => by
    obtain ⟨h1, h2⟩ := List.nodup_cons.mp h
    show (decide (a ∉ l) && va_nd l) = true
    rw [va_nd_of l h2, decide_eq_true h1]
    rfl
section MK
variable {p : Program} {l : Launch} {e : Env} {R : Room} {s : State} {m : MethodId} {args : Array Value} {below : List Frame} {meth : Method} {c : Code} {H : Heap} {locs : List Loc} {cells slots mc ms : Nat} {Q : State → Prop}
variable {pc : Nat} {ls : Array Slot} {st0 rest : List Value} {D : va_G} {cl : List vw_C} {A : Nat → Prop} {ws : va_W} {H0 : Heap} {q : Nat × va_E}
theorem mk_C : [ws.length].map (fun i => (ws ++ [q])[i]?) = [q].map some := by simp
theorem mk_R : (List.range ws.length).map (fun i => (ws ++ [q])[i]?) = ws.map some := by
  apply List.ext_getElem?
  intro i
  by_cases hi : i < ws.length
  · rw [List.getElem?_map, List.getElem?_range hi, List.getElem?_map]
    show some ((ws ++ [q])[i]?) = _
    rw [List.getElem?_append_left hi, List.getElem?_eq_getElem hi]
    rfl
  · rw [List.getElem?_eq_none (by simp; omega), List.getElem?_eq_none (by simp; omega)]
/-- a call of a constructor for the object that was made last: what it makes comes behind the rest -/
theorem mk_call {S : Type} {wN : S → va_W} {K1 : S → State → Prop} {a : Array Value} (hr : va_Run p l e R s m args below meth c H locs cells slots mc ms (F0 m pc ls st0) rest (va_Qv (fun _ : S => True) (fun u t => va_P D cl (wN u) t.heap ∧ K1 u t ∧ va_D (va_A [q] H.size) (wN u)) (va_A [q] H.size) a) (va_A [q] H.size)) (hP : va_P D cl (ws ++ [q]) H) (hD : va_D A (ws ++ [q])) (hS : va_S A H0 H locs) (hA : ∀ q, H0.size ≤ q → A q)
    (kk : ∀ (u : S) (H1 : Heap) (locs1 : List Loc), va_P D cl (ws ++ wN u) H1 → va_D A (ws ++ wN u) → va_S A H0 H1 locs1 → W p l e R s m args below meth c H1 locs1 (cells + mc) (slots + ms) Q (F0 m (pc + 3) ls rest)) : W p l e R s m args below meth c H locs cells slots Q (F0 m pc ls st0) := by
  have hF := va_free (wc := [q]) hD hS hA [ws.length] mk_C
  refine va_callv hr hS (fun q _ h => hF q h) hF (fun u t H1 locs1 ht hvm _ hB hz1 hk1 hS1 => ?_)
  obtain ⟨hP1, hK1, hD1⟩ := hB
  rw [ht] at hP1
  obtain ⟨hP2, hD2⟩ := va_join (wr := ws) (w1 := wN u) hP hD [ws.length] (List.range ws.length) mk_C mk_R (va_nd_of _ List.nodup_range) (fun i hi h => by
    have h1 := List.mem_range.mp hi
    have h2 := List.mem_singleton.mp h
    omega) hk1 hF hP1 hD1
  exact kk u H1 locs1 hP2 hD2 hS1
/-- what it finds -/
theorem mk_pre {K0 : State → Prop} {b : Nat} (hP : va_P D cl (ws ++ [q]) H) (hD : va_D A (ws ++ [q])) (hb : ∀ (a : Array Value) (U : State) (g : JFrame) (mk : MethodId), K0 U → K0 (U.calling g mk a)) (hK : ∀ U : State, s.WarmedH U.vm → K0 U) : PreS s H (va_Pc [.ref b] (fun U => U.heap.size = H.size ∧ va_P D cl [q] U.heap ∧ K0 U ∧ va_D (fun _ => True) [q])) [.ref b] := by
  have hPc : va_P D cl [q] H := hP.sub (ws' := [q]) [ws.length] (by simp)
  have hDc : va_D A [q] := hD.sub (ws' := [q]) [ws.length] (by simp [va_nd]) mk_C
  refine ⟨fun a U g mk h => ?_, fun U hU hW => ⟨rfl, by rw [hU], by rw [hU]; exact hPc, hK U hW, hDc.weaken (fun _ _ _ _ => trivial)⟩⟩
  obtain ⟨h0, h1, h2, h3, h4⟩ := h
  exact ⟨h0, h1, h2, hb a U g mk h3, h4⟩
end MK

