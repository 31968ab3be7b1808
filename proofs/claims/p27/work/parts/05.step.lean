
/-! ONE STEP IS SOUND -/
theorem z_inb_vp {i : Int32} {n : Nat} (h : z_inb i n = true) : vp_in i n := by
  unfold z_inb at h
  obtain ⟨h1, h2⟩ := Bool.and_eq_true_iff.mp h
  have h3 : ¬ i < 0 := by simpa using h1
  have h4 : i.toNatClampNeg < n := Nat.ble_eq.mp h2
  intro q
  rcases q with q | q
  · exact h3 q
  · omega
theorem z_good_in {w : Cond} (h : w ∈ lw_tbl) (hg : goodWord w = true) : w ∈ z_good := List.mem_filter.mpr ⟨h, hg⟩
theorem z_misc_in {w : Cond} (h : w ∈ lw_tbl) (hg : z_isM w = true) : w ∈ z_misc := List.mem_filter.mpr ⟨h, hg⟩
theorem z_lays (c : Nat) (hc : c < 5) : ∀ w ∈ u_ws (z_on c) (z_T c) (z_nf c), w ∈ z_good := by
  have h : (List.range 5).all (fun c => (u_ws (z_on c) (z_T c) (z_nf c)).all (fun w => goodWord w && lw_tbl.any (fun x => decide (x = w)))) = true := by decide +kernel
  intro w hw
  have h1 := List.all_eq_true.mp (List.all_eq_true.mp h c (List.mem_range.mpr hc)) w hw
  obtain ⟨h2, h3⟩ := Bool.and_eq_true_iff.mp h1
  obtain ⟨x, hx, e⟩ := List.any_eq_true.mp h3
  have e2 := of_decide_eq_true e
  subst e2
  exact z_good_in hx h2
theorem z_cl_ok (c : Nat) (hc : c < 5) : vwCl[c]? = some (z_on c, z_T c, z_nf c) := by
  match c, hc with
  | 0, _ => rfl
  | 1, _ => rfl
  | 2, _ => rfl
  | 3, _ => rfl
  | 4, _ => rfl
theorem z_nm_ok (c : Nat) (hc : c < 5) : ∀ a, a < z_nf c → ∀ b, b < z_nf c → a ≠ b → (z_T c a).2.1 ≠ (z_T c b).2.1 := by
  match c, hc with
  | 0, _ => exact nmX0
  | 1, _ => exact nmX1
  | 2, _ => exact nmX2
  | 3, _ => exact nmX3
  | 4, _ => exact nmX4
theorem z_ty_ok (c : Nat) (hc : c < 5) : ∀ k, k < z_nf c → parseFieldDescriptor (z_T c k).2.2.1 = some (z_tyT c k) := by
  match c, hc with
  | 0, _ => exact tyX0_ok
  | 1, _ => exact tyX1_ok
  | 2, _ => exact tyX2_ok
  | 3, _ => exact tyX3_ok
  | 4, _ => exact tyX4_ok
theorem z_obj_nf {p c n : Nat} (h : z_obj p = some (c, n)) : c < 5 ∧ n = z_nf c := by
  unfold z_obj at h
  split at h <;> first | (cases h; decide) | cases h
/-- references read are good ones -/
theorem z_rd_ok {M : Mem} {f p k c n : Nat} (h : z_val f p = true) (ho : z_obj p = some (c, n)) (hk : k < n) : z_okv (z_rd M f p k) = true := by
  have hp : p = 0 ∨ p = 1 ∨ p = 16 ∨ p = 19 ∨ p = 23 := by
    unfold z_obj at ho
    split at ho <;> first | omega | cases ho
  have key : ∀ r, z_rk f p k = some r → z_okv r = true := by
    intro r hr
    rcases hp with rfl | rfl | rfl | rfl | rfl
    · cases ho
      match k, hk with
      | 0, _ => cases hr; exact h
      | 1, _ => cases hr; exact h
      | 2, _ => cases hr; exact h
      | 3, _ => cases hr
      | 4, _ => cases hr
      | 5, _ => cases hr
      | 6, _ => cases hr
      | j + 7, hk => exact absurd hk (by omega)
    · cases ho
      match k, hk with
      | 0, _ => cases hr; exact h
      | 1, _ => cases hr; exact h
      | 2, _ => cases hr; exact h
      | 3, _ => cases hr; exact h
      | 4, _ => cases hr; exact h
      | 5, _ => cases hr; exact h
      | 6, _ => cases hr; exact h
      | 7, _ => cases hr; exact h
      | j + 8, hk => exact absurd hk (by omega)
    · cases ho
      match k, hk with
      | 0, _ => cases hr; exact rfl
      | 1, _ => cases hr; exact rfl
      | 2, _ => cases hr; exact rfl
      | 3, _ => cases hr
      | 4, _ => cases hr
      | 5, _ => cases hr; exact rfl
      | 6, _ => cases hr
      | 7, _ => cases hr; exact rfl
      | 8, _ => cases hr; exact rfl
      | j + 9, hk => exact absurd hk (by omega)
    · cases ho
      match k, hk with
      | 0, _ => cases hr; exact rfl
      | 1, _ => cases hr; exact rfl
      | 2, _ => cases hr; exact rfl
      | 3, _ => cases hr
      | 4, _ => cases hr
      | j + 5, hk => exact absurd hk (by omega)
    · cases ho
      match k, hk with
      | 0, _ => cases hr; exact rfl
      | 1, _ => cases hr
      | 2, _ => cases hr
      | 3, _ => cases hr
      | 4, _ => cases hr
      | j + 5, hk => exact absurd hk (by omega)
  unfold z_rd
  cases hr : z_rk f p k with
  | some r => exact key r hr
  | none =>
    dsimp only
    cases (Nat.beq p 32 && Nat.beq k 18) <;> rfl
/-- a part that holds a reference is a part of the world, or the script -/
theorem z_okv_val {f p : Nat} (h : z_okv (.inr (.inr (.inr (f, p)))) = true) (hp : Nat.beq p 41 = false) : z_val f p = true := by
  have h1 : ((Nat.beq p 41 && Nat.beq f 0) || z_val f p) = true := h
  rw [hp] at h1
  exact h1
theorem z_okS_tl {v : AV} {t : List AV} (h : z_okS (v :: t) = true) : z_okS t = true := by
  have h1 : (z_okv v && z_okS t) = true := h
  exact (Bool.and_eq_true_iff.mp h1).2
theorem z_okS_hd {v : AV} {t : List AV} (h : z_okS (v :: t) = true) : z_okv v = true := by
  have h1 : (z_okv v && z_okS t) = true := h
  exact (Bool.and_eq_true_iff.mp h1).1
theorem z_okS_mk {v : AV} {t : List AV} (h1 : z_okv v = true) (h2 : z_okS t = true) : z_okS (v :: t) = true := by
  show (z_okv v && z_okS t) = true
  rw [h1, h2]
  rfl
theorem z_sl_map (ad : z_ad) : ∀ r : List AV, ((r.map (cv ad)).map fun v => v.category).sum = z_sl r
  | [] => rfl
  | v :: t => by
    have ih := z_sl_map ad t
    simp only [List.map_cons, List.sum_cons]
    rw [ih, cv_cat]
    show (if z_cat2 v = true then 2 else 1) + z_sl t = (bif z_cat2 v then 2 else 1) + z_sl t
    cases z_cat2 v <;> rfl
theorem z_isB_nar {x : Int32} (h : z_isB x = true) : narrow .boolean (.int x) = .int x := by
  unfold z_isB at h
  rcases Bool.or_eq_true_iff.mp h with e | e
  · rw [of_decide_eq_true e]; rfl
  · rw [of_decide_eq_true e]; rfl

theorem z_w_nat : Cond.native arraycopyName ∈ lw_tbl := List.mem_of_getElem? (i := 420) (by decide +kernel)
theorem z_w_stc : Cond.static arraycopyName ∈ lw_tbl := List.mem_of_getElem? (i := 419) (by decide +kernel)
theorem z_w_ini : Cond.initialized "java/lang/System" ∈ lw_tbl := List.mem_of_getElem? (i := 39) (by decide +kernel)
theorem z_w_mi : Cond.initialized "java/lang/Math" ∈ lw_tbl := List.mem_of_getElem? (i := 37) (by decide +kernel)
theorem z_w_mxs : Cond.static Lib.Math.max.name ∈ lw_tbl := List.mem_of_getElem? (i := 320) (by decide +kernel)
theorem z_w_mns : Cond.static Lib.Math.min.name ∈ lw_tbl := List.mem_of_getElem? (i := 309) (by decide +kernel)
theorem z_w_mxc : Cond.code Lib.Math.max.name Lib.Math.max.code 2 (some .int) ∈ lw_tbl := List.mem_of_getElem? (i := 321) (by decide +kernel)
theorem z_w_mnc : Cond.code Lib.Math.min.name Lib.Math.min.code 2 (some .int) ∈ lw_tbl := List.mem_of_getElem? (i := 310) (by decide +kernel)

theorem z_ti_eq {t : Int} {q : Nat} (h : z_ti t = some q) : t = (q : Int) := by
  unfold z_ti at h
  cases hc : decide (0 ≤ t)
  · rw [hc] at h; cases h
  · rw [hc] at h
    cases h
    exact (Int.toNat_of_nonneg (of_decide_eq_true hc)).symm
theorem z_natw {a : Nat} (h : a < 9) : a + (nativeFrameWords "java/lang/System" "arraycopy" 5 + 11) ≤ 40 := by
  have : nativeFrameWords "java/lang/System" "arraycopy" 5 = 7 := by decide +kernel
  omega
theorem z_beq_ne {a b : Nat} (h : a ≠ b) : Nat.beq a b = false := by
  cases hc : Nat.beq a b
  · rfl
  · exact absurd (Nat.eq_of_beq_eq_true hc) h
theorem z_okv_41 {f : Nat} (h : z_okv (.inr (.inr (.inr (f, 41)))) = true) : f = 0 := by
  have h1 : ((true && Nat.beq f 0) || false) = true := h
  have h2 : Nat.beq f 0 = true := by simpa using h1
  exact Nat.eq_of_beq_eq_true h2
theorem z_obj_41 {p c n : Nat} (h : z_obj p = some (c, n)) : Nat.beq p 41 = false := by
  refine z_beq_ne fun e => ?_
  subst e
  cases h
theorem z_ak_2 {p : Nat} (h : z_ak p = 2) : p = 17 := by
  unfold z_ak at h
  split at h <;> first | rfl | cases h
theorem z_ak_3 {p : Nat} (h : z_ak p = 3) : p = 10 := by
  unfold z_ak at h
  split at h <;> first | rfl | cases h
theorem z_ak_1 {p : Nat} (h : z_ak p = 1) : False := by
  unfold z_ak at h
  split at h <;> cases h
theorem z_en_any {ad : z_ad} {cs : Nat → ClassId} {M : Mem} {f p : Nat} (h : z_obj p = none) : ∃ (t0 : Nat) (cA : ClassId) (x : vp_A), z_en ad cs M f p = .inl (cA, x) ∧ (∃ ty, (z_tys cs)[t0]? = some (cA, ty)) ∧ x.1 = z_sz p := by
  unfold z_en
  rw [h]
  dsimp only
  split
  · exact ⟨0, _, _, rfl, ⟨_, rfl⟩, rfl⟩
  · rename_i hk; have e := z_ak_1 hk; exact e.elim
  · rename_i hk; have e := z_ak_2 hk; subst e; exact ⟨1, _, _, rfl, ⟨_, rfl⟩, rfl⟩
  · rename_i h0 h1 h2
    have e : p = 10 := by
      unfold z_ak at h0 h1 h2
      split at h0 <;> first | rfl | (exact absurd rfl h0) | (exact absurd rfl h1) | (exact absurd rfl h2) | (split at h1 <;> first | rfl | (exact absurd rfl h0) | (exact absurd rfl h1) | (exact absurd rfl h2))
    subst e
    exact ⟨2, _, _, rfl, ⟨_, rfl⟩, rfl⟩
theorem z_isB_fit {x : Int32} (h : z_isB x = true) : fits .boolean (.int x) = true := by
  unfold z_isB at h
  rcases Bool.or_eq_true_iff.mp h with e | e
  · rw [of_decide_eq_true e]; rfl
  · rw [of_decide_eq_true e]; rfl
/-- a field of the kind int is not final, and its type is int or boolean -/
theorem z_put_ok {M : Mem} {f p k c n : Nat} {y : Int32} (ho : z_obj p = some (c, n)) (hk : k < n) (hy : z_rd M f p k = .inl y) : (z_T c k).2.2.2 = false ∧ z_tyT c k = (bif z_fb p k then .boolean else .int) := by
  have hp : p = 0 ∨ p = 1 ∨ p = 16 ∨ p = 19 ∨ p = 23 := by
    unfold z_obj at ho
    split at ho <;> first | omega | cases ho
  rcases hp with rfl | rfl | rfl | rfl | rfl <;> cases ho
  · match k, hk with
    | 0, _ => cases hy
    | 1, _ => cases hy
    | 2, _ => cases hy
    | 3, _ => exact ⟨rfl, rfl⟩
    | 4, _ => exact ⟨rfl, rfl⟩
    | 5, _ => exact ⟨rfl, rfl⟩
    | 6, _ => exact ⟨rfl, rfl⟩
  · cases hy
  · match k, hk with
    | 0, _ => cases hy
    | 1, _ => cases hy
    | 2, _ => cases hy
    | 3, _ => exact ⟨rfl, rfl⟩
    | 4, _ => exact ⟨rfl, rfl⟩
    | 5, _ => cases hy
    | 6, _ => exact ⟨rfl, rfl⟩
    | 7, _ => cases hy
    | 8, _ => cases hy
  · match k, hk with
    | 0, _ => cases hy
    | 1, _ => cases hy
    | 2, _ => cases hy
    | 3, _ => exact ⟨rfl, rfl⟩
    | 4, _ => exact ⟨rfl, rfl⟩
  · match k, hk with
    | 0, _ => cases hy
    | 1, _ => exact ⟨rfl, rfl⟩
    | 2, _ => exact ⟨rfl, rfl⟩
    | 3, _ => exact ⟨rfl, rfl⟩
    | 4, _ => exact ⟨rfl, rfl⟩
theorem z_cpo_ok {sp dp n : Int32} {a b : Nat} (h : z_cpo sp dp n a b = true) : ¬ sp < 0 ∧ ¬ dp < 0 ∧ ¬ n < 0 ∧ sp.toNatClampNeg + n.toNatClampNeg ≤ a ∧ dp.toNatClampNeg + n.toNatClampNeg ≤ b := by
  unfold z_cpo at h
  obtain ⟨h, h5⟩ := Bool.and_eq_true_iff.mp h
  obtain ⟨h, h4⟩ := Bool.and_eq_true_iff.mp h
  obtain ⟨h, h3⟩ := Bool.and_eq_true_iff.mp h
  obtain ⟨h1, h2⟩ := Bool.and_eq_true_iff.mp h
  exact ⟨by simpa using h1, by simpa using h2, by simpa using h3, Nat.ble_eq.mp h4, Nat.ble_eq.mp h5⟩
theorem z_ri_lt {M : Mem} {f p k : Nat} (h : p < 32) : z_ri M f p k = M.1 f p k := by
  unfold z_ri
  rw [show Nat.blt p 32 = true from Nat.ble_eq.mpr h]
  rfl
theorem z_cpy_en {ad : z_ad} {cs : Nat → ClassId} {M : Mem} {f p f' p' sp dp n : Nat} (hv : z_val f' p' = true) (ho : z_obj p' = none) (ha : z_ak p' = 0) (h1 : p < 32) (h2 : p' < 32) :
    z_en ad cs (z_cpy M.1 f p f' p' sp dp n, M.2) f' p' = .inl (cs 0, z_sz p', .inl (va_cpy (fun k => z_ri M f p k) (fun k => z_ri M f' p' k) sp dp n)) := by
  unfold z_en
  rw [ho]
  dsimp only
  rw [ha]
  show (Sum.inl (cs 0, z_sz p', Sum.inl (fun j => z_ri (z_cpy M.1 f p f' p' sp dp n, M.2) f' p' j)) : va_E) = _
  refine congrArg (fun g => (Sum.inl (cs 0, z_sz p', Sum.inl g) : va_E)) (funext fun j => ?_)
  rw [z_ri_lt h2]
  show z_cpy M.1 f p f' p' sp dp n f' p' j = _
  unfold z_cpy
  rw [if_pos ⟨rfl, rfl⟩]
  unfold va_cpy
  simp only [z_ri_lt h1, z_ri_lt h2]
theorem z_cpy_ne {ad : z_ad} {cs : Nat → ClassId} {M : Mem} {f p f' p' sp dp n f9 p9 : Nat} (h : (f9, p9) ≠ (f', p')) : z_en ad cs M f9 p9 = z_en ad cs (z_cpy M.1 f p f' p' sp dp n, M.2) f9 p9 := by
  have e : z_cpy M.1 f p f' p' sp dp n f9 p9 = M.1 f9 p9 := by
    unfold z_cpy
    rw [if_neg (fun q => h (by rw [q.1, q.2]))]
  have e2 : ∀ k, z_ri (z_cpy M.1 f p f' p' sp dp n, M.2) f9 p9 k = z_ri M f9 p9 k := by
    intro k
    unfold z_ri
    dsimp only
    rw [e]
  refine z_en_ne e2 (fun k => ?_) rfl
  unfold z_rd
  rw [e2]
theorem z_arrV_congr {c : ClassId} {n : Nat} {f g : Nat → Value} (h : ∀ j, j < n → f j = g j) : arrV c n f = arrV c n g := by
  unfold arrV
  congr 1
  congr 1
  funext j
  exact h j.val j.isLt
/-- a cell of longs holds its first n alone -/
theorem z_P_len {D : va_G} {cl : List vw_C} {ws : va_W} {H : Heap} {q a n : Nat} {cA : ClassId} {f g : Nat → Int64} (h : va_P D cl (ws.set q (a, .inl (cA, n, .inr (.inl f)))) H) (hfg : ∀ k, k < n → f k = g k) : va_P D cl (ws.set q (a, .inl (cA, n, .inr (.inl g)))) H := by
  intro k r hr
  by_cases hk : q = k
  · subst hk
    rw [List.getElem?_set, if_pos rfl] at hr
    split at hr
    · rename_i hlt
      cases hr
      have h1 := h q (a, .inl (cA, n, .inr (.inl f))) (by rw [List.getElem?_set, if_pos rfl, if_pos hlt])
      show H[a]? = _
      have h2 : H[a]? = some (vp_cell cA (n, .inr (.inl f))) := h1
      rw [h2]
      exact congrArg some (z_arrV_congr (c := cA) (n := n) (f := fun j => .long (f j)) (g := fun j => .long (g j)) (fun j hj => by rw [hfg j hj]))
    · cases hr
  · refine h k r ?_
    rw [List.getElem?_set, if_neg hk] at hr ⊢
    exact hr

def z_rmB (m : Nat) (i : Instr) : Bool := match i with
  | .istore k => Nat.blt k (z_ml m)
  | .istore_n k => Nat.blt k.val (z_ml m)
  | .astore k => Nat.blt k (z_ml m)
  | .astore_n k => Nat.blt k.val (z_ml m)
  | .lstore k => Nat.blt (k + 1) (z_ml m)
  | .lstore_n k => Nat.blt (k.val + 1) (z_ml m)
  | .dstore k => Nat.blt (k + 1) (z_ml m)
  | .dstore_n k => Nat.blt (k.val + 1) (z_ml m)
  | .iinc k _ => Nat.blt k (z_ml m)
  | _ => true
def z_rmI (m pc : Nat) : Bool := match z_ins m pc with
  | none => true
  | some (i, _, _) => z_rmB m i
theorem z_rm_all : (List.range 58).all (fun m => (List.range (z_len m)).all (z_rmI m)) = true := by decide +kernel
theorem z_rm {m pc t : Nat} {i : Instr} {k : Int32} (h : z_ins m pc = some (i, t, k)) : z_rmB m i = true := by
  obtain ⟨h1, h2⟩ := z_ins_lt h
  have h3 := List.all_eq_true.mp (List.all_eq_true.mp z_rm_all m (List.mem_range.mpr h1)) pc (List.mem_range.mpr h2)
  unfold z_rmI at h3
  rw [h] at h3
  exact h3
theorem z_roomistore {m pc t : Nat} {k : Nat} {c : Int32} (h : z_ins m pc = some (.istore k, t, c)) : k < z_ml m := Nat.ble_eq.mp (z_rm h)
theorem z_roomistore_n {m pc t : Nat} {k : Fin 4} {c : Int32} (h : z_ins m pc = some (.istore_n k, t, c)) : k.val < z_ml m := Nat.ble_eq.mp (z_rm h)
theorem z_roomastore {m pc t : Nat} {k : Nat} {c : Int32} (h : z_ins m pc = some (.astore k, t, c)) : k < z_ml m := Nat.ble_eq.mp (z_rm h)
theorem z_roomastore_n {m pc t : Nat} {k : Fin 4} {c : Int32} (h : z_ins m pc = some (.astore_n k, t, c)) : k.val < z_ml m := Nat.ble_eq.mp (z_rm h)
theorem z_roomlstore {m pc t : Nat} {k : Nat} {c : Int32} (h : z_ins m pc = some (.lstore k, t, c)) : k + 1 < z_ml m := Nat.ble_eq.mp (z_rm h)
theorem z_roomlstore_n {m pc t : Nat} {k : Fin 4} {c : Int32} (h : z_ins m pc = some (.lstore_n k, t, c)) : k.val + 1 < z_ml m := Nat.ble_eq.mp (z_rm h)
theorem z_roomdstore {m pc t : Nat} {k : Nat} {c : Int32} (h : z_ins m pc = some (.dstore k, t, c)) : k + 1 < z_ml m := Nat.ble_eq.mp (z_rm h)
theorem z_roomdstore_n {m pc t : Nat} {k : Fin 4} {c : Int32} (h : z_ins m pc = some (.dstore_n k, t, c)) : k.val + 1 < z_ml m := Nat.ble_eq.mp (z_rm h)
theorem z_roomiinc {m pc t k : Nat} {n : Int} {c : Int32} (h : z_ins m pc = some (.iinc k n, t, c)) : k < z_ml m := Nat.ble_eq.mp (z_rm h)

section ZR
variable {p : Program} {l : Launch} {e : Env} {R : Room} {s : State} {m : MethodId} {args : Array Value} {below : List Frame} {meth : Method} {c : Code} {H : Heap} {locs : List Loc} {cells slots : Nat} {Q : State → Prop}
variable {cc : ByteArray} {pc : Nat} {ls : Array Slot} {rest : List Value} {D : va_G} {cl : List vw_C} {a : Nat} {cs : Nat → ClassId} {ws : va_W}
theorem z_aldr (hexec : p.tables.exec = Jvm.exec) (hb : c.code = cc) (hK : va_K D cl (z_tys cs) s) (hP : va_P D cl ws H) {q0 n : Nat} {f : Nat → Option Nat} (ha : ws[q0]? = some (a, .inl (cs 3, n, .inr (.inr (.inr (.inr f)))))) {i : Int32} (hin : vp_in i n) (hdg : decode cc pc = .ok (.aaload, 1))
    (kk : W p l e R s m args below meth c H locs cells slots Q (F0 m (pc + 1) ls (va_rf (f i.toNatClampNeg) :: rest))) : W p l e R s m args below meth c H locs cells slots Q (F0 m pc ls (.int i :: .ref a :: rest)) := by
  have hlt : i.toNatClampNeg < n := Nat.not_le.mp fun q => hin (Or.inr q)
  have ht : (z_tys cs)[2]? = some (cs 3, .array .int) := rfl
  exact W.aald (v := va_rf (f i.toNatClampNeg)) (ty := .array .int) hexec hb (hP q0 _ ha) ((hK.2 2 _ ht).1 n (fun j => va_rf (f j))) rfl (fun q => by cases q) (by show ¬ (i < 0 ∨ (arrV _ _ _).slots.size ≤ _); rw [arrV_size]; exact hin) (by show (arrV _ _ _).slots[_]? = _; rw [arrV_read _ _ hlt]) rfl rfl hdg kk
end ZR
section ZS
variable {p : Program} {l : Launch} {e : Env} {R : Room} {s : State} {mi : MethodId} {args : Array Value} {below : List Frame} {meth : Method} {c : Code} {cells slots : Nat} {Q : State → Prop}
variable {D : va_G} {ad : z_ad} {cs : Nat → ClassId} {A : Nat → Prop} {b L : Nat} {xs : Nat → Int32} {sa : Nat → Nat} {H0 : Heap}
/-- what stands while a method m walks -/
def z_On (p : Program) (R : Room) (s : State) (mi : MethodId) (args : Array Value) (c : Code) (cells slots : Nat) (D : va_G) (ad : z_ad) (cs : Nat → ClassId) (A : Nat → Prop) (b L : Nat) (xs : Nat → Int32) (sa : Nat → Nat) (m : Nat) : Prop :=
  p.tables.exec = Jvm.exec ∧ c.code = z_b m ∧ c.maxLocals = z_ml m ∧ s.vm.findClass (z_on (z_own m)) = some mi.cls ∧ (∀ w ∈ z_good, w.before args s = true) ∧ z_cx D cs A b L xs sa s ∧ z_AD A ad ∧ ad 0 41 = b ∧
  z_FR m ≤ R.frames ∧ z_LR m ≤ R.locals ∧ cells ≤ R.cells ∧ slots ≤ R.slots
/-- the world at a point of the walk -/
def z_Pt (D : va_G) (ad : z_ad) (cs : Nat → ClassId) (A : Nat → Prop) (H0 : Heap) (m : Nat) (LS : Array Slot) (ls : Lc) (st : List AV) (M : Mem) (H : Heap) (locs : List Loc) : Prop :=
  lv_has LS (z_ml m) (z_asc ad 0 ls) ∧ z_okL ls = true ∧ z_okS st = true ∧ va_P D vwCl (z_W ad cs M) H ∧ va_S A H0 H locs
theorem z_st1_snd {m : Nat} {i : Instr} {t : Nat} {k0 : Int32} {pc : Nat} {ls : Lc} {st : List AV} {M : Mem} {c' : Cf} {O : List Prop} 
    (C : z_On p R s mi args c cells slots D ad cs A b L xs sa m) (hH0 : H0 = s.heap) (hi : z_ins m pc = some (i, t, k0))
    (h : z_st1 xs L (z_own m) i t k0 pc ls st M = some (c', O)) (hA : z_all O)
    (kk : ∀ (H' : Heap) (locs' : List Loc) (LS' : Array Slot), z_Pt D ad cs A H0 m LS' c'.2.1 c'.2.2.1 c'.2.2.2 H' locs' → W p l e R s mi args below meth c H' locs' cells slots Q (F0 mi c'.1 LS' (c'.2.2.1.map (cv ad))))
    {H : Heap} {locs : List Loc} {LS : Array Slot} (hp : z_Pt D ad cs A H0 m LS ls st M H locs) :
    W p l e R s mi args below meth c H locs cells slots Q (F0 mi pc LS (st.map (cv ad))) := by
  obtain ⟨hx, hb, hml, hown, hts, hcx, hAD, hab, hfr, hlo, hce, hsl⟩ := C
  obtain ⟨hl, hol, hos, hP, hS⟩ := hp
  obtain ⟨⟨n9, hd, hn9⟩, hcc, hlk⟩ := z_ins_ck hi
  have hK := hcx.1
  have hD := z_W_D (cs := cs) (M := M) hAD
  cases i with
  | aload k =>
    have hd := (show decode (z_b m) pc = .ok (_, _) from hd)
    rcases hn9 with h9 | h9
    · cases h9
    subst h9
    dsimp only [z_st1] at h
    split at h
    · rename_i r hg
      cases h
      exact lv_aload hx hb hd (z_at hl hg) (kk H locs LS ⟨hl, hol, z_okS_mk (z_okL_get hol hg) hos, hP, hS⟩)
    · cases h
  | aload_n k =>
    have hd := (show decode (z_b m) pc = .ok (_, _) from hd)
    rcases hn9 with h9 | h9
    · cases h9
    subst h9
    dsimp only [z_st1] at h
    split at h
    · rename_i r hg
      cases h
      exact lv_aload_n hx hb hd rfl (z_at hl hg) (kk H locs LS ⟨hl, hol, z_okS_mk (z_okL_get hol hg) hos, hP, hS⟩)
    · cases h
  | iload k =>
    have hd := (show decode (z_b m) pc = .ok (_, _) from hd)
    rcases hn9 with h9 | h9
    · cases h9
    subst h9
    dsimp only [z_st1] at h
    split at h
    · rename_i r hg
      cases h
      exact lv_iload hx hb hd (z_at hl hg) (kk H locs LS ⟨hl, hol, hos, hP, hS⟩)
    · cases h
  | iload_n k =>
    have hd := (show decode (z_b m) pc = .ok (_, _) from hd)
    rcases hn9 with h9 | h9
    · cases h9
    subst h9
    dsimp only [z_st1] at h
    split at h
    · rename_i r hg
      cases h
      exact lv_iload_n hx hb hd rfl (z_at hl hg) (kk H locs LS ⟨hl, hol, hos, hP, hS⟩)
    · cases h
  | lload k =>
    have hd := (show decode (z_b m) pc = .ok (_, _) from hd)
    rcases hn9 with h9 | h9
    · cases h9
    subst h9
    dsimp only [z_st1] at h
    split at h
    · rename_i r hg
      cases h
      exact lv_lload hx hb hd (z_at hl hg) (kk H locs LS ⟨hl, hol, hos, hP, hS⟩)
    · cases h
  | lload_n k =>
    have hd := (show decode (z_b m) pc = .ok (_, _) from hd)
    rcases hn9 with h9 | h9
    · cases h9
    subst h9
    dsimp only [z_st1] at h
    split at h
    · rename_i r hg
      cases h
      exact lv_lload_n hx hb hd rfl (z_at hl hg) (kk H locs LS ⟨hl, hol, hos, hP, hS⟩)
    · cases h
  | dload k =>
    have hd := (show decode (z_b m) pc = .ok (_, _) from hd)
    rcases hn9 with h9 | h9
    · cases h9
    subst h9
    dsimp only [z_st1] at h
    split at h
    · rename_i r hg
      cases h
      exact lv_dload hx hb hd (z_at hl hg) (kk H locs LS ⟨hl, hol, hos, hP, hS⟩)
    · cases h
  | dload_n k =>
    have hd := (show decode (z_b m) pc = .ok (_, _) from hd)
    rcases hn9 with h9 | h9
    · cases h9
    subst h9
    dsimp only [z_st1] at h
    split at h
    · rename_i r hg
      cases h
      exact lv_dload_n hx hb hd rfl (z_at hl hg) (kk H locs LS ⟨hl, hol, hos, hP, hS⟩)
    · cases h
  | istore k =>
    have hd := (show decode (z_b m) pc = .ok (_, _) from hd)
    rcases hn9 with h9 | h9
    · cases h9
    subst h9
    dsimp only [z_st1] at h
    split at h
    · rename_i x r
      cases h
      exact lv_istore hx hb hd hl (z_roomistore hi) rfl (fun LS' hl' => kk H locs LS' ⟨z_store1 (v := .inl x) hl', z_okL_1 hol (rfl), z_okS_tl hos, hP, hS⟩)
    · cases h
  | istore_n k =>
    have hd := (show decode (z_b m) pc = .ok (_, _) from hd)
    rcases hn9 with h9 | h9
    · cases h9
    subst h9
    dsimp only [z_st1] at h
    split at h
    · rename_i x r
      cases h
      exact lv_istore_n hx hb hd rfl hl (z_roomistore_n hi) rfl (fun LS' hl' => kk H locs LS' ⟨z_store1 (v := .inl x) hl', z_okL_1 hol (rfl), z_okS_tl hos, hP, hS⟩)
    · cases h
  | astore k =>
    have hd := (show decode (z_b m) pc = .ok (_, _) from hd)
    rcases hn9 with h9 | h9
    · cases h9
    subst h9
    dsimp only [z_st1] at h
    split at h
    · rename_i x r
      cases h
      exact lv_astore hx hb hd hl (z_roomastore hi) rfl (fun LS' hl' => kk H locs LS' ⟨z_store1 (v := .inr (.inr (.inr x))) hl', z_okL_1 hol (z_okS_hd hos), z_okS_tl hos, hP, hS⟩)
    · cases h
  | astore_n k =>
    have hd := (show decode (z_b m) pc = .ok (_, _) from hd)
    rcases hn9 with h9 | h9
    · cases h9
    subst h9
    dsimp only [z_st1] at h
    split at h
    · rename_i x r
      cases h
      exact lv_astore_n hx hb hd rfl hl (z_roomastore_n hi) rfl (fun LS' hl' => kk H locs LS' ⟨z_store1 (v := .inr (.inr (.inr x))) hl', z_okL_1 hol (z_okS_hd hos), z_okS_tl hos, hP, hS⟩)
    · cases h
  | lstore k =>
    have hd := (show decode (z_b m) pc = .ok (_, _) from hd)
    rcases hn9 with h9 | h9
    · cases h9
    subst h9
    dsimp only [z_st1] at h
    split at h
    · rename_i x r
      cases h
      exact lv_lstore hx hb hd hl (z_roomlstore hi) rfl (fun LS' hl' => kk H locs LS' ⟨z_store2 (v := .inr (.inl x)) hl', z_okL_2 hol (rfl), z_okS_tl hos, hP, hS⟩)
    · cases h
  | lstore_n k =>
    have hd := (show decode (z_b m) pc = .ok (_, _) from hd)
    rcases hn9 with h9 | h9
    · cases h9
    subst h9
    dsimp only [z_st1] at h
    split at h
    · rename_i x r
      cases h
      exact lv_lstore_n hx hb hd rfl hl (z_roomlstore_n hi) rfl (fun LS' hl' => kk H locs LS' ⟨z_store2 (v := .inr (.inl x)) hl', z_okL_2 hol (rfl), z_okS_tl hos, hP, hS⟩)
    · cases h
  | dstore k =>
    have hd := (show decode (z_b m) pc = .ok (_, _) from hd)
    rcases hn9 with h9 | h9
    · cases h9
    subst h9
    dsimp only [z_st1] at h
    split at h
    · rename_i x r
      cases h
      exact lv_dstore hx hb hd hl (z_roomdstore hi) rfl (fun LS' hl' => kk H locs LS' ⟨z_store2 (v := .inr (.inr (.inl x))) hl', z_okL_2 hol (rfl), z_okS_tl hos, hP, hS⟩)
    · cases h
  | dstore_n k =>
    have hd := (show decode (z_b m) pc = .ok (_, _) from hd)
    rcases hn9 with h9 | h9
    · cases h9
    subst h9
    dsimp only [z_st1] at h
    split at h
    · rename_i x r
      cases h
      exact lv_dstore_n hx hb hd rfl hl (z_roomdstore_n hi) rfl (fun LS' hl' => kk H locs LS' ⟨z_store2 (v := .inr (.inr (.inl x))) hl', z_okL_2 hol (rfl), z_okS_tl hos, hP, hS⟩)
    · cases h
  | iconst k =>
    have hd := (show decode (z_b m) pc = .ok (_, _) from hd)
    rcases hn9 with h9 | h9
    · cases h9
    subst h9
    dsimp only [z_st1] at h
    cases h
    exact lv_iconst hx hb hd (of_decide_eq_true hcc) (kk H locs LS ⟨hl, hol, hos, hP, hS⟩)
  | bipush k =>
    have hd := (show decode (z_b m) pc = .ok (_, _) from hd)
    rcases hn9 with h9 | h9
    · cases h9
    subst h9
    dsimp only [z_st1] at h
    cases h
    exact lv_bipush hx hb hd (of_decide_eq_true hcc) (kk H locs LS ⟨hl, hol, hos, hP, hS⟩)
  | sipush k =>
    have hd := (show decode (z_b m) pc = .ok (_, _) from hd)
    rcases hn9 with h9 | h9
    · cases h9
    subst h9
    dsimp only [z_st1] at h
    cases h
    exact lv_sipush hx hb hd (of_decide_eq_true hcc) (kk H locs LS ⟨hl, hol, hos, hP, hS⟩)
  | ldc_w k =>
    have hd := (show decode (z_b m) pc = .ok (_, _) from hd)
    rcases hn9 with h9 | h9
    · cases h9
    subst h9
    dsimp only [z_st1] at h
    split at h
    · rename_i v w hg
      cases h
      have hk := hlk
      unfold z_lnk at hk
      dsimp only at hk
      rw [hg] at hk
      exact lv_ldcw hx hb hown (hts _ (z_good_in (z_isW_in hk) rfl)) hd (kk H locs LS ⟨hl, hol, hos, hP, hS⟩)
    · cases h
  | ldc k =>
    have hd := (show decode (z_b m) pc = .ok (_, _) from hd)
    rcases hn9 with h9 | h9
    · cases h9
    subst h9
    dsimp only [z_st1] at h
    split at h
    · rename_i v w hg
      cases h
      have hk := hlk
      unfold z_lnk at hk
      dsimp only at hk
      rw [hg] at hk
      exact lv_ldc hx hb hown (hts _ (z_good_in (z_isW_in hk) rfl)) hd (kk H locs LS ⟨hl, hol, hos, hP, hS⟩)
    · cases h
  | ldc2_w k =>
    have hd := (show decode (z_b m) pc = .ok (_, _) from hd)
    rcases hn9 with h9 | h9
    · cases h9
    subst h9
    dsimp only [z_st1] at h
    have hk := hlk
    unfold z_lnk at hk
    dsimp only at hk
    obtain ⟨hk1, hk2⟩ := Bool.and_eq_true_iff.mp hk
    split at h
    · rename_i v w hg
      cases h
      rw [hg] at hk1
      exact lv_ldc2 hx hb hown (hts _ (z_good_in (z_isW_in hk1) rfl)) hd (kk H locs LS ⟨hl, hol, hos, hP, hS⟩)
    · split at h
      · rename_i v w hg
        cases h
        rw [hg] at hk2
        exact lv_ldc2d hx hb hown (hts _ (z_good_in (z_isW_in hk2) rfl)) hd (kk H locs LS ⟨hl, hol, hos, hP, hS⟩)
      · cases h
  | lconst k =>
    have hd := (show decode (z_b m) pc = .ok (_, _) from hd)
    rcases hn9 with h9 | h9
    · cases h9
    subst h9
    dsimp only [z_st1] at h
    cases h
    exact lv_lconst hx hb hd rfl (kk H locs LS ⟨hl, hol, hos, hP, hS⟩)
  | dconst k =>
    have hd := (show decode (z_b m) pc = .ok (_, _) from hd)
    rcases hn9 with h9 | h9
    · cases h9
    subst h9
    dsimp only [z_st1] at h
    match k, hd, h with
    | ⟨0, _⟩, hd, h =>
      cases h
      exact lv_dconst0 hx hb hd (kk H locs LS ⟨hl, hol, hos, hP, hS⟩)
    | ⟨1, _⟩, hd, h =>
      cases h
      exact lv_dconst1 hx hb hd (kk H locs LS ⟨hl, hol, hos, hP, hS⟩)
  | iinc k n =>
    have hd := (show decode (z_b m) pc = .ok (_, _) from hd)
    rcases hn9 with h9 | h9
    · cases h9
    subst h9
    dsimp only [z_st1] at h
    split at h
    · rename_i x hg
      cases h
      obtain ⟨j, hj⟩ := List.getElem?_of_mem ((z_asc_in (ad := ad) ls 0 (k, .int x)).mpr ⟨k, .inl x, hg, by rw [Nat.zero_add]; rfl⟩)
      exact lv_iinc hx hb hd hl hj (by rw [of_decide_eq_true hcc]) (z_roomiinc hi) rfl (fun LS' hl' => kk H locs LS' ⟨z_store1 (v := .inl (x + k0)) hl', z_okL_1 hol rfl, hos, hP, hS⟩)
    · cases h
  | goto off =>
    have hd := (show decode (z_b m) pc = .ok (_, _) from hd)
    rcases hn9 with h9 | h9
    · cases h9
    subst h9
    dsimp only [z_st1] at h
    cases h
    exact lv_goto hx hb hd (of_decide_eq_true hcc) (kk H locs LS ⟨hl, hol, hos, hP, hS⟩)
  | ifCond cd off =>
    have hd := (show decode (z_b m) pc = .ok (_, _) from hd)
    rcases hn9 with h9 | h9
    · cases h9
    subst h9
    dsimp only [z_st1] at h
    split at h
    · rename_i x r
      cases h
      have hos' := z_okS_tl hos
      cases cd with
      | eq => exact lv_if_eq hx hb hd (of_decide_eq_true hcc) (fun q => by have kk := kk H locs LS ⟨hl, hol, hos', hP, hS⟩; rw [show z_j1 .eq x t (pc + 3) = t from if_pos q] at kk; exact kk) (fun q => by have kk := kk H locs LS ⟨hl, hol, hos', hP, hS⟩; rw [show z_j1 .eq x t (pc + 3) = pc + 3 from if_neg q] at kk; exact kk)
      | ne => exact lv_if_ne hx hb hd (of_decide_eq_true hcc) (fun q => by have kk := kk H locs LS ⟨hl, hol, hos', hP, hS⟩; rw [show z_j1 .ne x t (pc + 3) = t from if_neg q] at kk; exact kk) (fun q => by have kk := kk H locs LS ⟨hl, hol, hos', hP, hS⟩; rw [show z_j1 .ne x t (pc + 3) = pc + 3 from if_pos q] at kk; exact kk)
      | lt => exact lv_if_lt hx hb hd (of_decide_eq_true hcc) (fun q => by have kk := kk H locs LS ⟨hl, hol, hos', hP, hS⟩; rw [show z_j1 .lt x t (pc + 3) = t from if_pos q] at kk; exact kk) (fun q => by have kk := kk H locs LS ⟨hl, hol, hos', hP, hS⟩; rw [show z_j1 .lt x t (pc + 3) = pc + 3 from if_neg q] at kk; exact kk)
      | ge => exact lv_if_ge hx hb hd (of_decide_eq_true hcc) (fun q => by have kk := kk H locs LS ⟨hl, hol, hos', hP, hS⟩; rw [show z_j1 .ge x t (pc + 3) = t from if_pos q] at kk; exact kk) (fun q => by have kk := kk H locs LS ⟨hl, hol, hos', hP, hS⟩; rw [show z_j1 .ge x t (pc + 3) = pc + 3 from if_neg q] at kk; exact kk)
      | gt => exact lv_if_gt hx hb hd (of_decide_eq_true hcc) (fun q => by have kk := kk H locs LS ⟨hl, hol, hos', hP, hS⟩; rw [show z_j1 .gt x t (pc + 3) = t from if_pos q] at kk; exact kk) (fun q => by have kk := kk H locs LS ⟨hl, hol, hos', hP, hS⟩; rw [show z_j1 .gt x t (pc + 3) = pc + 3 from if_neg q] at kk; exact kk)
      | le => exact lv_if_le hx hb hd (of_decide_eq_true hcc) (fun q => by have kk := kk H locs LS ⟨hl, hol, hos', hP, hS⟩; rw [show z_j1 .le x t (pc + 3) = t from if_pos q] at kk; exact kk) (fun q => by have kk := kk H locs LS ⟨hl, hol, hos', hP, hS⟩; rw [show z_j1 .le x t (pc + 3) = pc + 3 from if_neg q] at kk; exact kk)
    · cases h
  | if_icmp cd off =>
    have hd := (show decode (z_b m) pc = .ok (_, _) from hd)
    rcases hn9 with h9 | h9
    · cases h9
    subst h9
    dsimp only [z_st1] at h
    split at h
    · rename_i y x r
      cases h
      have hos' := z_okS_tl (z_okS_tl hos)
      cases cd with
      | eq => exact lv_icmp_eq hx hb hd (of_decide_eq_true hcc) (fun q => by have kk := kk H locs LS ⟨hl, hol, hos', hP, hS⟩; rw [show z_j2 .eq x y t (pc + 3) = t from if_pos q] at kk; exact kk) (fun q => by have kk := kk H locs LS ⟨hl, hol, hos', hP, hS⟩; rw [show z_j2 .eq x y t (pc + 3) = pc + 3 from if_neg q] at kk; exact kk)
      | ne => exact lv_icmp_ne hx hb hd (of_decide_eq_true hcc) (fun q => by have kk := kk H locs LS ⟨hl, hol, hos', hP, hS⟩; rw [show z_j2 .ne x y t (pc + 3) = t from if_neg q] at kk; exact kk) (fun q => by have kk := kk H locs LS ⟨hl, hol, hos', hP, hS⟩; rw [show z_j2 .ne x y t (pc + 3) = pc + 3 from if_pos q] at kk; exact kk)
      | lt => exact lv_icmp_lt hx hb hd (of_decide_eq_true hcc) (fun q => by have kk := kk H locs LS ⟨hl, hol, hos', hP, hS⟩; rw [show z_j2 .lt x y t (pc + 3) = t from if_pos q] at kk; exact kk) (fun q => by have kk := kk H locs LS ⟨hl, hol, hos', hP, hS⟩; rw [show z_j2 .lt x y t (pc + 3) = pc + 3 from if_neg q] at kk; exact kk)
      | ge => exact lv_icmp_ge hx hb hd (of_decide_eq_true hcc) (fun q => by have kk := kk H locs LS ⟨hl, hol, hos', hP, hS⟩; rw [show z_j2 .ge x y t (pc + 3) = t from if_pos q] at kk; exact kk) (fun q => by have kk := kk H locs LS ⟨hl, hol, hos', hP, hS⟩; rw [show z_j2 .ge x y t (pc + 3) = pc + 3 from if_neg q] at kk; exact kk)
      | gt => exact lv_icmp_gt hx hb hd (of_decide_eq_true hcc) (fun q => by have kk := kk H locs LS ⟨hl, hol, hos', hP, hS⟩; rw [show z_j2 .gt x y t (pc + 3) = t from if_pos q] at kk; exact kk) (fun q => by have kk := kk H locs LS ⟨hl, hol, hos', hP, hS⟩; rw [show z_j2 .gt x y t (pc + 3) = pc + 3 from if_neg q] at kk; exact kk)
      | le => exact lv_icmp_le hx hb hd (of_decide_eq_true hcc) (fun q => by have kk := kk H locs LS ⟨hl, hol, hos', hP, hS⟩; rw [show z_j2 .le x y t (pc + 3) = t from if_pos q] at kk; exact kk) (fun q => by have kk := kk H locs LS ⟨hl, hol, hos', hP, hS⟩; rw [show z_j2 .le x y t (pc + 3) = pc + 3 from if_neg q] at kk; exact kk)
    · cases h
  | tableswitch d lo1 hi1 offs =>
    dsimp only [z_st1] at h
    split at h
    · rename_i x r
      split at h
      · rename_i q hq
        cases h
        unfold z_tab at hq
        cases hc : (decide (x.toInt < lo1) || decide (hi1 < x.toInt))
        · rw [hc] at hq
          dsimp only [cond] at hq
          obtain ⟨g1, g2⟩ := Bool.or_eq_false_iff.mp hc
          split at hq
          · rename_i o ho
            have ht := z_ti_eq hq
            exact lv_tableIn hx hb hd (of_decide_eq_false g1) (of_decide_eq_false g2) ho ht (kk H locs LS ⟨hl, hol, z_okS_tl hos, hP, hS⟩)
          · cases hq
        · rw [hc] at hq
          dsimp only [cond] at hq
          have ht := z_ti_eq hq
          exact lv_tableOut hx hb hd (by rcases Bool.or_eq_true_iff.mp hc with g | g
                                         · exact Or.inl (of_decide_eq_true g)
                                         · exact Or.inr (of_decide_eq_true g)) ht (kk H locs LS ⟨hl, hol, z_okS_tl hos, hP, hS⟩)
      · cases h
    · cases h
  | lookupswitch d ps =>
    dsimp only [z_st1] at h
    split at h
    · rename_i x r
      split at h
      · rename_i q hq
        cases h
        unfold z_lkp at hq
        cases hc : ((ps.toList.zip (ps.toList.drop 1)).all (fun (a, next) => a.1 < next.1))
        · rw [hc] at hq
          cases hq
        · rw [hc] at hq
          exact lv_lookup hx hb hd hc rfl (z_ti_eq hq) (kk H locs LS ⟨hl, hol, z_okS_tl hos, hP, hS⟩)
      · cases h
    · cases h
  | iadd =>
    have hd := (show decode (z_b m) pc = .ok (_, _) from hd)
    rcases hn9 with h9 | h9
    · cases h9
    subst h9
    dsimp only [z_st1] at h
    split at h
    · cases h
      exact lv_iadd hx hb hd (kk H locs LS ⟨hl, hol, hos, hP, hS⟩)
    · cases h
  | isub =>
    have hd := (show decode (z_b m) pc = .ok (_, _) from hd)
    rcases hn9 with h9 | h9
    · cases h9
    subst h9
    dsimp only [z_st1] at h
    split at h
    · cases h
      exact lv_isub hx hb hd (kk H locs LS ⟨hl, hol, hos, hP, hS⟩)
    · cases h
  | imul =>
    have hd := (show decode (z_b m) pc = .ok (_, _) from hd)
    rcases hn9 with h9 | h9
    · cases h9
    subst h9
    dsimp only [z_st1] at h
    split at h
    · cases h
      exact lv_imul hx hb hd (kk H locs LS ⟨hl, hol, hos, hP, hS⟩)
    · cases h
  | iand =>
    have hd := (show decode (z_b m) pc = .ok (_, _) from hd)
    rcases hn9 with h9 | h9
    · cases h9
    subst h9
    dsimp only [z_st1] at h
    split at h
    · cases h
      exact lv_iand hx hb hd (kk H locs LS ⟨hl, hol, hos, hP, hS⟩)
    · cases h
  | ior =>
    have hd := (show decode (z_b m) pc = .ok (_, _) from hd)
    rcases hn9 with h9 | h9
    · cases h9
    subst h9
    dsimp only [z_st1] at h
    split at h
    · cases h
      exact lv_ior hx hb hd (kk H locs LS ⟨hl, hol, hos, hP, hS⟩)
    · cases h
  | ixor =>
    have hd := (show decode (z_b m) pc = .ok (_, _) from hd)
    rcases hn9 with h9 | h9
    · cases h9
    subst h9
    dsimp only [z_st1] at h
    split at h
    · cases h
      exact lv_ixor hx hb hd (kk H locs LS ⟨hl, hol, hos, hP, hS⟩)
    · cases h
  | ishl =>
    have hd := (show decode (z_b m) pc = .ok (_, _) from hd)
    rcases hn9 with h9 | h9
    · cases h9
    subst h9
    dsimp only [z_st1] at h
    split at h
    · cases h
      exact lv_ishl hx hb hd (kk H locs LS ⟨hl, hol, hos, hP, hS⟩)
    · cases h
  | ishr =>
    have hd := (show decode (z_b m) pc = .ok (_, _) from hd)
    rcases hn9 with h9 | h9
    · cases h9
    subst h9
    dsimp only [z_st1] at h
    split at h
    · cases h
      exact lv_ishr hx hb hd (kk H locs LS ⟨hl, hol, hos, hP, hS⟩)
    · cases h
  | idiv =>
    have hd := (show decode (z_b m) pc = .ok (_, _) from hd)
    rcases hn9 with h9 | h9
    · cases h9
    subst h9
    dsimp only [z_st1] at h
    split at h
    · cases h
      exact lv_idiv hx hb hd hA.1 (kk H locs LS ⟨hl, hol, hos, hP, hS⟩)
    · cases h
  | irem =>
    have hd := (show decode (z_b m) pc = .ok (_, _) from hd)
    rcases hn9 with h9 | h9
    · cases h9
    subst h9
    dsimp only [z_st1] at h
    split at h
    · cases h
      exact lv_irem hx hb hd hA.1 (kk H locs LS ⟨hl, hol, hos, hP, hS⟩)
    · cases h
  | ineg =>
    have hd := (show decode (z_b m) pc = .ok (_, _) from hd)
    rcases hn9 with h9 | h9
    · cases h9
    subst h9
    dsimp only [z_st1] at h
    split at h
    · cases h
      exact lv_ineg hx hb hd (kk H locs LS ⟨hl, hol, hos, hP, hS⟩)
    · cases h
  | iushr =>
    have hd := (show decode (z_b m) pc = .ok (_, _) from hd)
    rcases hn9 with h9 | h9
    · cases h9
    subst h9
    dsimp only [z_st1] at h
    split at h
    · cases h
      exact lv_iushr hx hb hd rfl (kk H locs LS ⟨hl, hol, hos, hP, hS⟩)
    · cases h
  | i2l =>
    have hd := (show decode (z_b m) pc = .ok (_, _) from hd)
    rcases hn9 with h9 | h9
    · cases h9
    subst h9
    dsimp only [z_st1] at h
    split at h
    · cases h
      exact lv_i2l hx hb hd rfl (kk H locs LS ⟨hl, hol, hos, hP, hS⟩)
    · cases h
  | lshl =>
    have hd := (show decode (z_b m) pc = .ok (_, _) from hd)
    rcases hn9 with h9 | h9
    · cases h9
    subst h9
    dsimp only [z_st1] at h
    split at h
    · cases h
      exact lv_lshl hx hb hd rfl (kk H locs LS ⟨hl, hol, hos, hP, hS⟩)
    · cases h
  | i2d =>
    have hd := (show decode (z_b m) pc = .ok (_, _) from hd)
    rcases hn9 with h9 | h9
    · cases h9
    subst h9
    dsimp only [z_st1] at h
    split at h
    · cases h
      exact lv_i2d hx hb hd (kk H locs LS ⟨hl, hol, hos, hP, hS⟩)
    · cases h
  | d2l =>
    have hd := (show decode (z_b m) pc = .ok (_, _) from hd)
    rcases hn9 with h9 | h9
    · cases h9
    subst h9
    dsimp only [z_st1] at h
    split at h
    · cases h
      exact lv_d2l hx hb hd (kk H locs LS ⟨hl, hol, hos, hP, hS⟩)
    · cases h
  | ladd =>
    have hd := (show decode (z_b m) pc = .ok (_, _) from hd)
    rcases hn9 with h9 | h9
    · cases h9
    subst h9
    dsimp only [z_st1] at h
    split at h
    · cases h
      exact lv_ladd hx hb hd (kk H locs LS ⟨hl, hol, hos, hP, hS⟩)
    · cases h
  | lsub =>
    have hd := (show decode (z_b m) pc = .ok (_, _) from hd)
    rcases hn9 with h9 | h9
    · cases h9
    subst h9
    dsimp only [z_st1] at h
    split at h
    · cases h
      exact lv_lsub hx hb hd (kk H locs LS ⟨hl, hol, hos, hP, hS⟩)
    · cases h
  | lmul =>
    have hd := (show decode (z_b m) pc = .ok (_, _) from hd)
    rcases hn9 with h9 | h9
    · cases h9
    subst h9
    dsimp only [z_st1] at h
    split at h
    · cases h
      exact lv_lmul hx hb hd (kk H locs LS ⟨hl, hol, hos, hP, hS⟩)
    · cases h
  | dcmp cd =>
    have hd := (show decode (z_b m) pc = .ok (_, _) from hd)
    rcases hn9 with h9 | h9
    · cases h9
    subst h9
    dsimp only [z_st1] at h
    split at h
    · cases h
      exact lv_dcmp hx hb hd (kk H locs LS ⟨hl, hol, hos, hP, hS⟩)
    · cases h
  | lcmp =>
    have hd := (show decode (z_b m) pc = .ok (_, _) from hd)
    rcases hn9 with h9 | h9
    · cases h9
    subst h9
    dsimp only [z_st1] at h
    split at h
    · cases h
      exact W.lcmp hx hb hd (kk H locs LS ⟨hl, hol, hos, hP, hS⟩)
    · cases h
  | dmul =>
    have hd := (show decode (z_b m) pc = .ok (_, _) from hd)
    rcases hn9 with h9 | h9
    · cases h9
    subst h9
    dsimp only [z_st1] at h
    split at h
    · cases h
      exact lv_dmul hx hb hd hA.1 (kk H locs LS ⟨hl, hol, hos, hP, hS⟩)
    · cases h
  | dsub =>
    have hd := (show decode (z_b m) pc = .ok (_, _) from hd)
    rcases hn9 with h9 | h9
    · cases h9
    subst h9
    dsimp only [z_st1] at h
    split at h
    · cases h
      exact lv_dsub hx hb hd hA.1 (kk H locs LS ⟨hl, hol, hos, hP, hS⟩)
    · cases h
  | ddiv =>
    have hd := (show decode (z_b m) pc = .ok (_, _) from hd)
    rcases hn9 with h9 | h9
    · cases h9
    subst h9
    dsimp only [z_st1] at h
    split at h
    · cases h
      exact lv_ddiv hx hb hd hA.1 (kk H locs LS ⟨hl, hol, hos, hP, hS⟩)
    · cases h
  | dup =>
    have hd := (show decode (z_b m) pc = .ok (_, _) from hd)
    rcases hn9 with h9 | h9
    · cases h9
    subst h9
    dsimp only [z_st1] at h
    split at h
    · rename_i a r
      cases hc : z_cat2 a
      · rw [hc] at h
        cases h
        exact lv_dup hx hb hd (by rw [cv_cat, hc]; rfl) (kk H locs LS ⟨hl, hol, z_okS_mk (z_okS_hd hos) hos, hP, hS⟩)
      · rw [hc] at h; cases h
    · cases h
  | dup2 =>
    have hd := (show decode (z_b m) pc = .ok (_, _) from hd)
    rcases hn9 with h9 | h9
    · cases h9
    subst h9
    dsimp only [z_st1] at h
    split at h
    · rename_i u v r
      cases hc : (z_cat2 u || z_cat2 v)
      · rw [hc] at h
        cases h
        obtain ⟨g1, g2⟩ := Bool.or_eq_false_iff.mp hc
        exact lv_dup2_11 hx hb hd (by rw [cv_cat, g1]; rfl) (by rw [cv_cat, g2]; rfl) (kk H locs LS ⟨hl, hol, z_okS_mk (z_okS_hd hos) (z_okS_mk (z_okS_hd (z_okS_tl hos)) hos), hP, hS⟩)
      · rw [hc] at h; cases h
    · cases h
  | arraylength =>
    have hd := (show decode (z_b m) pc = .ok (_, _) from hd)
    rcases hn9 with h9 | h9
    · cases h9
    subst h9
    dsimp only [z_st1] at h
    split at h
    · rename_i f q r
      split at h
      · rename_i hob
        cases h
        cases hq : Nat.beq q 41
        · rw [hq] at kk
          have hv := z_okv_val (z_okS_hd hos) hq
          obtain ⟨t0, cA, vA, ha, ht0, hsz⟩ := z_en_any (ad := ad) (cs := cs) (M := M) (f := f) hob
          obtain ⟨ty, ht0⟩ := ht0
          have hg := z_W_get (ad := ad) (cs := cs) (M := M) hv
          rw [ha] at hg
          have kk2 := kk H locs LS ⟨hl, hol, z_okS_tl hos, hP, hS⟩
          exact va_alen (v := Int32.ofNat (z_sz q)) hx hb hK hP _ t0 hg ht0 (by rw [hsz]) hd kk2
        · have e1 := Nat.eq_of_beq_eq_true hq
          subst e1
          have e2 := z_okv_41 (z_okS_hd hos)
          subst e2
          obtain ⟨-, -, -, -, -, -, -, -, -, hX, hbl, hbA⟩ := hcx
          rw [← hab] at hX hbl hbA
          rw [← hH0] at hX hbl
          exact va_slen hx hb hX hbl hbA hS hd (kk H locs LS ⟨hl, hol, z_okS_tl hos, hP, hS⟩)
      · cases h
    · cases h
  | iaload =>
    have hd := (show decode (z_b m) pc = .ok (_, _) from hd)
    rcases hn9 with h9 | h9
    · cases h9
    subst h9
    dsimp only [z_st1] at h
    split at h
    · rename_i j f q r
      split at h
      · cases h
      · rename_i hob
        split at h
        · rename_i hak
          cases hq : Nat.beq q 41
          · rw [hq] at h
            cases h
            have hv := z_okv_val (z_okS_hd (z_okS_tl hos)) hq
            have hg := z_W_get (ad := ad) (cs := cs) (M := M) hv
            rw [show z_en ad cs M f q = .inl (cs 0, z_sz q, .inl (fun k => z_ri M f q k)) by unfold z_en; rw [hob]; dsimp only; rw [hak]; rfl] at hg
            exact va_iald hx hb hK hP _ 0 hg rfl (z_inb_vp hA.1) hd (kk H locs LS ⟨hl, hol, z_okS_tl (z_okS_tl hos), hP, hS⟩)
          · rw [hq] at h
            cases h
            have e1 := Nat.eq_of_beq_eq_true hq
            subst e1
            have e2 := z_okv_41 (z_okS_hd (z_okS_tl hos))
            subst e2
            obtain ⟨-, -, -, -, -, -, -, -, -, hX, hbl, hbA⟩ := hcx
            rw [← hab] at hX hbl hbA
            rw [← hH0] at hX hbl
            exact va_sld hx hb hX hbl hbA hS (z_inb_vp hA.1) hd (kk H locs LS ⟨hl, hol, z_okS_tl (z_okS_tl hos), hP, hS⟩)
        · cases h
    · cases h
  | iastore =>
    have hd := (show decode (z_b m) pc = .ok (_, _) from hd)
    rcases hn9 with h9 | h9
    · cases h9
    subst h9
    dsimp only [z_st1] at h
    split at h
    · rename_i x j f q r
      split at h
      · cases h
      · rename_i hob
        split at h
        · rename_i hak
          cases hq : Nat.beq q 41
          · rw [hq] at h
            cases h
            have hos3 := z_okS_tl (z_okS_tl hos)
            have hv := z_okv_val (z_okS_hd hos3) hq
            have hg := z_W_get (ad := ad) (cs := cs) (M := M) hv
            rw [show z_en ad cs M f q = .inl (cs 0, z_sz q, .inl (fun k => z_ri M f q k)) by unfold z_en; rw [hob]; dsimp only; rw [hak]; rfl] at hg
            refine va_iast hx hb hK hP hD hS _ 0 hg rfl (z_inb_vp hA.1) hd (fun H1 locs1 hP1 _ hS1 => ?_)
            rw [z_W_set (M' := z_wi M f q j.toNatClampNeg x) hv (z_en_arr hv hob hak) (fun f' p' h1 h2 => z_wi_ne hv h1 h2)] at hP1
            exact kk H1 locs1 LS ⟨hl, hol, z_okS_tl hos3, hP1, hS1⟩
          · rw [hq] at h
            cases h
        · cases h
    · cases h
  | aaload =>
    have hd := (show decode (z_b m) pc = .ok (_, _) from hd)
    rcases hn9 with h9 | h9
    · cases h9
    subst h9
    dsimp only [z_st1] at h
    split at h
    · rename_i j f q r
      have hq : Nat.beq q 41 = false := by
        cases hq : Nat.beq q 41
        · rfl
        · have e1 := Nat.eq_of_beq_eq_true hq
          subst e1
          cases h
      have hv := z_okv_val (z_okS_hd (z_okS_tl hos)) hq
      have hg := z_W_get (ad := ad) (cs := cs) (M := M) hv
      split at h
      · rename_i hak
        cases h
        have e1 : q = 17 := z_ak_2 hak
        subst e1
        have hin := z_inb_vp hA.1
        refine va_aldq hx hb hK hP _ 1 hg rfl hin hd (kk H locs LS ⟨hl, hol, z_okS_mk ?_ (z_okS_tl (z_okS_tl hos)), hP, hS⟩)
        have h3 : ¬ 6 ≤ j.toNatClampNeg := fun q => hin (Or.inr q)
        exact Nat.ble_eq.mpr (by omega : 2 + j.toNatClampNeg + 1 ≤ 8)
      · rename_i hak
        cases h
        have e1 : q = 10 := z_ak_3 hak
        subst e1
        have hin := z_inb_vp hA.1
        have h3 : ¬ 7 ≤ j.toNatClampNeg := fun q => hin (Or.inr q)
        have hf8 : f + 1 ≤ 8 := Nat.ble_eq.mp hv
        refine z_aldr hx hb hK hP hg hin hd (kk H locs LS ⟨hl, hol, z_okS_mk ?_ (z_okS_tl (z_okS_tl hos)), hP, hS⟩)
        exact Nat.ble_eq.mpr (by omega : 7 * f + j.toNatClampNeg + 1 ≤ 56)
      · cases h
    · cases h
  | getfield k =>
    have hd := (show decode (z_b m) pc = .ok (_, _) from hd)
    rcases hn9 with h9 | h9
    · cases h9
    subst h9
    dsimp only [z_st1] at h
    split at h
    · rename_i f q r
      cases hf : z_fld (z_own m) k with
      | none => rw [hf] at h; cases h
      | some w =>
      obtain ⟨c1, s1, n1, v1⟩ := w
      cases hob : z_obj q with
      | none => rw [hf, hob] at h; cases h
      | some w2 =>
      obtain ⟨c2, n2⟩ := w2
      rw [hf, hob] at h
      dsimp only at h
      · skip
        cases hc : (Nat.beq c1 c2 && Nat.blt s1 n2)
        · rw [hc] at h; cases h
        · rw [hc] at h
          cases h
          obtain ⟨g1, g2⟩ := Bool.and_eq_true_iff.mp hc
          have e1 := Nat.eq_of_beq_eq_true g1
          subst e1
          have g3 : s1 < n2 := Nat.ble_eq.mp g2
          obtain ⟨hc6, hn2⟩ := z_obj_nf hob
          subst hn2
          have hv := z_okv_val (z_okS_hd hos) (z_obj_41 hob)
          have hg := z_W_get (ad := ad) (cs := cs) (M := M) hv
          rw [show z_en ad cs M f q = .inr (c1, (List.range (z_nf c1)).map fun k => cv ad (z_rd M f q k)) by unfold z_en; rw [hob]] at hg
          have hk := hlk
          unfold z_lnk at hk
          dsimp only at hk
          rw [hf] at hk
          dsimp only at hk
          have hw := z_isW_in (Bool.and_eq_true_iff.mp (Bool.and_eq_true_iff.mp hk).1).1
          have hval : ((List.range (z_nf c1)).map fun k => cv ad (z_rd M f q k))[s1]? = some (cv ad (z_rd M f q s1)) := by rw [List.getElem?_map, List.getElem?_range g3]; rfl
          have kk := kk H locs LS ⟨hl, hol, z_okS_mk (z_rd_ok hv hob g3) (z_okS_tl hos), hP, hS⟩
          cases n1 with
          | false => exact va_get (ref := (z_T c1 s1).1) hx hb hts (z_lays c1 hc6) hown hK hP _ hg (z_cl_ok c1 hc6) s1 g3 (hts _ (z_good_in hw rfl)) (fun _ h9 => h9) hval hd kk
          | true => exact va_getN (ref := (z_T c1 s1).1) (host := "IslandReserve") hx hb hts (z_lays c1 hc6) hown hK hP _ hg (z_cl_ok c1 hc6) s1 g3 (va_Nw.use rfl (hcx.2.2.2.1 _ (z_misc_in hw rfl))) (fun _ h9 => h9) hval hd kk
    · cases h
  | putfield k =>
    have hd := (show decode (z_b m) pc = .ok (_, _) from hd)
    rcases hn9 with h9 | h9
    · cases h9
    subst h9
    dsimp only [z_st1] at h
    split at h
    · rename_i x f q r
      cases hf : z_fld (z_own m) k with
      | none => rw [hf] at h; cases h
      | some w =>
      obtain ⟨c1, s1, n1, v1⟩ := w
      cases hob : z_obj q with
      | none => rw [hf, hob] at h; cases h
      | some w2 =>
      obtain ⟨c2, n2⟩ := w2
      rw [hf, hob] at h
      dsimp only at h
      · skip
        cases hc : (Nat.beq c1 c2 && Nat.blt s1 n2)
        · rw [hc] at h; cases h
        · rw [hc] at h
          dsimp only [cond] at h
          obtain ⟨g1, g2⟩ := Bool.and_eq_true_iff.mp hc
          have e1 := Nat.eq_of_beq_eq_true g1
          subst e1
          have g3 : s1 < n2 := Nat.ble_eq.mp g2
          obtain ⟨hc6, hn2⟩ := z_obj_nf hob
          subst hn2
          have hv := z_okv_val (z_okS_hd (z_okS_tl hos)) (z_obj_41 hob)
          have hg := z_W_get (ad := ad) (cs := cs) (M := M) hv
          rw [show z_en ad cs M f q = .inr (c1, (List.range (z_nf c1)).map fun k => cv ad (z_rd M f q k)) by unfold z_en; rw [hob]] at hg
          have hk := hlk
          unfold z_lnk at hk
          dsimp only at hk
          rw [hf] at hk
          dsimp only at hk
          have hw := z_isW_in (Bool.and_eq_true_iff.mp (Bool.and_eq_true_iff.mp hk).1).1
          split at h
          · rename_i y hy
            have hc' : c' = (pc + 3, ls, r, z_wi M f q s1 x) ∧ (z_fb q s1 = true → z_isB x = true) := by
              cases hfb : z_fb q s1
              · rw [hfb] at h; cases h; exact ⟨rfl, fun w => by cases w⟩
              · rw [hfb] at h; cases h; exact ⟨rfl, fun _ => hA.1⟩
            obtain ⟨e2, hbool⟩ := hc'
            subst e2
            obtain ⟨hfin, hty⟩ := z_put_ok hob g3 hy
            have hnar : narrow (z_tyT c1 s1) (.int x) = .int x ∧ fits (z_tyT c1 s1) (.int x) = true := by
              rw [hty]
              cases hfb : z_fb q s1
              · exact ⟨rfl, rfl⟩
              · exact ⟨z_isB_nar (hbool hfb), z_isB_fit (hbool hfb)⟩
            have hln : s1 < ((List.range (z_nf c1)).map fun k => cv ad (z_rd M f q k)).length := by rw [List.length_map, List.length_range]; exact g3
            have kk : ∀ (H1 : Heap) (locs1 : List Loc), va_P D vwCl ((z_W ad cs M).set (z_ix f q) (ad f q, .inr (c1, ((List.range (z_nf c1)).map fun k => cv ad (z_rd M f q k)).set s1 (.int x)))) H1 → va_D A ((z_W ad cs M).set (z_ix f q) (ad f q, .inr (c1, ((List.range (z_nf c1)).map fun k => cv ad (z_rd M f q k)).set s1 (.int x)))) → va_S A H0 H1 locs1 → W p l e R s mi args below meth c H1 locs1 cells slots Q (F0 mi (pc + 3) LS (r.map (cv ad))) := by
              intro H1 locs1 hP1 _ hS1
              rw [z_W_set (M' := z_wi M f q s1 x) hv (z_en_obj hv hob hy g3) (fun f' p' h1 h2 => z_wi_ne hv h1 h2)] at hP1
              exact kk H1 locs1 LS ⟨hl, hol, z_okS_tl (z_okS_tl hos), hP1, hS1⟩
            cases n1 with
            | false => exact va_put (ref := (z_T c1 s1).1) hx hb hts (z_lays c1 hc6) (z_tyT c1) (z_ty_ok c1 hc6) (z_nm_ok c1 hc6) hown hK hP hD hS _ hg (z_cl_ok c1 hc6) s1 g3 (hts _ (z_good_in hw rfl)) (fun _ h9 => h9) hfin (z_ty_ok c1 hc6 s1 g3) hnar.1 hnar.2 hln hd kk
            | true => exact va_putN (ref := (z_T c1 s1).1) (host := "IslandReserve") hx hb hts (z_lays c1 hc6) (z_tyT c1) (z_ty_ok c1 hc6) (z_nm_ok c1 hc6) hown hK hP hD hS _ hg (z_cl_ok c1 hc6) s1 g3 (va_Nw.use rfl (hcx.2.2.2.1 _ (z_misc_in hw rfl))) (fun _ h9 => h9) hfin (z_ty_ok c1 hc6 s1 g3) hnar.1 hnar.2 hln hd kk
          · cases h
    · cases h
  | invokestatic k =>
    have hd := (show decode (z_b m) pc = .ok (_, _) from hd)
    rcases hn9 with h9 | h9
    · cases h9
    subst h9
    dsimp only [z_st1] at h
    have hk := hlk
    unfold z_lnk at hk
    dsimp only at hk
    split at h
    · rename_i hsp
      rw [hsp] at hk
      dsimp only at hk
      have hw := z_isW_in (Bool.and_eq_true_iff.mp (Bool.and_eq_true_iff.mp (Bool.and_eq_true_iff.mp hk).1).1).1
      have hf1 := Nat.ble_eq.mp (Bool.and_eq_true_iff.mp (Bool.and_eq_true_iff.mp (Bool.and_eq_true_iff.mp hk).1).1).2
      have hf2 := Nat.ble_eq.mp (Bool.and_eq_true_iff.mp (Bool.and_eq_true_iff.mp hk).1).2
      split at h
      · rename_i n dp f2 p2 sp f1 p1 r
        split at h
        · rename_i ho1 ho2
          cases hc : (Nat.beq (z_ak p1) 0 && Nat.beq (z_ak p2) 0 && Nat.blt p1 32 && Nat.blt p2 32 && Nat.blt (z_sl r) 9)
          · rw [hc] at h; cases h
          · rw [hc] at h
            cases h
            obtain ⟨g1, g5⟩ := Bool.and_eq_true_iff.mp hc
            obtain ⟨g1, g4⟩ := Bool.and_eq_true_iff.mp g1
            obtain ⟨g1, g3⟩ := Bool.and_eq_true_iff.mp g1
            obtain ⟨g1, g2⟩ := Bool.and_eq_true_iff.mp g1
            have k1 := Nat.eq_of_beq_eq_true g1
            have k2 := Nat.eq_of_beq_eq_true g2
            have k3 : p1 < 32 := Nat.ble_eq.mp g3
            have k4 : p2 < 32 := Nat.ble_eq.mp g4
            have k5 : z_sl r < 9 := Nat.ble_eq.mp g5
            have hos4 := z_okS_tl (z_okS_tl hos)
            have hos6 := z_okS_tl (z_okS_tl hos4)
            have hv2 := z_okv_val (z_okS_hd hos4) (z_beq_ne (by omega))
            have hv1 := z_okv_val (z_okS_hd hos6) (z_beq_ne (by omega))
            have hg1 := z_W_get (ad := ad) (cs := cs) (M := M) hv1
            have hg2 := z_W_get (ad := ad) (cs := cs) (M := M) hv2
            rw [show z_en ad cs M f1 p1 = .inl (cs 0, z_sz p1, .inl (fun k => z_ri M f1 p1 k)) by unfold z_en; rw [ho1]; dsimp only; rw [k1]; rfl] at hg1
            rw [show z_en ad cs M f2 p2 = .inl (cs 0, z_sz p2, .inl (fun k => z_ri M f2 p2 k)) by unfold z_en; rw [ho2]; dsimp only; rw [k2]; rfl] at hg2
            obtain ⟨q1, q2, q3, q4, q5⟩ := z_cpo_ok hA.1
            refine va_copyi hx hb (hml.trans hl.1.symm) hown (hts _ (z_good_in hw rfl)) (hts _ (z_good_in z_w_nat rfl)) (hts _ (z_good_in z_w_stc rfl)) (hts _ (z_good_in z_w_ini rfl)) hK hP hD hS _ _ 0 0 hg1 hg2 rfl rfl rfl q1 q2 q3 q4 q5 (fun _ _ => rfl) (by omega) (by rw [z_sl_map]; exact Nat.le_trans (z_natw k5) (by omega)) hd (fun H1 locs1 hP1 _ hS1 => ?_)
            rw [z_W_set (M' := (z_cpy M.1 f1 p1 f2 p2 sp.toNatClampNeg dp.toNatClampNeg n.toNatClampNeg, M.2)) hv2 (z_cpy_en hv2 ho2 k2 k3 k4) (fun f' p' h1 h2 => z_cpy_ne h2)] at hP1
            exact kk H1 locs1 LS ⟨hl, hol, z_okS_tl hos6, hP1, hS1⟩
        · cases h
      · cases h
    · rename_i hsp
      rw [hsp] at hk
      dsimp only at hk
      have hw := z_isW_in (Bool.and_eq_true_iff.mp (Bool.and_eq_true_iff.mp (Bool.and_eq_true_iff.mp hk).1).1).1
      have hf1 := Nat.ble_eq.mp (Bool.and_eq_true_iff.mp (Bool.and_eq_true_iff.mp (Bool.and_eq_true_iff.mp hk).1).1).2
      have hf2 := Nat.ble_eq.mp (Bool.and_eq_true_iff.mp (Bool.and_eq_true_iff.mp hk).1).2
      split at h
      · rename_i y x r
        cases hc : Nat.blt (z_sl r) 9
        · rw [hc] at h; cases h
        · rw [hc] at h
          cases h
          have k5 : z_sl r < 9 := Nat.ble_eq.mp hc
          exact va_mmax hx hb (hml.trans hl.1.symm) hown (hts _ (z_good_in hw rfl)) (hts _ (z_good_in z_w_mxs rfl)) (hts _ (z_good_in z_w_mi rfl)) (hts _ (z_good_in z_w_mxc rfl)) (by omega) (by rw [z_sl_map]; omega) hce hsl hd (kk H locs LS ⟨hl, hol, z_okS_tl (z_okS_tl hos), hP, hS⟩)
      · cases h
    · rename_i hsp
      rw [hsp] at hk
      dsimp only at hk
      have hw := z_isW_in (Bool.and_eq_true_iff.mp (Bool.and_eq_true_iff.mp (Bool.and_eq_true_iff.mp hk).1).1).1
      have hf1 := Nat.ble_eq.mp (Bool.and_eq_true_iff.mp (Bool.and_eq_true_iff.mp (Bool.and_eq_true_iff.mp hk).1).1).2
      have hf2 := Nat.ble_eq.mp (Bool.and_eq_true_iff.mp (Bool.and_eq_true_iff.mp hk).1).2
      split at h
      · rename_i y x r
        cases hc : Nat.blt (z_sl r) 9
        · rw [hc] at h; cases h
        · rw [hc] at h
          cases h
          have k5 : z_sl r < 9 := Nat.ble_eq.mp hc
          exact va_mmin hx hb (hml.trans hl.1.symm) hown (hts _ (z_good_in hw rfl)) (hts _ (z_good_in z_w_mns rfl)) (hts _ (z_good_in z_w_mi rfl)) (hts _ (z_good_in z_w_mnc rfl)) (by omega) (by rw [z_sl_map]; omega) hce hsl hd (kk H locs LS ⟨hl, hol, z_okS_tl (z_okS_tl hos), hP, hS⟩)
      · cases h
    · cases h
  | _ => (dsimp only [z_st1] at h; cases h)
end ZS
