
/-! A RUN IS SOUND: what the interpreter runs, the machine runs -/
def z_ex (e : Nat) : String := match e with
  | 0 => "java/lang/IllegalArgumentException"
  | 1 => "java/lang/IllegalStateException"
  | _ => "java/lang/IndexOutOfBoundsException"
def z_Qc (D : va_G) (ad : z_ad) (cs : Nat → ClassId) (A : Nat → Prop) (o : z_Rs) (M' : Mem) : Array Value → State → Outcome → State → Prop := fun _ st oc t => (∃ v, o = .inl v ∧ oc = .returned (v.map (cv ad)) ∧ va_P D vwCl (z_W ad cs M') t.heap) ∧ va_F A st t
def z_XC (D : va_G) (ad : z_ad) (cs : Nat → ClassId) (A : Nat → Prop) (o : z_Rs) (M' : Mem) : String → State → State → Prop := fun E st t => (∃ e, o = .inr e ∧ E = z_ex e ∧ va_P D vwCl (z_W ad cs M') t.heap) ∧ va_F A st t
def z_Pc (D : va_G) (ad : z_ad) (cs : Nat → ClassId) (A : Nat → Prop) (b L : Nat) (xs : Nat → Int32) (sa : Nat → Nat) (M : Mem) (as : List AV) : Array Value → State → Prop := va_Pc (as.map (cv ad)) (fun U => z_cx D cs A b L xs sa U ∧ va_P D vwCl (z_W ad cs M) U.heap)
def z_room (m k : Nat) : Room := { frames := z_FR m, cells := k, slots := 6 * k, locals := z_LR m }
def z_ws (m : Nat) : List Cond := z_codeW m :: z_good
-- the entry
theorem z_asc_ent (ad : z_ad) : ∀ (as : List AV) (i : Nat), z_asc ad i (z_entL as) = lv_args i (as.map (cv ad))
  | [], _ => rfl
  | v :: t, i => by
    have hc := cv_cat ad v
    cases h2 : z_cat2 v with
    | true =>
      rw [h2] at hc
      have h1 : (cv ad v).category = 2 := hc
      unfold z_entL
      rw [h2]
      show (i, cv ad v) :: z_asc ad (i + 2) (z_entL t) = (i, cv ad v) :: lv_args (if (cv ad v).category = 2 then i + 2 else i + 1) (t.map (cv ad))
      rw [if_pos h1, z_asc_ent ad t]
    | false =>
      rw [h2] at hc
      have h1 : (cv ad v).category = 1 := hc
      unfold z_entL
      rw [h2]
      show (i, cv ad v) :: z_asc ad (i + 1) (z_entL t) = (i, cv ad v) :: lv_args (if (cv ad v).category = 2 then i + 2 else i + 1) (t.map (cv ad))
      rw [if_neg (by omega), z_asc_ent ad t]
theorem z_get_pad : ∀ (n : Nat) (l : Lc) (j : Nat) (v : AV), z_get (z_pad n l) j = some v → z_get l j = some v
  | 0, l, j, v, h => h
  | n + 1, [], 0, v, h => by cases h
  | n + 1, [], j + 1, v, h => by have h1 := z_get_pad n [] j v h; cases h1
  | n + 1, x :: t, 0, v, h => h
  | n + 1, x :: t, j + 1, v, h => z_get_pad n t j v h
theorem z_has_entry {ad : z_ad} {as : List AV} {n : Nat} {LS : Array Slot} (h : lv_has LS n (lv_args 0 (as.map (cv ad)))) : lv_has LS n (z_asc ad 0 (z_pad n (z_entL as))) := by
  refine z_has_mem h fun q hq => ?_
  obtain ⟨j, v, h1, h2⟩ := (z_asc_in _ _ _).mp hq
  rw [← z_asc_ent]
  exact (z_asc_in _ _ _).mpr ⟨j, v, z_get_pad _ _ _ _ h1, h2⟩
theorem z_okL_pad : ∀ (n : Nat) (l : Lc), z_okL l = true → z_okL (z_pad n l) = true
  | 0, l, h => h
  | n + 1, [], _ => z_okL_pad n [] rfl
  | n + 1, none :: t, h => z_okL_pad n t h
  | n + 1, some v :: t, h => by
    have h' : (z_okv v && z_okL t) = true := h
    obtain ⟨h1, h2⟩ := Bool.and_eq_true_iff.mp h'
    show (z_okv v && z_okL (z_pad n t)) = true
    rw [h1, z_okL_pad n t h2]
    rfl
theorem z_okL_ent : ∀ (as : List AV), z_okS as = true → z_okL (z_entL as) = true
  | [], _ => rfl
  | v :: t, h => by
    have ih := z_okL_ent t (z_okS_tl h)
    unfold z_entL
    cases z_cat2 v
    · show (z_okv v && z_okL (z_entL t)) = true
      rw [z_okS_hd h, ih]
      rfl
    · show (z_okv v && z_okL (z_entL t)) = true
      rw [z_okS_hd h, ih]
      rfl
theorem z_sl_lg (ad : z_ad) : ∀ as : List AV, (lg_sl (as.map (cv ad))).length = z_sl as
  | [] => rfl
  | v :: t => by
    have ih := z_sl_lg ad t
    have hc := cv_cat ad v
    unfold lg_sl at ih ⊢
    rw [List.map_cons, List.flatMap_cons, List.length_append, ih]
    show _ = (bif z_cat2 v then 2 else 1) + z_sl t
    rw [hc]
    cases z_cat2 v <;> rfl
theorem z_okS_app : ∀ {a b : List AV}, z_okS (a ++ b) = true → z_okS a = true ∧ z_okS b = true
  | [], b, h => ⟨rfl, h⟩
  | v :: t, b, h => by
    obtain ⟨h1, h2⟩ := z_okS_app (a := t) (b := b) (z_okS_tl h)
    exact ⟨z_okS_mk (z_okS_hd h) h1, h2⟩
theorem z_okS_in {a : List AV} : z_okS a = true ↔ ∀ v ∈ a, z_okv v = true := List.all_eq_true
theorem z_okS_rev {a : List AV} (h : z_okS a.reverse = true) : z_okS a = true := z_okS_in.mpr fun v hv => z_okS_in.mp h v (List.mem_reverse.mpr hv)
theorem z_codeW_good (m : Nat) : goodWord (z_codeW m) = true := by
  unfold z_codeW
  split <;> rfl
theorem z_ws_in {m : Nat} (hm : m < 57) : GoodIn z_good (z_ws m) := by
  intro w hw
  rcases List.mem_cons.mp hw with e | h
  · subst e
    exact ⟨z_good_in (z_cw hm) (z_codeW_good m), good_of_word (z_codeW_good m)⟩
  · exact ⟨h, good_of_word (List.mem_filter.mp h).2⟩
-- handlers
def z_isIn (w : Cond) : Bool := lw_tbl.any (fun x => decide (x = w))
theorem z_isIn_in {w : Cond} (h : z_isIn w = true) : w ∈ lw_tbl := by
  obtain ⟨x, hx, e⟩ := List.any_eq_true.mp h
  have e2 := of_decide_eq_true e
  subst e2
  exact hx
def z_hk (m h ct e hp sl : Nat) : Bool := !(Nat.beq ct 0) && z_isIn (.classLink (z_on (z_own m)) ct (z_ex e)) && z_isIn (.castable (z_ex e) (z_ex e)) && (match z_ins m h with
  | some (.astore k, _, _) => Nat.beq k sl && Nat.beq hp (h + 2) && Nat.blt k (z_ml m)
  | some (.astore_n k, _, _) => Nat.beq k.val sl && Nat.beq hp (h + 1) && Nat.blt k.val (z_ml m)
  | _ => false)
def z_hp (m ct e : Nat) : Bool := !(Nat.beq ct 0) && ((Nat.beq e 1 && z_isIn (.classLink (z_on (z_own m)) ct "java/lang/IllegalArgumentException")) || (Nat.beq e 0 && z_isIn (.classLink (z_on (z_own m)) ct "java/lang/IndexOutOfBoundsException")))
def z_hck (m e : Nat) : Bool := match z_han m e with
  | none => true
  | some (hp, sl) => match z_hh m with
    | [(_, _, h, ct)] => z_hk m h ct e hp sl
    | [(_, _, h, ct), (_, _, h2, ct2)] => z_hk m h ct e hp sl || (z_hp m ct e && z_hk m h2 ct2 e hp sl)
    | _ => false
theorem z_hck_all : (List.range 58).all (fun m => (List.range 3).all (z_hck m)) = true := by decide +kernel
theorem z_han_lt {m e : Nat} {x : Nat × Nat} (h : z_han m e = some x) : e < 3 := by
  unfold z_han at h
  cases he : Nat.blt e 3
  · rw [he] at h; cases h
  · exact Nat.ble_eq.mp he
section ZC
variable {p : Program} {l : Launch} {e : Env} {R : Room} {s : State} {mi : MethodId} {args : Array Value} {below : List Frame} {meth : Method} {c : Code} {cells slots : Nat} {Q : State → Prop}
variable {D : va_G} {ad : z_ad} {cs : Nat → ClassId} {A : Nat → Prop} {b L : Nat} {xs : Nat → Int32} {sa : Nat → Nat} {H0 : Heap}
/-- behind a call, whatever it answers -/
theorem z_callG {H : Heap} {locs : List Loc} {mc ms pc : Nat} {ls : Array Slot} {st0 rest : List Value} {o : z_Rs} {M' : Mem} {a : Array Value} (hr : vx_Run p l e R s mi args below meth c H locs cells slots mc ms (F0 mi pc ls st0) rest (z_Qc D ad cs A o M' a) (z_XC D ad cs A o M') A) (hS : va_S A H0 H locs)
    (kx : ∀ (er : Nat) (ce : Cell) (q9 : Addr) (H1 : Heap) (locs1 : List Loc), o = .inr er → va_P D vwCl (z_W ad cs M') H1 → va_S A H0 H1 locs1 → H1[q9]? = some ce → ce.vm = .none → s.vm.findClass (z_ex er) = some ce.cls → vx_W p l e R s mi args below meth c H1 locs1 (cells + mc) (slots + ms) Q (F0 mi pc ls rest) q9)
    (kk : ∀ (v : Option AV) (H1 : Heap) (locs1 : List Loc), o = .inl v → va_P D vwCl (z_W ad cs M') H1 → va_S A H0 H1 locs1 → W p l e R s mi args below meth c H1 locs1 (cells + mc) (slots + ms) Q (F0 mi (pc + 3) ls ((v.map (cv ad)).toList ++ rest))) : W p l e R s mi args below meth c H locs cells slots Q (F0 mi pc ls st0) := by
  intro T hT X
  rcases hr T hT X with ⟨v, st₀, t, T', L9, h0, X', hL, e1, e2, ⟨⟨w, hw, hv, hP⟩, hF⟩, st⟩ | ⟨q, st₀, t, T', L9, E, ce, h0, X', hL, e1, e2, ⟨⟨er, ho, hE, hP⟩, hF⟩, hce, hcv, hcl, st⟩
  · cases hv
    obtain ⟨k1, k2, k3⟩ := vx_keep h0 e1 hS (fun q _ h => h) (fun q h => h) hL hF
    obtain ⟨t2, a1, b1⟩ := kk w T'.heap (locs ++ L9) hw (by rw [e1]; exact hP) k3 T' rfl X'
    exact ⟨t2, st t2 a1, b1⟩
  · obtain ⟨k1, k2, k3⟩ := vx_keep h0 e1 hS (fun q _ h => h) (fun q h => h) hL hF
    subst hE
    obtain ⟨t2, a1, b1⟩ := kx er ce q T'.heap (locs ++ L9) ho (by rw [e1]; exact hP) k3 (by rw [e1]; exact hce) hcv hcl T' rfl X'
    exact ⟨t2, st.trans a1, b1⟩
/-- the class's receiver -/
theorem z_recv {M : Mem} {f q cn n : Nat} {H : Heap} (hK : va_K D vwCl (z_tys cs) s) (hP : va_P D vwCl (z_W ad cs M) H) (hv : z_val f q = true) (ho : z_obj q = some (cn, n)) : ∃ cell : Cell, H[ad f q]? = some cell ∧ cell.vm.isStatics = false ∧ s.vm.findClass (z_on cn) = some cell.cls := by
  obtain ⟨hc6, hn⟩ := z_obj_nf ho
  have hg := z_W_get (ad := ad) (cs := cs) (M := M) hv
  rw [show z_en ad cs M f q = .inr (cn, (List.range n).map fun k => cv ad (z_rd M f q k)) by unfold z_en; rw [ho]] at hg
  exact va_recv hK hP (z_cl_ok cn hc6) hg
theorem z_blind (M : Mem) (as : List AV) : FrameBlind (z_Pc D ad cs A b L xs sa M as) := by
  intro a U g mk h
  obtain ⟨h1, h2, h3⟩ := h
  exact ⟨h1, z_cx_moved (U := U.calling g mk a) (locs := []) (State.WarmedH.refl U) va_S.rf h2, h3⟩
theorem z_mB_use {m : Nat} (hm : m < 57) : Cond.initialized (z_y m).cls ∈ z_good ∧ (z_stc m = true → Cond.static (z_y m) ∈ z_good) ∧ (z_stc m = false → Cond.instanceMethod (z_y m) ∈ z_good ∧ Cond.selects (z_on (z_own m)) (z_y m) (z_y m) ∈ z_good ∧ 0 < z_na m) ∧
    (z_y m).cls = z_on (z_own m) ∧ plainName (z_y m).cls = true ∧ ((z_y m).cls ≠ "java/lang/invoke/MethodHandle" ∧ (z_y m).cls ≠ "java/lang/invoke/VarHandle") ∧ (parseMethodDescriptor (z_y m).desc).map (fun d => d.parameters.length) = some (bif z_stc m then z_na m else z_na m - 1) := by
  have h := z_mB_all hm
  unfold z_mB at h
  obtain ⟨h, g8⟩ := Bool.and_eq_true_iff.mp h
  obtain ⟨h, g7⟩ := Bool.and_eq_true_iff.mp h
  obtain ⟨h, g6⟩ := Bool.and_eq_true_iff.mp h
  obtain ⟨h, g5⟩ := Bool.and_eq_true_iff.mp h
  obtain ⟨h, g4⟩ := Bool.and_eq_true_iff.mp h
  obtain ⟨h, g3⟩ := Bool.and_eq_true_iff.mp h
  obtain ⟨g1, g2⟩ := Bool.and_eq_true_iff.mp h
  refine ⟨z_good_in (z_isW_in g1) rfl, fun e => ?_, fun e => ?_, of_decide_eq_true g3, g4, ⟨of_decide_eq_true g5, of_decide_eq_true g6⟩, of_decide_eq_true g7⟩
  · rw [e] at g2
    exact z_good_in (z_isW_in g2) rfl
  · rw [e] at g2 g8
    obtain ⟨k1, k2⟩ := Bool.and_eq_true_iff.mp g2
    exact ⟨z_good_in (z_isW_in k1) rfl, z_good_in (z_isW_in k2) rfl, Nat.ble_eq.mp g8⟩
end ZC


def z_rOK (m : Nat) (i : Instr) (o : z_Rs) (st : List AV) : Prop := match i with
  | .return_ => z_rt m = 0 ∧ st = [] ∧ o = .inl none
  | .ireturn => ∃ x, st = [.inl x] ∧ o = .inl (some (.inl x)) ∧ (z_rt m = 1 ∨ (z_rt m = 2 ∧ z_isB x = true))
  | .lreturn => ∃ x, st = [.inr (.inl x)] ∧ o = .inl (some (.inr (.inl x))) ∧ z_rt m = 3
  | .dreturn => ∃ x, st = [.inr (.inr (.inl x))] ∧ o = .inl (some (.inr (.inr (.inl x)))) ∧ z_rt m = 4
  | _ => False
/-- all that a walk of m from a point needs besides the point -/
def z_Env (p : Program) (l : Launch) (R : Room) (s : State) (mi : MethodId) (args : Array Value) (meth : Method) (c : Code) (cells slots : Nat) (D : va_G) (ad : z_ad) (cs : Nat → ClassId) (A : Nat → Prop) (b L : Nat) (xs : Nat → Int32) (sa : Nat → Nat) (m : Nat) : Prop :=
  z_On p R s mi args c cells slots D ad cs A b L xs sa m ∧ l.stackTraces = false ∧ meth.locks = false ∧ c.exceptionTable.toList = tableOf (z_hh m)
/-- the soundness of all runs of at most n steps -/
def z_Snd (l : Launch) (D : va_G) (ad : z_ad) (cs : Nat → ClassId) (A : Nat → Prop) (b L : Nat) (xs : Nat → Int32) (sa : Nat → Nat) (n : Nat) : Prop :=
  ∀ (m : Nat) (cf : Cf) (o : z_Rs) (M' : Mem) (k : Nat), z_Ex xs L n m cf o M' k → ∀ {p : Program} {e : Env} {R : Room} {s : State} {mi : MethodId} {args : Array Value} {below : List Frame} {meth : Method} {c : Code} {cells slots : Nat} {Q : State → Prop} {H : Heap} {locs : List Loc} {LS : Array Slot},
    z_Env p l R s mi args meth c cells slots D ad cs A b L xs sa m → cells + k ≤ R.cells → slots + 6 * k ≤ R.slots → z_Pt D ad cs A s.heap m LS cf.2.1 cf.2.2.1 cf.2.2.2 H locs →
    (∀ er, o = .inr er → Q = vx_MQ below (z_Qc D ad cs A o M') (z_XC D ad cs A o M') args s (cells + k) (slots + 6 * k) A) →
    (∀ (H' : Heap) (locs' : List Loc) (pc' : Nat) (LS' : Array Slot) (st' : List AV) (i : Instr) (t : Nat) (k0 : Int32), z_ins m pc' = some (i, t, k0) → z_rOK m i o st' → va_P D vwCl (z_W ad cs M') H' → va_S A s.heap H' locs' → W p l e R s mi args below meth c H' locs' (cells + k) (slots + 6 * k) Q (F0 mi pc' LS' (st'.map (cv ad)))) →
    W p l e R s mi args below meth c H locs cells slots Q (F0 mi cf.1 LS (cf.2.2.1.map (cv ad)))
/-- a method's contract out of its run -/
theorem z_met {l : Launch} {D : va_G} {ad : z_ad} {cs : Nat → ClassId} {A : Nat → Prop} {b L : Nat} {xs : Nat → Int32} {sa : Nat → Nat} {n : Nat} (ih : z_Snd l D ad cs A b L xs sa n) (hAD : z_AD A ad) (hab : ad 0 41 = b) (hl : l.stackTraces = false) {m : Nat} (hm : m < 57) {as : List AV} {M M1 : Mem} {o1 : z_Rs} {k1 : Nat}
    (hex : z_Ex xs L n m (0, z_pad (z_ml m) (z_entL as), [], M) o1 M1 k1) (hos : z_okS as = true) (hsl : z_sl as ≤ z_ml m) :
    vx_Met l (z_y m) (z_ws m) (z_room m k1) (z_Pc D ad cs A b L xs sa M as) (z_Qc D ad cs A o1 M1) (z_XC D ad cs A o1 M1) k1 (6 * k1) A := by
  obtain ⟨-, -, -, hcls, hpl, -, -⟩ := z_mB_use hm
  have body : ∀ (p : Program) (e : Env) (s : State) (mi : MethodId) (args : Array Value) (below : List Frame) (meth : Method) (c : Code) (s₁ : State), BodyLoose p l (z_y m) (headSpec (z_ws m) (z_room m k1)) (z_b m) (z_ml m) (z_ret m) e s mi args below meth c s₁ → c.maxLocals = z_ml m → c.exceptionTable.toList = tableOf (z_hh m) → z_Pc D ad cs A b L xs sa M as args s →
      W p l e (headSpec (z_ws m) (z_room m k1)).room s mi args below meth c s.heap [] 0 0 (vx_MQ below (z_Qc D ad cs A o1 M1) (z_XC D ad cs A o1 M1) args s k1 (6 * k1) A) (entryFrame mi args (z_ml m)) := by
    intro p e s mi args below meth c s₁ B hml htab hv
    obtain ⟨rfl, hcx, hP⟩ := hv
    have hx := B.exec
    have hb := B.bytes
    have hr := B.returns
    have hlocks := B.notSynchronized
    have hts0 := atoms_spec (ws := z_ws m) B.pre
    have hown : s.vm.findClass (z_on (z_own m)) = some mi.cls := by
      rw [← hcls]
      exact findClass_of_methodNamed B.named
    have hl9 := lv_entry (as.map (cv ad)) (n := z_ml m) (by rw [z_sl_lg]; exact hsl)
    rw [lg_entry_eq]
    generalize (lg_sl (as.map (cv ad)) ++ List.replicate (z_ml m - (lg_sl (as.map (cv ad))).length) Slot.unset).toArray = LS at hl9 ⊢
    have hE : z_Env p l (headSpec (z_ws m) (z_room m k1)).room s mi (as.map (cv ad)).toArray meth c 0 0 D ad cs A b L xs sa m :=
      ⟨⟨hx, hb, hml, hown, fun w hw => hts0 w (List.mem_cons_of_mem _ hw), hcx, hAD, hab, Nat.le_refl _, Nat.le_refl _, Nat.zero_le _, Nat.zero_le _⟩, hl, hlocks, htab⟩
    refine ih m _ o1 M1 k1 hex hE (by rw [Nat.zero_add]; exact Nat.le_refl k1) (by rw [Nat.zero_add]; exact Nat.le_refl (6 * k1)) ⟨z_has_entry hl9, z_okL_pad _ _ (z_okL_ent as hos), rfl, hP, va_S.rf⟩ ?_ ?_
    · intro er _
      simp only [Nat.zero_add]
    · intro H' locs' pc' LS' st' i t k0 hi hrk hP' hS'
      simp only [Nat.zero_add]
      obtain ⟨⟨n9, hd, hn9⟩, -, -⟩ := z_ins_ck hi
      have hrt : meth.sig.returnType = z_ret m := hr
      refine vx_ret ?_
      have hq : ∀ (v : Option AV), o1 = .inl v → ∀ t9 : State, t9.heap = H' → s.WarmedH t9.vm → z_Qc D ad cs A o1 M1 (as.map (cv ad)).toArray s (.returned (v.map (cv ad))) t9 := fun v hv t9 ht9 _ => ⟨⟨v, hv, rfl, by rw [ht9]; exact hP'⟩, hS'.F ht9⟩
      cases i with
      | return_ =>
        rcases hn9 with h9 | h9
        · cases h9
        subst h9
        obtain ⟨r1, rfl, r3⟩ := hrk
        exact W.vret hx hb (by rw [hrt]; unfold z_ret; rw [r1]; rfl) (hq none r3) hS'.2.2 hd
      | ireturn =>
        rcases hn9 with h9 | h9
        · cases h9
        subst h9
        obtain ⟨x9, rfl, r2, r3⟩ := hrk
        rcases r3 with r3 | ⟨r3, r4⟩
        · exact W.zret (ty := .int) hx hb (by rw [hrt]; unfold z_ret; rw [r3]; rfl) rfl (hq (some (.inl x9)) r2) hS'.2.2 hd
        · exact W.zret (ty := .boolean) hx hb (by rw [hrt]; unfold z_ret; rw [r3]; rfl) (z_isB_nar r4) (hq (some (.inl x9)) r2) hS'.2.2 hd
      | lreturn =>
        rcases hn9 with h9 | h9
        · cases h9
        subst h9
        obtain ⟨x9, rfl, r2, r3⟩ := hrk
        exact W.lret hx hb (by rw [hrt]; unfold z_ret; rw [r3]; rfl) (hq (some (.inr (.inl x9))) r2) hS'.2.2 hd
      | dreturn =>
        rcases hn9 with h9 | h9
        · cases h9
        subst h9
        obtain ⟨x9, rfl, r2, r3⟩ := hrk
        exact W.dret hx hb (by rw [hrt]; unfold z_ret; rw [r3]; rfl) (hq (some (.inr (.inr (.inl x9)))) r2) hS'.2.2 hd
      | _ => exact absurd hrk (fun q => q)
  cases hh : z_hh m with
  | nil =>
    refine vx_ofW (cc := z_b m) (maxL := z_ml m) (ret := z_ret m) (ws' := z_good) hpl (by unfold z_ws z_codeW; rw [hh]) ?_
    intro p e s mi args below meth c s₁ B hml hnone hv
    refine body p e s mi args below meth c s₁ B hml ?_ hv
    rw [hh]
    cases ht : c.exceptionTable.toList with
    | nil => rfl
    | cons x t => exact absurd (hnone x (by rw [ht]; exact List.mem_cons_self)) (fun q => q)
  | cons x t =>
    have hcw : z_codeW m = Cond.codeWith (z_y m) (z_b m) (z_ml m) (z_ret m) (z_hh m) := by
      unfold z_codeW
      rw [hh]
    refine vx_ofWH (cc := z_b m) (maxL := z_ml m) (ret := z_ret m) (hh := z_hh m) (ws' := z_good) hpl (by unfold z_ws; rw [hcw]) ?_
    intro p e s mi args below meth c s₁ B hml hv
    refine body p e s mi args below meth c s₁ B hml ?_ hv
    refine vx_table (x := z_y m) (bytes := z_b m) (maxL' := z_ml m) (ret' := z_ret m) B ?_
    rw [← hcw]
    exact atoms_spec (ws := z_ws m) B.pre _ List.mem_cons_self

