section
-- ===== PART A: goes FIRST, ahead of the names: the tables' words, and 'selects' of the private methods out of them =====
/-- a private method of a class that the tables say can be made, by its rows of tables_1 -/
def lw_okq (q : MethodName × Nat) : Prop := (q.1.cls ≠ "java/lang/invoke/MethodHandle" ∧ q.1.cls ≠ "java/lang/invoke/VarHandle") ∧ Cond.instantiable q.1.cls q.2 ∈ tables_1 ∧ Cond.privateMethod q.1 ∈ tables_1 ∧ Cond.instanceMethod q.1 ∈ tables_1
theorem lw_p0 : lw_okq (⟨"java/lang/Throwable", "fillInStackTrace", "(I)Ljava/lang/Throwable;"⟩, 6) := ⟨⟨by decide +kernel, by decide +kernel⟩, List.mem_of_getElem? (i := 242) (by decide +kernel), List.mem_of_getElem? (i := 240) (by decide +kernel), List.mem_of_getElem? (i := 241) (by decide +kernel)⟩
theorem lw_p1 : lw_okq (⟨"IslandReserve", "shareOutNow", "()V"⟩, 9) := ⟨⟨by decide +kernel, by decide +kernel⟩, List.mem_of_getElem? (i := 17) (by decide +kernel), List.mem_of_getElem? (i := 272) (by decide +kernel), List.mem_of_getElem? (i := 273) (by decide +kernel)⟩
theorem lw_p2 : lw_okq (⟨"IslandReserve$Fleet", "maskOf", "(I)I"⟩, 8) := ⟨⟨by decide +kernel, by decide +kernel⟩, List.mem_of_getElem? (i := 31) (by decide +kernel), List.mem_of_getElem? (i := 276) (by decide +kernel), List.mem_of_getElem? (i := 277) (by decide +kernel)⟩
theorem lw_p3 : lw_okq (⟨"IslandReserve$Island", "hourOfNow", "()I"⟩, 7) := ⟨⟨by decide +kernel, by decide +kernel⟩, List.mem_of_getElem? (i := 25) (by decide +kernel), List.mem_of_getElem? (i := 280) (by decide +kernel), List.mem_of_getElem? (i := 281) (by decide +kernel)⟩
theorem lw_p4 : lw_okq (⟨"IslandReserve$Island", "loadOf", "(I)I"⟩, 7) := ⟨⟨by decide +kernel, by decide +kernel⟩, List.mem_of_getElem? (i := 25) (by decide +kernel), List.mem_of_getElem? (i := 287) (by decide +kernel), List.mem_of_getElem? (i := 288) (by decide +kernel)⟩
theorem lw_p5 : lw_okq (⟨"IslandReserve$Sharing", "shareOut", "(LIslandReserve$Fleet;II)V"⟩, 5) := ⟨⟨by decide +kernel, by decide +kernel⟩, List.mem_of_getElem? (i := 131) (by decide +kernel), List.mem_of_getElem? (i := 291) (by decide +kernel), List.mem_of_getElem? (i := 292) (by decide +kernel)⟩
theorem lw_p6 : lw_okq (⟨"IslandReserve$Sharing", "giveByMerit", "(LIslandReserve$Fleet;II)I"⟩, 5) := ⟨⟨by decide +kernel, by decide +kernel⟩, List.mem_of_getElem? (i := 131) (by decide +kernel), List.mem_of_getElem? (i := 298) (by decide +kernel), List.mem_of_getElem? (i := 299) (by decide +kernel)⟩
theorem lw_p7 : lw_okq (⟨"IslandReserve$Fleet", "firstByMerit", "(I)I"⟩, 8) := ⟨⟨by decide +kernel, by decide +kernel⟩, List.mem_of_getElem? (i := 31) (by decide +kernel), List.mem_of_getElem? (i := 302) (by decide +kernel), List.mem_of_getElem? (i := 303) (by decide +kernel)⟩
theorem lw_p8 : lw_okq (⟨"IslandReserve$Fleet", "sizeOf", "(I)I"⟩, 8) := ⟨⟨by decide +kernel, by decide +kernel⟩, List.mem_of_getElem? (i := 31) (by decide +kernel), List.mem_of_getElem? (i := 311) (by decide +kernel), List.mem_of_getElem? (i := 312) (by decide +kernel)⟩
theorem lw_p9 : lw_okq (⟨"IslandReserve$Island", "darkHours", "()I"⟩, 7) := ⟨⟨by decide +kernel, by decide +kernel⟩, List.mem_of_getElem? (i := 25) (by decide +kernel), List.mem_of_getElem? (i := 325) (by decide +kernel), List.mem_of_getElem? (i := 326) (by decide +kernel)⟩
theorem lw_p10 : lw_okq (⟨"IslandReserve$Island", "safeHours", "()I"⟩, 7) := ⟨⟨by decide +kernel, by decide +kernel⟩, List.mem_of_getElem? (i := 25) (by decide +kernel), List.mem_of_getElem? (i := 330) (by decide +kernel), List.mem_of_getElem? (i := 331) (by decide +kernel)⟩
theorem lw_p11 : lw_okq (⟨"IslandReserve$Fleet", "fuelSoFar", "()I"⟩, 8) := ⟨⟨by decide +kernel, by decide +kernel⟩, List.mem_of_getElem? (i := 31) (by decide +kernel), List.mem_of_getElem? (i := 334) (by decide +kernel), List.mem_of_getElem? (i := 335) (by decide +kernel)⟩
theorem lw_p12 : lw_okq (⟨"IslandReserve$Fleet", "fuelFor", "([I)I"⟩, 8) := ⟨⟨by decide +kernel, by decide +kernel⟩, List.mem_of_getElem? (i := 31) (by decide +kernel), List.mem_of_getElem? (i := 345) (by decide +kernel), List.mem_of_getElem? (i := 346) (by decide +kernel)⟩
theorem lw_p13 : lw_okq (⟨"IslandReserve", "saveState", "()V"⟩, 9) := ⟨⟨by decide +kernel, by decide +kernel⟩, List.mem_of_getElem? (i := 17) (by decide +kernel), List.mem_of_getElem? (i := 382) (by decide +kernel), List.mem_of_getElem? (i := 383) (by decide +kernel)⟩
theorem lw_p14 : lw_okq (⟨"IslandReserve$Island", "copyFrom", "(LIslandReserve$Island;)V"⟩, 7) := ⟨⟨by decide +kernel, by decide +kernel⟩, List.mem_of_getElem? (i := 25) (by decide +kernel), List.mem_of_getElem? (i := 386) (by decide +kernel), List.mem_of_getElem? (i := 387) (by decide +kernel)⟩
theorem lw_p15 : lw_okq (⟨"IslandReserve$Fleet", "copyFrom", "(LIslandReserve$Fleet;)V"⟩, 8) := ⟨⟨by decide +kernel, by decide +kernel⟩, List.mem_of_getElem? (i := 31) (by decide +kernel), List.mem_of_getElem? (i := 390) (by decide +kernel), List.mem_of_getElem? (i := 391) (by decide +kernel)⟩
def lw_privs_1 : List (MethodName × Nat) := [(⟨"java/lang/Throwable", "fillInStackTrace", "(I)Ljava/lang/Throwable;"⟩, 6), (⟨"IslandReserve", "shareOutNow", "()V"⟩, 9), (⟨"IslandReserve$Fleet", "maskOf", "(I)I"⟩, 8), (⟨"IslandReserve$Island", "hourOfNow", "()I"⟩, 7), (⟨"IslandReserve$Island", "loadOf", "(I)I"⟩, 7), (⟨"IslandReserve$Sharing", "shareOut", "(LIslandReserve$Fleet;II)V"⟩, 5), (⟨"IslandReserve$Sharing", "giveByMerit", "(LIslandReserve$Fleet;II)I"⟩, 5), (⟨"IslandReserve$Fleet", "firstByMerit", "(I)I"⟩, 8), (⟨"IslandReserve$Fleet", "sizeOf", "(I)I"⟩, 8), (⟨"IslandReserve$Island", "darkHours", "()I"⟩, 7), (⟨"IslandReserve$Island", "safeHours", "()I"⟩, 7), (⟨"IslandReserve$Fleet", "fuelSoFar", "()I"⟩, 8), (⟨"IslandReserve$Fleet", "fuelFor", "([I)I"⟩, 8), (⟨"IslandReserve", "saveState", "()V"⟩, 9), (⟨"IslandReserve$Island", "copyFrom", "(LIslandReserve$Island;)V"⟩, 7), (⟨"IslandReserve$Fleet", "copyFrom", "(LIslandReserve$Fleet;)V"⟩, 8)]
theorem lw_r1 : ∀ q ∈ lw_privs_1, lw_okq q := List.forall_mem_cons.mpr ⟨lw_p0, List.forall_mem_cons.mpr ⟨lw_p1, List.forall_mem_cons.mpr ⟨lw_p2, List.forall_mem_cons.mpr ⟨lw_p3, List.forall_mem_cons.mpr ⟨lw_p4, List.forall_mem_cons.mpr ⟨lw_p5, List.forall_mem_cons.mpr ⟨lw_p6, List.forall_mem_cons.mpr ⟨lw_p7, List.forall_mem_cons.mpr ⟨lw_p8, List.forall_mem_cons.mpr ⟨lw_p9, List.forall_mem_cons.mpr ⟨lw_p10, List.forall_mem_cons.mpr ⟨lw_p11, List.forall_mem_cons.mpr ⟨lw_p12, List.forall_mem_cons.mpr ⟨lw_p13, List.forall_mem_cons.mpr ⟨lw_p14, List.forall_mem_cons.mpr ⟨lw_p15, fun _ h => absurd h List.not_mem_nil⟩⟩⟩⟩⟩⟩⟩⟩⟩⟩⟩⟩⟩⟩⟩⟩
theorem lw_p16 : lw_okq (⟨"IslandReserve$Fleet", "begin", "(I)V"⟩, 8) := ⟨⟨by decide +kernel, by decide +kernel⟩, List.mem_of_getElem? (i := 31) (by decide +kernel), List.mem_of_getElem? (i := 398) (by decide +kernel), List.mem_of_getElem? (i := 399) (by decide +kernel)⟩
theorem lw_p17 : lw_okq (⟨"IslandReserve$Fleet", "isInUse", "(I)Z"⟩, 8) := ⟨⟨by decide +kernel, by decide +kernel⟩, List.mem_of_getElem? (i := 31) (by decide +kernel), List.mem_of_getElem? (i := 406) (by decide +kernel), List.mem_of_getElem? (i := 407) (by decide +kernel)⟩
theorem lw_p18 : lw_okq (⟨"IslandReserve$Fleet", "become", "(II)V"⟩, 8) := ⟨⟨by decide +kernel, by decide +kernel⟩, List.mem_of_getElem? (i := 31) (by decide +kernel), List.mem_of_getElem? (i := 410) (by decide +kernel), List.mem_of_getElem? (i := 411) (by decide +kernel)⟩
theorem lw_p19 : lw_okq (⟨"IslandReserve$Island", "hasStill", "(I)Z"⟩, 7) := ⟨⟨by decide +kernel, by decide +kernel⟩, List.mem_of_getElem? (i := 25) (by decide +kernel), List.mem_of_getElem? (i := 457) (by decide +kernel), List.mem_of_getElem? (i := 458) (by decide +kernel)⟩
theorem lw_p20 : lw_okq (⟨"IslandReserve$Island", "letHoursGoBy", "(ILIslandReserve$Sharing;)V"⟩, 7) := ⟨⟨by decide +kernel, by decide +kernel⟩, List.mem_of_getElem? (i := 25) (by decide +kernel), List.mem_of_getElem? (i := 461) (by decide +kernel), List.mem_of_getElem? (i := 462) (by decide +kernel)⟩
theorem lw_p21 : lw_okq (⟨"IslandReserve$Island", "letAnHourGoBy", "(LIslandReserve$Sharing;)V"⟩, 7) := ⟨⟨by decide +kernel, by decide +kernel⟩, List.mem_of_getElem? (i := 25) (by decide +kernel), List.mem_of_getElem? (i := 465) (by decide +kernel), List.mem_of_getElem? (i := 466) (by decide +kernel)⟩
theorem lw_p22 : lw_okq (⟨"IslandReserve$Fleet", "warmUpAnHour", "()V"⟩, 8) := ⟨⟨by decide +kernel, by decide +kernel⟩, List.mem_of_getElem? (i := 31) (by decide +kernel), List.mem_of_getElem? (i := 469) (by decide +kernel), List.mem_of_getElem? (i := 470) (by decide +kernel)⟩
theorem lw_p23 : lw_okq (⟨"IslandReserve$Fleet", "burnFuel", "([I)V"⟩, 8) := ⟨⟨by decide +kernel, by decide +kernel⟩, List.mem_of_getElem? (i := 31) (by decide +kernel), List.mem_of_getElem? (i := 477) (by decide +kernel), List.mem_of_getElem? (i := 478) (by decide +kernel)⟩
theorem lw_p24 : lw_okq (⟨"IslandReserve$Island", "changeWarmth", "()V"⟩, 7) := ⟨⟨by decide +kernel, by decide +kernel⟩, List.mem_of_getElem? (i := 25) (by decide +kernel), List.mem_of_getElem? (i := 481) (by decide +kernel), List.mem_of_getElem? (i := 482) (by decide +kernel)⟩
def lw_privs_2 : List (MethodName × Nat) := [(⟨"IslandReserve$Fleet", "begin", "(I)V"⟩, 8), (⟨"IslandReserve$Fleet", "isInUse", "(I)Z"⟩, 8), (⟨"IslandReserve$Fleet", "become", "(II)V"⟩, 8), (⟨"IslandReserve$Island", "hasStill", "(I)Z"⟩, 7), (⟨"IslandReserve$Island", "letHoursGoBy", "(ILIslandReserve$Sharing;)V"⟩, 7), (⟨"IslandReserve$Island", "letAnHourGoBy", "(LIslandReserve$Sharing;)V"⟩, 7), (⟨"IslandReserve$Fleet", "warmUpAnHour", "()V"⟩, 8), (⟨"IslandReserve$Fleet", "burnFuel", "([I)V"⟩, 8), (⟨"IslandReserve$Island", "changeWarmth", "()V"⟩, 7)]
theorem lw_r2 : ∀ q ∈ lw_privs_2, lw_okq q := List.forall_mem_cons.mpr ⟨lw_p16, List.forall_mem_cons.mpr ⟨lw_p17, List.forall_mem_cons.mpr ⟨lw_p18, List.forall_mem_cons.mpr ⟨lw_p19, List.forall_mem_cons.mpr ⟨lw_p20, List.forall_mem_cons.mpr ⟨lw_p21, List.forall_mem_cons.mpr ⟨lw_p22, List.forall_mem_cons.mpr ⟨lw_p23, List.forall_mem_cons.mpr ⟨lw_p24, fun _ h => absurd h List.not_mem_nil⟩⟩⟩⟩⟩⟩⟩⟩⟩
def lw_privs : List (MethodName × Nat) := lw_privs_1 ++ (lw_privs_2)
def lw_tbl : List Cond := k2_sels lw_privs ++ tables_1
theorem lw_privs_ok : ∀ q ∈ lw_privs, lw_okq q := by
  show ∀ q ∈ lw_privs_1 ++ (lw_privs_2), lw_okq q
  exact List.forall_mem_append.mpr ⟨lw_r1, lw_r2⟩
/-- the streams that the claim lets the run draw from -/
abbrev lw_cs : List Choice := [Jvm.Choice.named "NaN.bits"]
theorem lw_bits : nanBits ∈ lw_cs := by first | decide | exact List.mem_cons_self | simp [lw_cs, nanBits]

/-! ===== BEGIN words of one list among another's, by their places ===== -/
theorem goodIn_r {big : List Cond} (ws : List Cond) (ps : List Nat) (hp : ws = ps.filterMap (fun i => big[i]?)) (h : ws.all goodWord = true) : GoodIn big ws := by
  intro w hw
  have h1 := List.all_eq_true.mp h w hw
  rw [hp] at hw
  obtain ⟨i, -, hi⟩ := List.mem_filterMap.mp hw
  have hm : w ∈ big := by first | exact List.mem_of_getElem? hi | exact List.getElem?_mem hi
  exact ⟨hm, good_of_word h1⟩
theorem goodIn_app {big a b : List Cond} (ha : GoodIn big a) (hb : GoodIn big b) : GoodIn big (a ++ b) := fun w h => (List.mem_append.mp h).elim (ha w) (hb w)
theorem goodIn_ca {big a b : List Cond} {c : Cond} (ha : GoodIn big (c :: a)) (hb : GoodIn big b) : GoodIn big (c :: (a ++ b)) := fun w h => (List.mem_cons.mp h).elim (fun e => ha w (List.mem_cons.mpr (Or.inl e))) (fun h => (List.mem_append.mp h).elim (fun h => ha w (List.mem_cons.mpr (Or.inr h))) (hb w))
theorem goodIn_sub {big ws : List Cond} (hm : ∀ w ∈ ws, w ∈ big) (h : ws.all goodWord = true) : GoodIn big ws := fun w hw => ⟨hm w hw, good_of_word (List.all_eq_true.mp h w hw)⟩
/-! ===== END ===== -/
/-! ===== BEGIN exceptions that leave a method, and their catching by the caller (launches without stack traces) ===== -/
section VXA
/-! The laws vx_back, vx_callV, vx_callS, vx_callSW, vx_throw0, vx_throwS follow proofs of the library, with one case more: JvmDerived/Free/Laws.lean (Back.of_free), Shelf42/LK1.lean (callV, callS), Shelf/KitTraced.lean (throwNew0V, throwNewS). -/
/-- where a method has thrown q: the class by its name, the cell, what was written, the world -/
def vx_T (XC : String → State → State → Prop) (st : State) (q : Addr) (t : State) (mc ms : Nat) (free : Addr → Prop) : Prop :=
  ∃ (E : String) (ce : Cell) (L : List Loc), XC E st t ∧ t.heap[q]? = some ce ∧ ce.vm = .none ∧ st.vm.findClass E = some ce.cls ∧ st.WarmedH t.vm ∧ st.sameButNew ({ t with vm := st.vm } : State) L mc ms ∧ ∀ z ∈ L, free z.base
def vx_Q (Qc : Array Value → State → Outcome → State → Prop) (XC : String → State → State → Prop) (mc ms : Nat) (free : Addr → Prop) : Array Value → State → Outcome → State → Prop := fun a st o t =>
  (Qc a st o t ∧ ∃ L, FrameEnd st o t L mc ms ∧ ∀ q ∈ L, free q.base) ∨ ∃ q, o = .threw q ∧ vx_T XC st q t mc ms free
/-- a callee that returns or throws -/
def vx_Met (l : Launch) (y : MethodName) (ws : List Cond) (rm : Room) (Pc : Array Value → State → Prop) (Qc : Array Value → State → Outcome → State → Prop) (XC : String → State → State → Prop) (mc ms : Nat) (free : Addr → Prop) : Prop :=
  MetFree l y (headSpec ws rm) Pc (fun _ _ _ _ _ => True) (vx_Q Qc XC mc ms free)
def vx_Post (XC : String → State → State → Prop) (mc ms : Nat) (free : Addr → Prop) : Pt → Array Value → Addr → Pt → Prop := fun A a q B =>
  ∃ (g : JFrame) (mk : MethodId) (t : State) (L : List Loc) (E : String) (ce : Cell), B.U.heap = t.heap ∧ B.U.vm = t.vm ∧ XC E (A.U.calling g mk a) t ∧ t.heap[q]? = some ce ∧ ce.vm = .none ∧ A.U.vm.findClass E = some ce.cls ∧ B.locs = A.locs ++ L ∧ (∀ z ∈ L, free z.base) ∧ B.cells = A.cells + mc ∧ B.slots = A.slots + ms
def vx_Back (l : Launch) (R : Room) (p : Program) (e : Env) (below : List Frame) (s : State) (sargs : Array Value) (y : MethodName) (len W9 : Nat)
    (Pre : Pt → Array Value → Prop) (Post : Pt → Array Value → Option Value → Pt → Prop) (PostX : Pt → Array Value → Addr → Pt → Prop) : Prop :=
  ∀ (m : MethodId) (meth : Method) (c : Code) (A : Pt) (g : JFrame) (ig : Instr) (mk : MethodId) (a : Array Value),
    Stand p l e R s m sargs below meth c A.U A.locs A.cells A.slots → g.method = m → g.locals.size = c.maxLocals → decode c.code g.pc = .ok (ig, len) →
    2 * g.monitorRoom + (g.stack.map fun v => v.category).sum ≤ W9 → A.U.methodNamed? y = some mk → Pre A a →
    (∃ (v : Option Value) (B : Pt), Stand p l e R s m sargs below meth c B.U B.locs B.cells B.slots ∧ Post A a v B ∧
      Steps p.tables e below (doInvoke e (A.U.setTop g) [] mk a).1 (B.U.setTop { g with pc := g.pc + len, stack := v.toList ++ g.stack })) ∨
    (∃ (q : Addr) (B : Pt), Stand p l e R s m sargs below meth c B.U B.locs B.cells B.slots ∧ PostX A a q B ∧
      Steps p.tables e below (doInvoke e (A.U.setTop g) [] mk a).1 ((B.U.setTop g).pushFrame (.throwing q)))
section Payer
variable {l : Launch} {R : Room} {p : Program} {e : Env} {below : List Frame} {s : State} {sargs : Array Value} {y : MethodName} {len W9 : Nat}
theorem vx_back {ws : List Cond} {rm : Room} {Pc : Array Value → State → Prop} {Qc : Array Value → State → Outcome → State → Prop} {XC : String → State → State → Prop} {mc ms : Nat} {free : Addr → Prop} {bytes : ByteArray} {maxL : Nat} {ret : Option FieldType}
    (hM : vx_Met l y ws rm Pc Qc XC mc ms free) (hblind : FrameBlind Pc) (hrc : rm.cells = mc) (hrs : rm.slots = ms)
    (hframes : rm.frames + 1 ≤ R.frames) (hlocals : W9 + (maxL + 11) + rm.locals ≤ R.locals)
    (hws : ∀ w ∈ ws, ∀ a' U, s.WarmedH U.vm → w.before a' U = true) (hcode : Cond.code y bytes maxL ret ∈ ws) (hinit : ∀ a' U, s.WarmedH U.vm → (Cond.initialized y.cls).before a' U = true) :
    vx_Back l R p e below s sargs y len W9 (PreOf R mc ms Pc) (PostOf Qc mc ms free) (vx_Post XC mc ms free) := by
  intro m meth c A g ig mk a X hg hsize hdg hW hn hp
  have h1 : (headSpec ws rm).pre.before a A.U = true := atoms_intro fun w hw => hws w hw _ _ X.warmed
  have h2 : (Cond.code y bytes maxL ret).before a A.U = true := hws _ hcode _ _ X.warmed
  have h3 : (Cond.initialized y.cls).before a A.U = true := hinit _ _ X.warmed
  have h4 : A.cells + (headSpec ws rm).room.cells ≤ R.cells := by rw [show (headSpec ws rm).room.cells = mc from hrc]; exact hp.1
  have h5 : A.slots + (headSpec ws rm).room.slots ≤ R.slots := by rw [show (headSpec ws rm).room.slots = ms from hrs]; exact hp.2.1
  have hPc : Pc a (A.U.calling g mk a) := hblind _ _ _ _ hp.2.2
  obtain ⟨U, Ls, c0, s0⟩ := A
  dsimp only [Pt.U, Pt.locs, Pt.cells, Pt.slots] at h1 h2 h3 h4 h5 X hn hPc ⊢
  obtain ⟨methY, cY, hmY, hcY, -, hlY, -, -, -, -⟩ := Cond.code_spec hn h2
  obtain ⟨kY, hkY, -⟩ := className_of_methodNamed hn
  have hinitY : kY.init = .initialized := Cond.initialized_spec (findClass_of_methodNamed hn) hkY h3
  have h : At U g.method c below := by rw [hg]; exact X.here
  have hlocals9 : W9 + (maxL + 11) + (headSpec ws rm).room.locals ≤ R.locals := hlocals
  have happ : (headSpec ws rm).appliesLoose y e.platform (U.calling g mk a) = true :=
    Spec.appliesLoose_calling (g := g) h hdg hn hkY hinitY
      (X.room_calling (g := g) (R' := (headSpec ws rm).room) hsize hmY hcY hframes (by rw [hlY]; omega) h4 h5) h1
  obtain ⟨mid, hmid⟩ := h.above
  have hfr : (U.setTop g).frames = (.java g :: mid) ++ below := by rw [State.frames_setTop' g h.top, hmid]; rfl
  obtain ⟨o, s₂, hsteps, -, hend, hq⟩ := Steps.callFree hM p X.admits X.cas X.clock (acts := []) hfr happ hPc trivial
  have hq' : vx_Q Qc XC mc ms free a (U.calling g mk a) o s₂ := hq
  rw [State.frames_setTop' g h.top] at hend
  obtain ⟨g₀, hg0⟩ := Option.isSome_iff_exists.mp h.top
  obtain ⟨r, hr⟩ := State.topJava?_eq_some.mp hg0
  have hr' : (({ U with heap := s₂.heap, slotsUsed := s₂.slotsUsed } : State).setVm s₂.vm).frames = .java g₀ :: r := hr
  rcases hq' with ⟨hqc, L, hfe, hL⟩ | ⟨q, rfl, E, ce, L, hx, hce, hcv, hcl, hW₂, hsm, hL⟩
  · obtain ⟨⟨v, rfl⟩, hW₂, e2, q2, q3, q4, q5, q6⟩ := id hfe
    have e3 : s₂ = ({ (U.calling g mk a).setFrames s₂.frames with heap := s₂.heap, slotsUsed := s₂.slotsUsed } : State).setVm s₂.vm := by
      have : s₂ = ({ s₂ with vm := (U.calling g mk a).vm } : State).setVm s₂.vm := rfl
      rw [e2] at this
      exact this
    obtain ⟨c₂, i₂, len₂, hc₂, hd₂, hf₂⟩ := hend
    have hW' : U.WarmedH s₂.vm := hW₂
    have hcc : c₂ = c := by
      have h1 : s₂.code? g.method = U.code? g.method := by
        rw [State.code?_eq, State.code?_eq, hW'.alike.method?]
      exact Option.some.inj (hc₂.symm.trans (h1.trans h.code))
    subst hcc
    have hlen : len₂ = len := by rw [hdg] at hd₂; cases hd₂; rfl
    subst hlen
    have hs₂ : s₂ = (({ U with heap := s₂.heap, slotsUsed := s₂.slotsUsed } : State).setVm s₂.vm).setTop { g with pc := g.pc + len₂, stack := v.toList ++ g.stack } := by
      refine e3.trans ?_
      rw [hf₂, State.calling_eq h.top, State.setFrames_setFrames, State.setTop_of_frames _ hr', hr]
      rfl
    have hsame : U.sameButNew ({ U with heap := s₂.heap, slotsUsed := s₂.slotsUsed } : State) L mc ms := by
      refine ⟨?_, q2, q3, q4, q5, q6⟩
      obtain ⟨t, ht, -⟩ := State.frames_cons hr
      show ({ U with heap := s₂.heap, slotsUsed := s₂.slotsUsed } : State) = { U.setFrames U.frames with heap := s₂.heap, slotsUsed := s₂.slotsUsed }
      rw [State.setFrames_self ht]
    subst hg
    refine Or.inl ⟨v, ⟨(({ U with heap := s₂.heap, slotsUsed := s₂.slotsUsed } : State).setVm s₂.vm), Ls ++ L, c0 + mc, s0 + ms⟩,
      ⟨X.admits, X.cas, X.clock, X.frames, X.room, X.hears, X.method, X.code, (X.here.setHeapUsed s₂.heap s₂.slotsUsed).setVm hW'.alike, X.tail, State.WarmedH.trans X.warmed hW', X.limits, X.bytes, X.same.trans (hsame.setVm s.vm)⟩,
      ⟨g, mk, s₂, L, rfl, rfl, hqc, rfl, hL, rfl, rfl⟩, ?_⟩
    show Steps p.tables e below _ ((({ U with heap := s₂.heap, slotsUsed := s₂.slotsUsed } : State).setVm s₂.vm).setTop { g with pc := g.pc + len₂, stack := v.toList ++ g.stack })
    rw [← hs₂]
    exact hsteps
  · obtain ⟨e2, q2, q3, q4, q5, q6⟩ := id hsm
    have e3 : s₂ = ({ (U.calling g mk a).setFrames s₂.frames with heap := s₂.heap, slotsUsed := s₂.slotsUsed } : State).setVm s₂.vm := by
      have : s₂ = ({ s₂ with vm := (U.calling g mk a).vm } : State).setVm s₂.vm := rfl
      rw [e2] at this
      exact this
    have hf₂ : s₂.frames = .throwing q :: .java g :: U.frames.tail := hend
    have hW' : U.WarmedH s₂.vm := hW₂
    have hs₂ : s₂ = ((({ U with heap := s₂.heap, slotsUsed := s₂.slotsUsed } : State).setVm s₂.vm).setTop g).pushFrame (.throwing q) := by
      refine e3.trans ?_
      rw [hf₂, State.calling_eq h.top, State.setFrames_setFrames, State.pushFrame, State.frames_setTop _ hr', State.setTop_of_frames _ hr', State.setFrames_setFrames, hr]
      rfl
    have hsame : U.sameButNew ({ U with heap := s₂.heap, slotsUsed := s₂.slotsUsed } : State) L mc ms := by
      refine ⟨?_, q2, q3, q4, q5, q6⟩
      obtain ⟨t, ht, -⟩ := State.frames_cons hr
      show ({ U with heap := s₂.heap, slotsUsed := s₂.slotsUsed } : State) = { U.setFrames U.frames with heap := s₂.heap, slotsUsed := s₂.slotsUsed }
      rw [State.setFrames_self ht]
    subst hg
    refine Or.inr ⟨q, ⟨(({ U with heap := s₂.heap, slotsUsed := s₂.slotsUsed } : State).setVm s₂.vm), Ls ++ L, c0 + mc, s0 + ms⟩,
      ⟨X.admits, X.cas, X.clock, X.frames, X.room, X.hears, X.method, X.code, (X.here.setHeapUsed s₂.heap s₂.slotsUsed).setVm hW'.alike, X.tail, State.WarmedH.trans X.warmed hW', X.limits, X.bytes, X.same.trans (hsame.setVm s.vm)⟩,
      ⟨g, mk, s₂, L, E, ce, rfl, rfl, hx, hce, hcv, hcl, rfl, hL, rfl, rfl⟩, ?_⟩
    show Steps p.tables e below _ (((({ U with heap := s₂.heap, slotsUsed := s₂.slotsUsed } : State).setVm s₂.vm).setTop g).pushFrame (.throwing q))
    rw [← hs₂]
    exact hsteps
end Payer
section Calls
variable {p : Program} {l : Launch} {e : Env} {R : Room} {s : State} {m : MethodId} {args : Array Value} {below : List Frame} {meth : Method} {c : Code} {T : State} {locs : List Loc} {cells slots : Nat}
theorem vx_callV (X : Stand p l e R s m args below meth c T locs cells slots) (hexec : p.tables.exec = Jvm.exec) {own C : String} {index : Nat} {y : MethodName} {bytes : ByteArray} {maxL : Nat} {ret : Option FieldType}
    (hown : s.vm.findClass own = some m.cls) (hlink : (Cond.methodLink own index y).before args s = true) (hinst : (Cond.instanceMethod y).before args s = true) (hsel : (Cond.selects C y y).before args s = true)
    (hcode : (Cond.code y bytes maxL ret).before args s = true) (hy : y.cls ≠ "java/lang/invoke/MethodHandle" ∧ y.cls ≠ "java/lang/invoke/VarHandle")
    {W9 : Nat} {Pre : Pt → Array Value → Prop} {Post : Pt → Array Value → Option Value → Pt → Prop} {PostX : Pt → Array Value → Addr → Pt → Prop} (hK : vx_Back l R p e below s args y 3 W9 Pre Post PostX)
    {b : Addr} {cellB : Cell} (hcell : T.heap[b]? = some cellB) (hobj : cellB.vm.isStatics = false) (hcls : s.vm.findClass C = some cellB.cls)
    {g : JFrame} (hg : g.method = m) (hsize : g.locals.size = c.maxLocals) {argsL rest : List Value} (hlen : ∀ sig, parseMethodDescriptor y.desc = some sig → argsL.length = sig.parameters.length)
    (hstack : g.stack = argsL.reverse ++ .ref b :: rest) (hW : 2 * g.monitorRoom + (rest.map fun v => v.category).sum ≤ W9) (hdg : decode c.code g.pc = .ok (.invokevirtual index, 3))
    (hpre : ∀ vm₁, s.WarmedH vm₁ → Pre ⟨T.setVm vm₁, locs, cells, slots⟩ (Value.ref b :: argsL).toArray) :
    (∃ (v : Option Value) (vm₁ : Vm) (B : Pt), s.WarmedH vm₁ ∧ Stand p l e R s m args below meth c B.U B.locs B.cells B.slots ∧ Post ⟨T.setVm vm₁, locs, cells, slots⟩ (Value.ref b :: argsL).toArray v B ∧
      ∀ target, Steps p.tables e below (B.U.setTop { g with pc := g.pc + 3, stack := v.toList ++ rest }) target → Steps p.tables e below (T.setTop g) target) ∨
    (∃ (q : Addr) (vm₁ : Vm) (B : Pt), s.WarmedH vm₁ ∧ Stand p l e R s m args below meth c B.U B.locs B.cells B.slots ∧ PostX ⟨T.setVm vm₁, locs, cells, slots⟩ (Value.ref b :: argsL).toArray q B ∧
      Steps p.tables e below (T.setTop g) ((B.U.setTop { g with stack := rest }).pushFrame (.throwing q))) := by
  obtain ⟨mk, methM, hnamed, hmethM, hstM, habM⟩ := Cond.instanceMethod_spec hinst
  obtain ⟨methM', cM, hmethM', -, -, -, -, -, -, hsigM⟩ := Cond.code_spec hnamed hcode
  cases hmethM.symm.trans hmethM'
  obtain ⟨c2, r2, m2, q1, q2, q3, q4, kP, hkP, hkPi⟩ := Cond.selects_spec hsel
  cases hcls.symm.trans q1
  cases (State.methodFound?_of_named hnamed hy).symm.trans q2
  cases hnamed.symm.trans q3
  have hselP : selectMethod e.platform s.vm cellB.cls mk = .method mk := by rw [Launch.admits_selectMethod X.admits]; exact q4
  obtain ⟨vm₁, X₁, hstep₁⟩ := X.invokevirtual hexec hown hlink hnamed hmethM hstM hkP hkPi hy (a := b) (cell := cellB) hcell
    (fun z h => by rw [h] at hobj; cases hobj) hselP hmethM habM hkP hkPi (g := g) hg (argsL := argsL) (rest := rest) (hlen _ hsigM) hstack hdg
  rcases hK m meth c ⟨T.setVm vm₁, locs, cells, slots⟩ { g with stack := rest } (.invokevirtual index) mk (Value.ref b :: argsL).toArray X₁ hg hsize hdg hW (X₁.named hnamed) (hpre vm₁ X₁.warmed) with ⟨v, B, X', hpost, hsteps⟩ | ⟨q, B, X', hpost, hsteps⟩
  · exact Or.inl ⟨v, vm₁, B, X₁.warmed, X', hpost, fun target h => hstep₁ _ fun acts => by rw [doInvoke_state]; exact hsteps.trans h⟩
  · exact Or.inr ⟨q, vm₁, B, X₁.warmed, X', hpost, hstep₁ _ fun acts => by rw [doInvoke_state]; exact hsteps⟩
theorem vx_callS (X : Stand p l e R s m args below meth c T locs cells slots) (hexec : p.tables.exec = Jvm.exec) {own : String} {index : Nat} {y : MethodName} {bytes : ByteArray} {maxL : Nat} {ret : Option FieldType}
    (hown : s.vm.findClass own = some m.cls) (hlink : (Cond.methodLink own index y).before args s = true) (hstat : (Cond.static y).before args s = true) (hinit : (Cond.initialized y.cls).before args s = true)
    (hcode : (Cond.code y bytes maxL ret).before args s = true) (hy : y.cls ≠ "java/lang/invoke/MethodHandle" ∧ y.cls ≠ "java/lang/invoke/VarHandle")
    {W9 : Nat} {Pre : Pt → Array Value → Prop} {Post : Pt → Array Value → Option Value → Pt → Prop} {PostX : Pt → Array Value → Addr → Pt → Prop} (hK : vx_Back l R p e below s args y 3 W9 Pre Post PostX)
    {g : JFrame} (hg : g.method = m) (hsize : g.locals.size = c.maxLocals) {argsL rest : List Value} (hlen : ∀ sig, parseMethodDescriptor y.desc = some sig → argsL.length = sig.parameters.length)
    (hstack : g.stack = argsL.reverse ++ rest) (hW : 2 * g.monitorRoom + (rest.map fun v => v.category).sum ≤ W9) (hdg : decode c.code g.pc = .ok (.invokestatic index, 3))
    (hpre : ∀ vm₁, s.WarmedH vm₁ → Pre ⟨T.setVm vm₁, locs, cells, slots⟩ argsL.toArray) :
    (∃ (v : Option Value) (vm₁ : Vm) (B : Pt), s.WarmedH vm₁ ∧ Stand p l e R s m args below meth c B.U B.locs B.cells B.slots ∧ Post ⟨T.setVm vm₁, locs, cells, slots⟩ argsL.toArray v B ∧
      ∀ target, Steps p.tables e below (B.U.setTop { g with pc := g.pc + 3, stack := v.toList ++ rest }) target → Steps p.tables e below (T.setTop g) target) ∨
    (∃ (q : Addr) (vm₁ : Vm) (B : Pt), s.WarmedH vm₁ ∧ Stand p l e R s m args below meth c B.U B.locs B.cells B.slots ∧ PostX ⟨T.setVm vm₁, locs, cells, slots⟩ argsL.toArray q B ∧
      Steps p.tables e below (T.setTop g) ((B.U.setTop { g with stack := rest }).pushFrame (.throwing q))) := by
  obtain ⟨mk, hnamed⟩ := Cond.code_named hcode
  obtain ⟨methM, cM, hmethM, -, -, -, -, -, -, hsigM⟩ := Cond.code_spec hnamed hcode
  have hstatic : methM.isStatic = true := Cond.static_spec hnamed hmethM hstat
  obtain ⟨kP, hkP, -⟩ := className_of_methodNamed hnamed
  have hinitP : kP.init = .initialized := Cond.initialized_spec (findClass_of_methodNamed hnamed) hkP hinit
  obtain ⟨vm₁, X₁, hstep₁⟩ := X.invokestatic hexec hown hlink hnamed hmethM hstatic hkP hinitP hy (g := g) hg (argsL := argsL) (rest := rest) (hlen _ hsigM) hstack hdg
  rcases hK m meth c ⟨T.setVm vm₁, locs, cells, slots⟩ { g with stack := rest } (.invokestatic index) mk argsL.toArray X₁ hg hsize hdg hW (X₁.named hnamed) (hpre vm₁ X₁.warmed) with ⟨v, B, X', hpost, hsteps⟩ | ⟨q, B, X', hpost, hsteps⟩
  · exact Or.inl ⟨v, vm₁, B, X₁.warmed, X', hpost, fun target h => hstep₁ _ fun acts => by rw [doInvoke_state]; exact hsteps.trans h⟩
  · exact Or.inr ⟨q, vm₁, B, X₁.warmed, X', hpost, hstep₁ _ fun acts => by rw [doInvoke_state]; exact hsteps⟩
end Calls
theorem vx_cls {s : State} {T : State} {vm₁ : Vm} {E : String} {k : ClassId} (hW : s.WarmedH vm₁) (h : (T.setVm vm₁).vm.findClass E = some k) : s.vm.findClass E = some k := by
  have h1 : vm₁.findClass E = some k := h
  rw [hW.alike.findClass] at h1
  exact h1
/-- the method's frame g, with q thrown over it -/
def vx_W (p : Program) (l : Launch) (e : Env) (R : Room) (s : State) (m : MethodId) (args : Array Value) (below : List Frame) (meth : Method) (c : Code) (H : Heap) (locs : List Loc) (cells slots : Nat) (Q : State → Prop) (g : JFrame) (q : Addr) : Prop :=
  ∀ T : State, T.heap = H → Stand p l e R s m args below meth c T locs cells slots → ∃ t, Steps p.tables e below ((T.setTop g).pushFrame (.throwing q)) t ∧ Q t
def vx_Run (p : Program) (l : Launch) (e : Env) (R : Room) (s : State) (m : MethodId) (args : Array Value) (below : List Frame) (meth : Method) (c : Code) (H : Heap) (locs : List Loc) (cells slots mc ms : Nat) (g : JFrame) (rest : List Value) (Qa : State → Outcome → State → Prop) (XC : String → State → State → Prop) (free : Addr → Prop) : Prop :=
  ∀ T : State, T.heap = H → Stand p l e R s m args below meth c T locs cells slots →
    (∃ (v : Option Value) (st₀ t T' : State) (L : List Loc), st₀.heap = H ∧ Stand p l e R s m args below meth c T' (locs ++ L) (cells + mc) (slots + ms) ∧ (∀ q ∈ L, free q.base) ∧ T'.heap = t.heap ∧ T'.vm = t.vm ∧ Qa st₀ (.returned v) t ∧
      Goes p e below T g T' { g with pc := g.pc + 3, stack := v.toList ++ rest }) ∨
    (∃ (q : Addr) (st₀ t T' : State) (L : List Loc) (E : String) (ce : Cell), st₀.heap = H ∧ Stand p l e R s m args below meth c T' (locs ++ L) (cells + mc) (slots + ms) ∧ (∀ z ∈ L, free z.base) ∧ T'.heap = t.heap ∧ T'.vm = t.vm ∧ XC E st₀ t ∧ t.heap[q]? = some ce ∧ ce.vm = .none ∧ s.vm.findClass E = some ce.cls ∧
      Steps p.tables e below (T.setTop g) ((T'.setTop { g with stack := rest }).pushFrame (.throwing q)))
def vx_X {S : Type} (px : S → Prop) (B : String → S → State → Prop) (A : Nat → Prop) : String → State → State → Prop := fun E st t => ∃ u : S, px u ∧ B E u t ∧ va_F A st t
section Runs
variable {p : Program} {l : Launch} {e : Env} {R : Room} {s : State} {m : MethodId} {args : Array Value} {below : List Frame} {meth : Method} {c : Code} {H : Heap} {locs : List Loc} {cells slots : Nat}
variable {y : MethodName} {bytes cc : ByteArray} {maxL nL mc ms n index : Nat} {ret : Option FieldType} {ws : List Cond} {rm : Room} {Pc : Array Value → State → Prop} {Qc : Array Value → State → Outcome → State → Prop} {XC : String → State → State → Prop} {free : Addr → Prop} {Ts : List Cond} {own C : String} {b : Addr} {As rest : List Value} {g : JFrame}
theorem vx_callBack (cb : CallB R s args own index y bytes maxL ret ws rm mc ms n) (hM : vx_Met l y ws rm Pc Qc XC mc ms free) (hbl : FrameBlind Pc) : vx_Back l R p e below s args y 3 8 (PreOf R mc ms Pc) (PostOf Qc mc ms free) (vx_Post XC mc ms free) := by
  obtain ⟨hrc, hrs, hfr, hlo, hws, hcw, -, hini, -⟩ := cb
  exact vx_back (bytes := bytes) (maxL := maxL) (ret := ret) hM hbl hrc hrs hfr hlo hws hcw (fun a' U hW => word_at hW (Or.inl (by first | rfl | simp [Cond.onTables, Cond.keeps, Cond.steady])) hini)
theorem vx_runV (S : CallFix p m c cc nL s args Ts own) (hM : vx_Met l y ws rm Pc Qc XC mc ms free) (cw : CallW R s args own C index y bytes maxL ret ws rm mc ms n) (hp : PreV s H C b Pc As)
    (hg : g.method = m) (hn : As.length = n) (hsize : g.locals.size = nL) (hstack : g.stack = As.reverse ++ .ref b :: rest) (hW : 2 * g.monitorRoom + (rest.map fun v => v.category).sum ≤ 8) (hdg : decode cc g.pc = .ok (.invokevirtual index, 3)) (hf : cells + mc ≤ R.cells ∧ slots + ms ≤ R.slots) :
    vx_Run p l e R s m args below meth c H locs cells slots mc ms g rest (Qc (Value.ref b :: As).toArray) XC free := by
  have hK : vx_Back l R p e below s args y 3 8 (PreOf R mc ms Pc) (PostOf Qc mc ms free) (vx_Post XC mc ms free) := vx_callBack cw.1 hM hp.1
  obtain ⟨⟨-, -, -, -, -, -, hcode, -, hy, hlen, hl⟩, hin, hse⟩ := cw
  obtain ⟨hx, hb, hml, ho, -⟩ := S
  obtain ⟨-, ⟨cellB, hcB, hoB, hclB⟩, hPc⟩ := hp
  intro T hT X
  rcases vx_callV X hx (C := C) (bytes := bytes) (maxL := maxL) (ret := ret) ho hl hin hse hcode hy hK (by rw [hT]; exact hcB) hoB hclB hg (hsize.trans hml.symm) (argsL := As) (rest := rest) (fun sig h => hn.trans (hlen sig h)) hstack hW (by rw [hb]; exact hdg)
    (fun vm₁ hW₁ => ⟨hf.1, hf.2, hPc (T.setVm vm₁) hT hW₁⟩) with ⟨v, vm₁, ⟨U', l2, c2, s2⟩, hW₁, X', ⟨g', mk, t, L, e1, e2, hq, h1, hL, h2, h3⟩, st⟩ | ⟨q, vm₁, ⟨U', l2, c2, s2⟩, hW₁, X', ⟨g', mk, t, L, E, ce, e1, e2, hq, hce, hcv, hcl, h1, hL, h2, h3⟩, st⟩
  · dsimp only [Pt.U, Pt.locs, Pt.cells, Pt.slots] at X' e1 e2 h1 h2 h3 st
    subst h1; subst h2; subst h3
    exact Or.inl ⟨v, (T.setVm vm₁).calling g' mk (Value.ref b :: As).toArray, t, U', L, hT, X', hL, e1, e2, hq, st⟩
  · dsimp only [Pt.U, Pt.locs, Pt.cells, Pt.slots] at X' e1 e2 h1 h2 h3 st hcl
    subst h1; subst h2; subst h3
    exact Or.inr ⟨q, (T.setVm vm₁).calling g' mk (Value.ref b :: As).toArray, t, U', L, E, ce, hT, X', hL, e1, e2, hq, hce, hcv, vx_cls hW₁ hcl, st⟩
theorem vx_runS (S : CallFix p m c cc nL s args Ts own) (hM : vx_Met l y ws rm Pc Qc XC mc ms free) (cw : CallB R s args own index y bytes maxL ret ws rm mc ms n ∧ (Cond.static y).before args s = true) (hp : PreS s H Pc As)
    (hg : g.method = m) (hn : As.length = n) (hsize : g.locals.size = nL) (hstack : g.stack = As.reverse ++ rest) (hW : 2 * g.monitorRoom + (rest.map fun v => v.category).sum ≤ 8) (hdg : decode cc g.pc = .ok (.invokestatic index, 3)) (hf : cells + mc ≤ R.cells ∧ slots + ms ≤ R.slots) :
    vx_Run p l e R s m args below meth c H locs cells slots mc ms g rest (Qc As.toArray) XC free := by
  have hK : vx_Back l R p e below s args y 3 8 (PreOf R mc ms Pc) (PostOf Qc mc ms free) (vx_Post XC mc ms free) := vx_callBack cw.1 hM hp.1
  obtain ⟨⟨-, -, -, -, -, -, hcode, hini, hy, hlen, hl⟩, hstt⟩ := cw
  obtain ⟨hx, hb, hml, ho, -⟩ := S
  intro T hT X
  rcases vx_callS X hx (bytes := bytes) (maxL := maxL) (ret := ret) ho hl hstt hini hcode hy hK hg (hsize.trans hml.symm) (argsL := As) (rest := rest) (fun sig h => hn.trans (hlen sig h)) hstack hW (by rw [hb]; exact hdg)
    (fun vm₁ hW₁ => ⟨hf.1, hf.2, hp.2 (T.setVm vm₁) hT hW₁⟩) with ⟨v, vm₁, ⟨U', l2, c2, s2⟩, hW₁, X', ⟨g', mk, t, L, e1, e2, hq, h1, hL, h2, h3⟩, st⟩ | ⟨q, vm₁, ⟨U', l2, c2, s2⟩, hW₁, X', ⟨g', mk, t, L, E, ce, e1, e2, hq, hce, hcv, hcl, h1, hL, h2, h3⟩, st⟩
  · dsimp only [Pt.U, Pt.locs, Pt.cells, Pt.slots] at X' e1 e2 h1 h2 h3 st
    subst h1; subst h2; subst h3
    exact Or.inl ⟨v, (T.setVm vm₁).calling g' mk As.toArray, t, U', L, hT, X', hL, e1, e2, hq, st⟩
  · dsimp only [Pt.U, Pt.locs, Pt.cells, Pt.slots] at X' e1 e2 h1 h2 h3 st hcl
    subst h1; subst h2; subst h3
    exact Or.inr ⟨q, (T.setVm vm₁).calling g' mk As.toArray, t, U', L, E, ce, hT, X', hL, e1, e2, hq, hce, hcv, vx_cls hW₁ hcl, st⟩
end Runs
section Rows
variable {p : Program} {l : Launch} {e : Env} {R : Room} {s : State} {m : MethodId} {args : Array Value} {below : List Frame} {meth : Method} {c : Code} {H : Heap} {locs : List Loc} {cells slots : Nat} {Q : State → Prop}
variable {mc ms : Nat} {free : Addr → Prop} {A0 A1 : Nat → Prop} {H0 : Heap} {a : Array Value} {pc : Nat} {ls : Array Slot} {st0 rest : List Value}
theorem vx_keep {st₀ t T' : State} {L : List Loc} (h0 : st₀.heap = H) (e1 : T'.heap = t.heap) (hS : va_S A0 H0 H locs) (hA : ∀ q, q < H.size → A1 q → A0 q) (hf : ∀ q, free q → A0 q) (hL : ∀ q ∈ L, free q.base) (hF : va_F A1 st₀ t) :
    H.size ≤ T'.heap.size ∧ (∀ q : Nat, q < H.size → ¬ A1 q → T'.heap[q]? = H[q]?) ∧ va_S A0 H0 T'.heap (locs ++ L) := by
  obtain ⟨hz, hk⟩ := hF
  rw [h0] at hz hk
  exact ⟨by rw [e1]; exact hz, fun q h1 h2 => by rw [e1]; exact hk q h1 h2,
    ⟨Nat.le_trans hS.1 (by rw [e1]; exact hz), fun q h1 h2 => by rw [e1, hk q (Nat.lt_of_lt_of_le h1 hS.1) (fun z => h2 (hA q (Nat.lt_of_lt_of_le h1 hS.1) z))]; exact hS.2.1 q h1 h2, fun q hq => by
      rcases List.mem_append.mp hq with h | h
      · exact hS.2.2 q h
      · exact hf _ (hL q h)⟩⟩
theorem vx_calli {S SX : Type} {post : Int32 → S → Prop} {px : SX → Prop} {B : S → State → Prop} {BX : String → SX → State → Prop} {AX : Nat → Prop} (hr : vx_Run p l e R s m args below meth c H locs cells slots mc ms (F0 m pc ls st0) rest (va_Qi post B A1 a) (vx_X px BX AX) free) (hS : va_S A0 H0 H locs) (hA : ∀ q, q < H.size → A1 q → A0 q) (hf : ∀ q, free q → A0 q) (hAX : ∀ q, q < H.size → AX q → A0 q)
    (kx : ∀ (E : String) (ce : Cell) (q9 : Addr) (u : SX) (t : State) (H1 : Heap) (locs1 : List Loc), t.heap = H1 → s.vm.Alike t.vm → px u → BX E u t → H.size ≤ H1.size → (∀ q : Nat, q < H.size → ¬ AX q → H1[q]? = H[q]?) → va_S A0 H0 H1 locs1 → H1[q9]? = some ce → ce.vm = .none → s.vm.findClass E = some ce.cls → vx_W p l e R s m args below meth c H1 locs1 (cells + mc) (slots + ms) Q (F0 m pc ls rest) q9)
    (kk : ∀ (r : Int32) (u : S) (t : State) (H1 : Heap) (locs1 : List Loc), t.heap = H1 → s.vm.Alike t.vm → post r u → B u t → H.size ≤ H1.size → (∀ q : Nat, q < H.size → ¬ A1 q → H1[q]? = H[q]?) → va_S A0 H0 H1 locs1 → W p l e R s m args below meth c H1 locs1 (cells + mc) (slots + ms) Q (F0 m (pc + 3) ls (.int r :: rest))) : W p l e R s m args below meth c H locs cells slots Q (F0 m pc ls st0) := by
  intro T hT X
  rcases hr T hT X with ⟨v, st₀, t, T', L, h0, X', hL, e1, e2, ⟨⟨r, u, hv, hp, hb⟩, hF⟩, st⟩ | ⟨q, st₀, t, T', L, E, ce, h0, X', hL, e1, e2, ⟨u, hp, hb, hF⟩, hce, hcv, hcl, st⟩
  · cases hv
    obtain ⟨k1, k2, k3⟩ := vx_keep h0 e1 hS hA hf hL hF
    obtain ⟨t2, a1, b1⟩ := kk r u t T'.heap (locs ++ L) e1.symm (by rw [← e2]; exact X'.warmed.alike) hp hb k1 k2 k3 T' rfl X'
    exact ⟨t2, st t2 a1, b1⟩
  · obtain ⟨k1, k2, k3⟩ := vx_keep h0 e1 hS hAX hf hL hF
    obtain ⟨t2, a1, b1⟩ := kx E ce q u t T'.heap (locs ++ L) e1.symm (by rw [← e2]; exact X'.warmed.alike) hp hb k1 k2 k3 (by rw [e1]; exact hce) hcv hcl T' rfl X'
    exact ⟨t2, st.trans a1, b1⟩
theorem vx_calll {S SX : Type} {post : Int64 → S → Prop} {px : SX → Prop} {B : S → State → Prop} {BX : String → SX → State → Prop} {AX : Nat → Prop} (hr : vx_Run p l e R s m args below meth c H locs cells slots mc ms (F0 m pc ls st0) rest (va_Ql post B A1 a) (vx_X px BX AX) free) (hS : va_S A0 H0 H locs) (hA : ∀ q, q < H.size → A1 q → A0 q) (hf : ∀ q, free q → A0 q) (hAX : ∀ q, q < H.size → AX q → A0 q)
    (kx : ∀ (E : String) (ce : Cell) (q9 : Addr) (u : SX) (t : State) (H1 : Heap) (locs1 : List Loc), t.heap = H1 → s.vm.Alike t.vm → px u → BX E u t → H.size ≤ H1.size → (∀ q : Nat, q < H.size → ¬ AX q → H1[q]? = H[q]?) → va_S A0 H0 H1 locs1 → H1[q9]? = some ce → ce.vm = .none → s.vm.findClass E = some ce.cls → vx_W p l e R s m args below meth c H1 locs1 (cells + mc) (slots + ms) Q (F0 m pc ls rest) q9)
    (kk : ∀ (r : Int64) (u : S) (t : State) (H1 : Heap) (locs1 : List Loc), t.heap = H1 → s.vm.Alike t.vm → post r u → B u t → H.size ≤ H1.size → (∀ q : Nat, q < H.size → ¬ A1 q → H1[q]? = H[q]?) → va_S A0 H0 H1 locs1 → W p l e R s m args below meth c H1 locs1 (cells + mc) (slots + ms) Q (F0 m (pc + 3) ls (.long r :: rest))) : W p l e R s m args below meth c H locs cells slots Q (F0 m pc ls st0) := by
  intro T hT X
  rcases hr T hT X with ⟨v, st₀, t, T', L, h0, X', hL, e1, e2, ⟨⟨r, u, hv, hp, hb⟩, hF⟩, st⟩ | ⟨q, st₀, t, T', L, E, ce, h0, X', hL, e1, e2, ⟨u, hp, hb, hF⟩, hce, hcv, hcl, st⟩
  · cases hv
    obtain ⟨k1, k2, k3⟩ := vx_keep h0 e1 hS hA hf hL hF
    obtain ⟨t2, a1, b1⟩ := kk r u t T'.heap (locs ++ L) e1.symm (by rw [← e2]; exact X'.warmed.alike) hp hb k1 k2 k3 T' rfl X'
    exact ⟨t2, st t2 a1, b1⟩
  · obtain ⟨k1, k2, k3⟩ := vx_keep h0 e1 hS hAX hf hL hF
    obtain ⟨t2, a1, b1⟩ := kx E ce q u t T'.heap (locs ++ L) e1.symm (by rw [← e2]; exact X'.warmed.alike) hp hb k1 k2 k3 (by rw [e1]; exact hce) hcv hcl T' rfl X'
    exact ⟨t2, st.trans a1, b1⟩
theorem vx_callf {S SX : Type} {post : UInt32 → S → Prop} {px : SX → Prop} {B : S → State → Prop} {BX : String → SX → State → Prop} {AX : Nat → Prop} (hr : vx_Run p l e R s m args below meth c H locs cells slots mc ms (F0 m pc ls st0) rest (va_Qf post B A1 a) (vx_X px BX AX) free) (hS : va_S A0 H0 H locs) (hA : ∀ q, q < H.size → A1 q → A0 q) (hf : ∀ q, free q → A0 q) (hAX : ∀ q, q < H.size → AX q → A0 q)
    (kx : ∀ (E : String) (ce : Cell) (q9 : Addr) (u : SX) (t : State) (H1 : Heap) (locs1 : List Loc), t.heap = H1 → s.vm.Alike t.vm → px u → BX E u t → H.size ≤ H1.size → (∀ q : Nat, q < H.size → ¬ AX q → H1[q]? = H[q]?) → va_S A0 H0 H1 locs1 → H1[q9]? = some ce → ce.vm = .none → s.vm.findClass E = some ce.cls → vx_W p l e R s m args below meth c H1 locs1 (cells + mc) (slots + ms) Q (F0 m pc ls rest) q9)
    (kk : ∀ (r : UInt32) (u : S) (t : State) (H1 : Heap) (locs1 : List Loc), t.heap = H1 → s.vm.Alike t.vm → post r u → B u t → H.size ≤ H1.size → (∀ q : Nat, q < H.size → ¬ A1 q → H1[q]? = H[q]?) → va_S A0 H0 H1 locs1 → W p l e R s m args below meth c H1 locs1 (cells + mc) (slots + ms) Q (F0 m (pc + 3) ls (.float r :: rest))) : W p l e R s m args below meth c H locs cells slots Q (F0 m pc ls st0) := by
  intro T hT X
  rcases hr T hT X with ⟨v, st₀, t, T', L, h0, X', hL, e1, e2, ⟨⟨r, u, hv, hp, hb⟩, hF⟩, st⟩ | ⟨q, st₀, t, T', L, E, ce, h0, X', hL, e1, e2, ⟨u, hp, hb, hF⟩, hce, hcv, hcl, st⟩
  · cases hv
    obtain ⟨k1, k2, k3⟩ := vx_keep h0 e1 hS hA hf hL hF
    obtain ⟨t2, a1, b1⟩ := kk r u t T'.heap (locs ++ L) e1.symm (by rw [← e2]; exact X'.warmed.alike) hp hb k1 k2 k3 T' rfl X'
    exact ⟨t2, st t2 a1, b1⟩
  · obtain ⟨k1, k2, k3⟩ := vx_keep h0 e1 hS hAX hf hL hF
    obtain ⟨t2, a1, b1⟩ := kx E ce q u t T'.heap (locs ++ L) e1.symm (by rw [← e2]; exact X'.warmed.alike) hp hb k1 k2 k3 (by rw [e1]; exact hce) hcv hcl T' rfl X'
    exact ⟨t2, st.trans a1, b1⟩
theorem vx_calld {S SX : Type} {post : UInt64 → S → Prop} {px : SX → Prop} {B : S → State → Prop} {BX : String → SX → State → Prop} {AX : Nat → Prop} (hr : vx_Run p l e R s m args below meth c H locs cells slots mc ms (F0 m pc ls st0) rest (va_Qd post B A1 a) (vx_X px BX AX) free) (hS : va_S A0 H0 H locs) (hA : ∀ q, q < H.size → A1 q → A0 q) (hf : ∀ q, free q → A0 q) (hAX : ∀ q, q < H.size → AX q → A0 q)
    (kx : ∀ (E : String) (ce : Cell) (q9 : Addr) (u : SX) (t : State) (H1 : Heap) (locs1 : List Loc), t.heap = H1 → s.vm.Alike t.vm → px u → BX E u t → H.size ≤ H1.size → (∀ q : Nat, q < H.size → ¬ AX q → H1[q]? = H[q]?) → va_S A0 H0 H1 locs1 → H1[q9]? = some ce → ce.vm = .none → s.vm.findClass E = some ce.cls → vx_W p l e R s m args below meth c H1 locs1 (cells + mc) (slots + ms) Q (F0 m pc ls rest) q9)
    (kk : ∀ (r : UInt64) (u : S) (t : State) (H1 : Heap) (locs1 : List Loc), t.heap = H1 → s.vm.Alike t.vm → post r u → B u t → H.size ≤ H1.size → (∀ q : Nat, q < H.size → ¬ A1 q → H1[q]? = H[q]?) → va_S A0 H0 H1 locs1 → W p l e R s m args below meth c H1 locs1 (cells + mc) (slots + ms) Q (F0 m (pc + 3) ls (.double r :: rest))) : W p l e R s m args below meth c H locs cells slots Q (F0 m pc ls st0) := by
  intro T hT X
  rcases hr T hT X with ⟨v, st₀, t, T', L, h0, X', hL, e1, e2, ⟨⟨r, u, hv, hp, hb⟩, hF⟩, st⟩ | ⟨q, st₀, t, T', L, E, ce, h0, X', hL, e1, e2, ⟨u, hp, hb, hF⟩, hce, hcv, hcl, st⟩
  · cases hv
    obtain ⟨k1, k2, k3⟩ := vx_keep h0 e1 hS hA hf hL hF
    obtain ⟨t2, a1, b1⟩ := kk r u t T'.heap (locs ++ L) e1.symm (by rw [← e2]; exact X'.warmed.alike) hp hb k1 k2 k3 T' rfl X'
    exact ⟨t2, st t2 a1, b1⟩
  · obtain ⟨k1, k2, k3⟩ := vx_keep h0 e1 hS hAX hf hL hF
    obtain ⟨t2, a1, b1⟩ := kx E ce q u t T'.heap (locs ++ L) e1.symm (by rw [← e2]; exact X'.warmed.alike) hp hb k1 k2 k3 (by rw [e1]; exact hce) hcv hcl T' rfl X'
    exact ⟨t2, st.trans a1, b1⟩
theorem vx_callv {S SX : Type} {post : S → Prop} {px : SX → Prop} {B : S → State → Prop} {BX : String → SX → State → Prop} {AX : Nat → Prop} (hr : vx_Run p l e R s m args below meth c H locs cells slots mc ms (F0 m pc ls st0) rest (va_Qv post B A1 a) (vx_X px BX AX) free) (hS : va_S A0 H0 H locs) (hA : ∀ q, q < H.size → A1 q → A0 q) (hf : ∀ q, free q → A0 q) (hAX : ∀ q, q < H.size → AX q → A0 q)
    (kx : ∀ (E : String) (ce : Cell) (q9 : Addr) (u : SX) (t : State) (H1 : Heap) (locs1 : List Loc), t.heap = H1 → s.vm.Alike t.vm → px u → BX E u t → H.size ≤ H1.size → (∀ q : Nat, q < H.size → ¬ AX q → H1[q]? = H[q]?) → va_S A0 H0 H1 locs1 → H1[q9]? = some ce → ce.vm = .none → s.vm.findClass E = some ce.cls → vx_W p l e R s m args below meth c H1 locs1 (cells + mc) (slots + ms) Q (F0 m pc ls rest) q9)
    (kk : ∀ (u : S) (t : State) (H1 : Heap) (locs1 : List Loc), t.heap = H1 → s.vm.Alike t.vm → post u → B u t → H.size ≤ H1.size → (∀ q : Nat, q < H.size → ¬ A1 q → H1[q]? = H[q]?) → va_S A0 H0 H1 locs1 → W p l e R s m args below meth c H1 locs1 (cells + mc) (slots + ms) Q (F0 m (pc + 3) ls (rest))) : W p l e R s m args below meth c H locs cells slots Q (F0 m pc ls st0) := by
  intro T hT X
  rcases hr T hT X with ⟨v, st₀, t, T', L, h0, X', hL, e1, e2, ⟨⟨u, hv, hp, hb⟩, hF⟩, st⟩ | ⟨q, st₀, t, T', L, E, ce, h0, X', hL, e1, e2, ⟨u, hp, hb, hF⟩, hce, hcv, hcl, st⟩
  · cases hv
    obtain ⟨k1, k2, k3⟩ := vx_keep h0 e1 hS hA hf hL hF
    obtain ⟨t2, a1, b1⟩ := kk u t T'.heap (locs ++ L) e1.symm (by rw [← e2]; exact X'.warmed.alike) hp hb k1 k2 k3 T' rfl X'
    exact ⟨t2, st t2 a1, b1⟩
  · obtain ⟨k1, k2, k3⟩ := vx_keep h0 e1 hS hAX hf hL hF
    obtain ⟨t2, a1, b1⟩ := kx E ce q u t T'.heap (locs ++ L) e1.symm (by rw [← e2]; exact X'.warmed.alike) hp hb k1 k2 k3 (by rw [e1]; exact hce) hcv hcl T' rfl X'
    exact ⟨t2, st.trans a1, b1⟩
/-- caught by the row x of this method's table; the rows ahead don't take it -/
theorem vx_catch {own name : String} {E : String} {ce : Cell} {q : Addr} (hown : s.vm.findClass own = some m.cls) (pre : List ExceptionTableEntry) (x : ExceptionTableEntry) (suf : List ExceptionTableEntry) (hsplit : c.exceptionTable.toList = pre ++ x :: suf)
    (hpass : ∀ z ∈ pre, covers z pc = false ∨ (z.catchType ≠ 0 ∧ ∃ nm : String, (Cond.classLink own z.catchType nm).before args s = true ∧ va_Nc E nm s)) (hx : covers x pc = true) (h0 : x.catchType ≠ 0)
    (hlink : (Cond.classLink own x.catchType name).before args s = true) (hcast : (Cond.castable E name).before args s = true) (hcell : H[q]? = some ce) (hv : ce.vm = .none) (hcl : s.vm.findClass E = some ce.cls)
    (kk : W p l e R s m args below meth c H locs cells slots Q (F0 m x.handlerPc ls [.ref q])) : vx_W p l e R s m args below meth c H locs cells slots Q (F0 m pc ls rest) q := by
  intro T hT X
  have hpl : e.platform.magicAccessors = ({} : Platform).magicAccessors := by rw [X.admits.platform]
  obtain ⟨c3, c4, hc3, hc4, hasg⟩ := Cond.castable_spec hcast
  cases Option.some.inj (hc3.symm.trans hcl)
  obtain ⟨c5, hc5, hcl5⟩ := Cond.classLink_spec hown hlink e.platform hpl
  cases Option.some.inj (hc4.symm.trans hc5)
  obtain ⟨vm', X', st⟩ := X.thenCaughtThrough q (g := F0 m pc ls rest) rfl (Steps.refl _) (by rw [hT]; exact hcell) (by rw [hv]; rfl) (by obtain ⟨k9, h9, -⟩ := Vm.findClass_spec hcl; exact ⟨k9, h9⟩) pre x suf hsplit
    (fun z hz => by
      rcases hpass z hz with h | ⟨hz0, nm, hl1, hn1⟩
      · exact Or.inl h
      · obtain ⟨c6, hc6, hcl6⟩ := Cond.classLink_spec hown hl1 e.platform hpl
        obtain ⟨a8, b8, h1, h2, h3⟩ := hn1
        cases Option.some.inj (h1.symm.trans hcl)
        cases Option.some.inj (h2.symm.trans hc6)
        exact Or.inr ⟨hz0, _, hcl6, h3⟩) hx (Or.inr ⟨h0, c4, hcl5, hasg⟩)
  obtain ⟨t, a1, b1⟩ := kk (T.setVm vm') hT X'
  exact ⟨t, st.trans a1, b1⟩
end Rows
section Ends
variable {p : Program} {l : Launch} {e : Env} {R : Room} {s : State} {m : MethodId} {args : Array Value} {below : List Frame} {meth : Method} {c : Code} {H : Heap} {locs : List Loc} {cells slots : Nat} {Q : State → Prop}
variable {mc ms : Nat} {free : Addr → Prop} {A0 A1 : Nat → Prop} {H0 : Heap} {a : Array Value} {ls : Array Slot} {st0 rest : List Value}
variable {Qc : Array Value → State → Outcome → State → Prop} {XC : String → State → State → Prop}
/-- what a body that may throw owes at its end -/
def vx_MQ (below : List Frame) (Qc : Array Value → State → Outcome → State → Prop) (XC : String → State → State → Prop) (a : Array Value) (s : State) (mc ms : Nat) (free : Addr → Prop) : State → Prop := fun t =>
  ∃ o, t.status = .running ∧ Ended t below o ∧ vx_Q Qc XC mc ms free a s o t
theorem vx_ret {g : JFrame} {mc ms : Nat} (k : W p l e R s m args below meth c H locs cells slots (MQ below Qc args s mc ms free) g) : W p l e R s m args below meth c H locs cells slots (vx_MQ below Qc XC args s mc ms free) g := by
  intro T hT X
  obtain ⟨t, a1, o, b1, b2, b3, b4⟩ := k T hT X
  exact ⟨t, a1, o, b1, b2, Or.inl ⟨b3, b4⟩⟩
/-- not caught here: it goes on to the caller -/
theorem vx_widen {g : JFrame} {q : Addr} {k n : Nat} (h1 : cells ≤ k) (h2 : slots ≤ n) (kk : vx_W p l e R s m args below meth c H locs k n Q g q) : vx_W p l e R s m args below meth c H locs cells slots Q g q := fun T hT X => kk T hT (stand_widen X h1 h2)
theorem vx_out {pc : Nat} {E : String} {ce : Cell} {q : Addr} {mc ms : Nat} (hout : ∀ x ∈ c.exceptionTable.toList, covers x pc = false) (hlocks : meth.locks = false) (hcell : H[q]? = some ce) (hv : ce.vm = .none) (hcl : s.vm.findClass E = some ce.cls)
    (hx : ∀ t : State, t.heap = H → s.vm.Alike t.vm → XC E s t) (hf : ∀ z ∈ locs, free z.base) (hc : cells ≤ mc) (hs : slots ≤ ms) :
    vx_W p l e R s m args below meth c H locs cells slots (vx_MQ below Qc XC args s mc ms free) (F0 m pc ls rest) q := by
  intro T hT X
  obtain ⟨st1, hrun, hend, hW, hsm⟩ := X.leaveThrown q (g := F0 m pc ls rest) rfl rfl rfl hout hlocks
  have hcell9 : (T.setFrames (.throwing q :: below)).heap[q]? = some ce := by
    show T.heap[q]? = some ce
    rw [hT]; exact hcell
  exact ⟨_, st1, .threw q, hrun, hend, Or.inr ⟨q, rfl, E, ce, locs, hx _ hT hW.alike, hcell9, hv, hcl, hW, hsm.mono hc hs, hf⟩⟩
theorem vx_frame {U : State} {k n : Nat} (h : s.sameButNew ({ U with vm := s.vm } : State) locs k n) : s.heap.size ≤ U.heap.size ∧ ∀ q : Nat, q < s.heap.size → (∀ z ∈ locs, z.base ≠ q) → U.heap[q]? = s.heap[q]? := by
  obtain ⟨-, h2, -, -, -, h6⟩ := h
  refine ⟨h2, fun q hq hz => ?_⟩
  obtain ⟨c9, e1, e2, e3, e4⟩ := h6 q _ (Array.getElem?_eq_getElem hq)
  have hs : c9.slots = (s.heap[q]).slots := Array.ext_getElem? fun i => e4 i fun hm => hz _ hm rfl
  have h9 : c9 = s.heap[q] := by
    rw [hs] at e2
    exact e2
  have e5 : U.heap[q]? = some c9 := e1
  rw [e5, h9, Array.getElem?_eq_getElem hq]
/-- the words of a throw but the four that speak of the heap -/
def vx_no (w : Cond) : Bool := decide (w ≠ .isRef (.static Bundle.tN "UNASSIGNED_STACK" Bundle.steD)) && decide (w ≠ .isRef (.static Bundle.tN "SUPPRESSED_SENTINEL" Bundle.listD)) && decide (w ≠ .laysStatic Bundle.tN "UNASSIGNED_STACK" Bundle.steD) && decide (w ≠ .laysStatic Bundle.tN "SUPPRESSED_SENTINEL" Bundle.listD)
def vx_at0 (own : String) (ic : Nat) (X : String) (names : List String) : List Cond := (Bundle.ownAtoms0 own ic X names).filter vx_no
def vx_atS (own : String) (ic : Nat) (X : String) (names : List String) : List Cond := (Bundle.ownAtoms own ic X names).filter vx_no
/-- a word that the tables alone decide, or a good one -/
def vx_ot (w : Cond) : Bool := w.onTables || goodWord w
theorem vx_ot_at {args a' : Array Value} {s U : State} {w : Cond} (hW : s.WarmedH U.vm) (hvm : s.vm = U.vm) (hg : vx_ot w = true) (h : w.before args s = true) : w.before a' U = true := by
  simp only [vx_ot, Bool.or_eq_true] at hg
  rcases hg with hg | hg
  · exact va_tabs hg hvm h
  · exact word_at hW (good_of_word hg) h
/-- a list's words: the good ones out of the method's own list, the others by premises of their own -/
theorem vx_hat {args : Array Value} {s : State} {L B : List Cond} (h1 : ∀ w ∈ L.filter goodWord, w.before args s = true) (h2 : ∀ w ∈ L.filter (fun w => !goodWord w), w ∈ B) (h3 : ∀ w ∈ B, w.before args s = true) : ∀ w ∈ L, w.before args s = true := by
  intro w hw
  by_cases g : goodWord w = true
  · exact h1 w (List.mem_filter.mpr ⟨hw, g⟩)
  · refine h3 w (h2 w (List.mem_filter.mpr ⟨hw, ?_⟩))
    show (!goodWord w) = true
    cases hgw : goodWord w
    · rfl
    · exact absurd hgw g
theorem vx_c {args : Array Value} {s : State} {w : Cond} {B : List Cond} (h : w.before args s = true) (t : ∀ w ∈ B, w.before args s = true) : ∀ w' ∈ w :: B, w'.before args s = true := fun w' h' => (List.mem_cons.mp h').elim (fun e => by rw [e]; exact h) (t w')
theorem vx_n {args : Array Value} {s : State} : ∀ w ∈ ([] : List Cond), w.before args s = true := fun _ h => nomatch h
theorem vx_own {args : Array Value} {s : State} {L : List Cond} (h1 : ∀ w ∈ L.filter vx_no, w.before args s = true)
    (hU : (Cond.isRef (.static Bundle.tN "UNASSIGNED_STACK" Bundle.steD)).before args s = true) (hN : (Cond.isRef (.static Bundle.tN "SUPPRESSED_SENTINEL" Bundle.listD)).before args s = true)
    (lU : (Cond.laysStatic Bundle.tN "UNASSIGNED_STACK" Bundle.steD).before args s = true) (lN : (Cond.laysStatic Bundle.tN "SUPPRESSED_SENTINEL" Bundle.listD).before args s = true) : ∀ w ∈ L, w.before args s = true := by
  intro w hw
  by_cases e1 : w = .isRef (.static Bundle.tN "UNASSIGNED_STACK" Bundle.steD)
  · rw [e1]; exact hU
  · by_cases e2 : w = .isRef (.static Bundle.tN "SUPPRESSED_SENTINEL" Bundle.listD)
    · rw [e2]; exact hN
    · by_cases e3 : w = .laysStatic Bundle.tN "UNASSIGNED_STACK" Bundle.steD
      · rw [e3]; exact lU
      · by_cases e4 : w = .laysStatic Bundle.tN "SUPPRESSED_SENTINEL" Bundle.listD
        · rw [e4]; exact lN
        · exact h1 w (List.mem_filter.mpr ⟨hw, by unfold vx_no; rw [decide_eq_true e1, decide_eq_true e2, decide_eq_true e3, decide_eq_true e4]; rfl⟩)
/-- where a static field lies, its class's statics cell in H -/
def vx_L (C n d : String) (A : Nat → Prop) (U : State) (H : Heap) : Prop := ∃ (c : ClassId) (k : Class) (i : Nat) (f : Field) (a : Nat) (cell : Cell), U.vm.findClass C = some c ∧ U.fieldFound? C n d = some (c, k, i, f) ∧ f.isStatic = true ∧ k.statics = some a ∧ H[a]? = some cell ∧ cell.vm.isStatics = true ∧ cell.cls = c ∧ f.slot < cell.slots.size ∧ k.staticTypes[f.slot]? = some f.type ∧ ¬ A a
theorem vx_L.moved {C n d : String} {A : Nat → Prop} {u U : State} {H : Heap} (hvm : u.vm.Alike U.vm) (h : vx_L C n d A u H) : vx_L C n d A U H := by
  obtain ⟨c, k, i, f, a, cell, h1, h2, h3, h4, h5, h6, h7, h8, h9, h10⟩ := h
  obtain ⟨k', hi', he⟩ := State.fieldFound?_setVm hvm h2
  exact ⟨c, k', i, f, a, cell, by rw [hvm.findClass]; exact h1, hi', h3, by rw [he]; exact h4, h5, h6, h7, h8, by rw [he]; exact h9, h10⟩
theorem vx_L.kept {C n d : String} {A : Nat → Prop} {U : State} {H H1 : Heap} (h : vx_L C n d A U H) (hq : ∀ a : Nat, a < H.size → ¬ A a → H1[a]? = H[a]?) : vx_L C n d A U H1 := by
  obtain ⟨c, k, i, f, a, cell, h1, h2, h3, h4, h5, h6, h7, h8, h9, h10⟩ := h
  exact ⟨c, k, i, f, a, cell, h1, h2, h3, h4, by rw [hq a (Array.getElem?_eq_some_iff.mp h5).1 h10]; exact h5, h6, h7, h8, h9, h10⟩
theorem vx_L.narrow {C n d : String} {A B : Nat → Prop} {U : State} {H : Heap} (h : vx_L C n d A U H) (hAB : ∀ q, B q → A q) : vx_L C n d B U H := by
  obtain ⟨c, k, i, f, a, cell, h1, h2, h3, h4, h5, h6, h7, h8, h9, h10⟩ := h
  exact ⟨c, k, i, f, a, cell, h1, h2, h3, h4, h5, h6, h7, h8, h9, fun z => h10 (hAB _ z)⟩
theorem vx_L.word {C n d : String} {A : Nat → Prop} {s : State} {args : Array Value} (h : vx_L C n d A s s.heap) : (Cond.laysStatic C n d).before args s = true := by
  obtain ⟨c, k, i, f, a, cell, h1, h2, h3, h4, h5, h6, h7, h8, h9, -⟩ := h
  show (Cond.laysStatic C n d).holds args s none s [] = true
  exact Cond.laysStatic_of h1 h2 h3 h4 h5 h6 h7 h8 h9
/-- .. and what it holds: null or some reference -/
def vx_Zq (C n d : String) (A : Nat → Prop) (U : State) (H : Heap) : Prop := va_Zq C n d A U H ∧ vx_L C n d A U H
theorem vx_Zq.moved {C n d : String} {A : Nat → Prop} {u U : State} {H : Heap} (hvm : u.vm.Alike U.vm) (h : vx_Zq C n d A u H) : vx_Zq C n d A U H := ⟨va_Zq.moved hvm h.1, vx_L.moved hvm h.2⟩
theorem vx_Zq.kept {C n d : String} {A : Nat → Prop} {U : State} {H H1 : Heap} (h : vx_Zq C n d A U H) (hq : ∀ a : Nat, a < H.size → ¬ A a → H1[a]? = H[a]?) : vx_Zq C n d A U H1 := ⟨va_Zq.kept h.1 hq, vx_L.kept h.2 hq⟩
theorem vx_Zq.narrow {C n d : String} {A B : Nat → Prop} {U : State} {H : Heap} (h : vx_Zq C n d A U H) (hAB : ∀ q, B q → A q) : vx_Zq C n d B U H := ⟨va_Zq.narrow h.1 hAB, vx_L.narrow h.2 hAB⟩
theorem vx_Zqof {args : Array Value} {s : State} {C n d : String} {A : Nat → Prop} (hl : (Cond.laysStatic C n d).before args s = true) (hini : (Cond.initialized C).before args s = true) (h : (Cond.isRef (.static C n d)).before args s = true) (hA : ∀ a : Nat, a < s.heap.size → ¬ A a) : vx_Zq C n d A s s.heap := by
  refine ⟨va_Zqof hl hini h hA, ?_⟩
  obtain ⟨c, k, i, f, a, cell, h1, h2, h3, h4, h5, h6, h7, h8, h9⟩ := Cond.laysStatic_spec hl
  exact ⟨c, k, i, f, a, cell, h1, h2, h3, h4, h5, h6, h7, h8, h9, hA a (Array.getElem?_eq_some_iff.mp h5).1⟩
theorem vx_isRef {C n d : String} {v : Value} {A : Nat → Prop} {s : State} {args : Array Value} (h : va_Z C n d v A s s.heap) (hv : v.isRef = true) : (Cond.isRef (.static C n d)).before args s = true := by
  obtain ⟨cf, kf, fi, f, a, cell, h1, h2, h3, h4, h5, h6, h7, -⟩ := h
  have he : (Term.static C n d).eval args s none [] s = some v := by
    simp [Term.eval, State.fieldNamed?, h1, h2, h4, h5, h6, h7]
  simp only [Cond.before, Cond.holds, Cond.value, he]
  cases v <;> simp_all [Value.isRef]
theorem vx_isRefq {C n d : String} {A : Nat → Prop} {s : State} {args : Array Value} (h : va_Zq C n d A s s.heap) : (Cond.isRef (.static C n d)).before args s = true := by
  rcases h with h | ⟨t, h⟩
  · exact vx_isRef h rfl
  · exact vx_isRef h rfl
/-- the same frame, seen from here: as if the method were called anew in this heap -/
theorem vx_rebase {T : State} (X : Stand p l e R s m args below meth c T locs cells slots) {R' : Room} (hf : R'.frames ≤ R.frames) (hl : R'.locals ≤ R.locals) (hc : cells + R'.cells ≤ R.cells) (hs : slots + R'.slots ≤ R.slots) :
    Stand p l e R' ((T.setVm s.vm).setFrames (.invoking m args :: below)) m args below meth c T [] 0 0 := by
  have htop : (T.setVm s.vm).topJava?.isSome := X.here.top
  have hF : ((T.setVm s.vm).setFrames (.invoking m args :: below)).frames = .invoking m args :: below := State.frames_setFrames _ (State.cur_lt_of_top htop)
  obtain ⟨g₀, hg0⟩ := Option.isSome_iff_exists.mp htop
  obtain ⟨r, hr⟩ := State.topJava?_eq_some.mp hg0
  have hl9 : e.platform.stackLimits (T.setVm s.vm).me = e.platform.stackLimits s.me := X.limits
  have hb9 : (T.setVm s.vm).me.stackBytes = s.me.stackBytes := X.bytes
  refine ⟨X.admits, X.cas, X.clock, hF, ?_, X.hears, X.method, X.code, X.here, X.tail, X.warmed, ?_, ?_, ?_⟩
  · have h := X.room
    have hU : ((T.setVm s.vm).setFrames (.invoking m args :: below)).localsInUse = s.localsInUse := by
      rw [State.localsInUse_invoking hF (meth := meth) (c := c) X.method X.code, State.localsInUse_invoking X.frames X.method X.code]
    simp only [State.hasRoom, Bool.and_eq_true, decide_eq_true_eq] at h ⊢
    obtain ⟨⟨⟨⟨h1, h2, h3, h4, h5, h6⟩, h7⟩, h8⟩, h9⟩ := h
    rw [X.frames, List.length_cons] at h2 h3
    have q1 := X.heapSize
    have q2 := X.used
    simp only [hF, hU, List.length_cons, State.stackLimits_setFrames, State.stackBytes_setFrames, hl9, hb9]
    refine ⟨⟨⟨⟨by omega, by omega, by omega, by omega, by omega, h6⟩, ?_⟩, ?_⟩, X.book⟩
    · show T.heap.size + R'.cells ≤ e.platform.maxCells
      omega
    · show T.slotsUsed + R'.slots ≤ e.platform.maxSlots
      omega
  · rw [State.stackLimits_setFrames]; rfl
  · rw [State.stackBytes_setFrames]; rfl
  · refine ⟨?_, Nat.le_refl _, Nat.le_refl _, ?_, ?_, fun a c9 h9 => ⟨c9, h9, rfl, rfl, fun _ _ => rfl⟩⟩
    · obtain ⟨t, ht, -⟩ := State.frames_cons hr
      show T.setVm s.vm = { ((T.setVm s.vm).setFrames (.invoking m args :: below)).setFrames (T.setVm s.vm).frames with heap := T.heap, slotsUsed := T.slotsUsed }
      rw [State.setFrames_setFrames, State.setFrames_self ht]
      rfl
    · show T.slotsUsed = T.slotsUsed + ((T.heap.toList.drop T.heap.size).map (·.slots.size)).sum
      rw [List.drop_eq_nil_of_le (Nat.le_of_eq Array.length_toList)]
      rfl
    · show ((T.heap.toList.drop T.heap.size).map (·.slots.size)).sum ≤ 0
      rw [List.drop_eq_nil_of_le (Nat.le_of_eq Array.length_toList)]
      exact Nat.le_refl _
/-- 'throw new E()': new; dup; invokespecial; athrow -/
theorem vx_throw0 {cc : ByteArray} {pc : Nat} (hexec : p.tables.exec = Jvm.exec) (hb : c.code = cc) (hl : l.stackTraces = false) {own cls : String} {names : List String} {ik ic mc ms : Nat} {A : Nat → Prop}
    (hown : s.vm.findClass own = some m.cls) (hcls : Bundle.fit cls = true) (hnames : ∀ n ∈ names, Bundle.fit n = true)
    (hk : (Cond.classLink own ik cls).before args s = true) (hini : (Cond.initialized cls).before args s = true) (hat : ∀ w ∈ vx_at0 own ic cls names, w.before args s = true)
    (hgood : ∀ w ∈ Cond.classLink own ik cls :: Cond.initialized cls :: vx_at0 own ic cls names, vx_ot w = true)
    (hU : vx_Zq Bundle.tN "UNASSIGNED_STACK" Bundle.steD A s s.heap) (hN : vx_Zq Bundle.tN "SUPPRESSED_SENTINEL" Bundle.listD A s s.heap) (hS : va_S A s.heap H locs) (hsize : ls.size = c.maxLocals)
    (d0 : decode cc pc = .ok (.new ik, 3)) (d3 : decode cc (pc + 3) = .ok (.dup, 1)) (d4 : decode cc (pc + 4) = .ok (.invokespecial ic, 3)) (d7 : decode cc (pc + 7) = .ok (.athrow, 1))
    (hout : ∀ x ∈ c.exceptionTable.toList, covers x (pc + 7) = false)
    (hRframes : names.length + 3 < R.frames) (hRlocals : (rest.map fun v => v.category).sum + (13 * (names.length + 1) + 42) ≤ R.locals) (hRcells : cells + 1 ≤ R.cells) (hRslots : slots + 6 ≤ R.slots) (hlocks : meth.locks = false)
    (hx : ∀ t : State, s.vm.Alike t.vm → H.size ≤ t.heap.size → (∀ q : Nat, q < H.size → t.heap[q]? = H[q]?) → XC cls s t)
    (hf : ∀ z ∈ locs, free z.base) (hc : cells + 1 ≤ mc) (hs : slots + 6 ≤ ms) :
    W p l e R s m args below meth c H locs cells slots (vx_MQ below Qc XC args s mc ms free) (F0 m pc ls rest) := by
  intro T hT X
  have htr : e.platform.stackTraces = false := (show e.platform.stackTraces = l.stackTraces by rw [X.admits.platform]).trans hl
  have Y := vx_rebase X (R' := { frames := R.frames, locals := R.locals, cells := 1, slots := 6 }) (Nat.le_refl _) (Nat.le_refl _) hRcells hRslots
  obtain ⟨s', hA⟩ : ∃ z, z = (T.setVm s.vm).setFrames (.invoking m args :: below) := ⟨_, rfl⟩
  rw [← hA] at Y
  have hvm : s'.vm = s.vm := by rw [hA]; rfl
  have hhp : s'.heap = H := by rw [hA]; exact hT
  have hW0 : s.WarmedH s'.vm := by rw [hvm]; exact State.WarmedH.refl s
  have hat' : ∀ w ∈ vx_at0 own ic cls names, w.before args s' = true := fun w hw => vx_ot_at hW0 hvm.symm (hgood w (List.mem_cons_of_mem _ (List.mem_cons_of_mem _ hw))) (hat w hw)
  have hk' : (Cond.classLink own ik cls).before args s' = true := vx_ot_at hW0 hvm.symm (hgood _ List.mem_cons_self) hk
  have hini' : (Cond.initialized cls).before args s' = true := vx_ot_at hW0 hvm.symm (hgood _ (List.mem_cons_of_mem _ List.mem_cons_self)) hini
  have hU' : vx_Zq Bundle.tN "UNASSIGNED_STACK" Bundle.steD A s' s'.heap := by rw [hhp]; exact vx_Zq.moved hW0.alike (hU.kept hS.2.1)
  have hN' : vx_Zq Bundle.tN "SUPPRESSED_SENTINEL" Bundle.listD A s' s'.heap := by rw [hhp]; exact vx_Zq.moved hW0.alike (hN.kept hS.2.1)
  have h : ∀ w ∈ Bundle.ownAtoms0 own ic cls names, w.before args s' = true := vx_own hat' (vx_isRefq hU'.1) (vx_isRefq hN'.1) hU'.2.word hN'.2.word
  have hown' : s'.vm.findClass own = some m.cls := by rw [hvm]; exact hown
  have hins : (Cond.instantiable cls 6).before args s' = true := h _ (by simp [Bundle.ownAtoms0])
  obtain ⟨vm₁, cX, kX, hfX, hkX, -, -, X₁, st1⟩ := Y.newCold hexec (own := own) (C := cls) (index := ik) (n := 6) hown' hk' hins hini'
    (g := F0 m pc ls rest) rfl (by rw [hb]; exact d0) (Nat.le_refl _) (Nat.le_refl _)
  generalize hT1 : (T.setVm vm₁).pushCell { cls := cX, slots := kX.instanceTypes.map defaultValue, vm := .none } = T1 at X₁ st1
  have hcat : (Value.ref T.heap.size).category = 1 := rfl
  have hcellA : T1.heap[T.heap.size]? = some (freshCell cX kX) := by rw [← hT1]; exact State.heap_pushCell_size _ _
  have d3' : decode c.code (pc + 3) = .ok (.dup, 1) := by rw [hb]; exact d3
  obtain ⟨U, hsteps, hrun, hend, hW, hsame, ce, hce, hO⟩ := X₁.ctorThrow0 hexec htr (own := own) (cls := cls) (names := names) (ic := ic) hown' hcls hnames h (fun x hx => nomatch hx) hfX hkX hcellA (by rw [hhp, hT]; exact Nat.le_refl _)
    (g := { method := m, pc := pc + 4, locals := ls, stack := .ref T.heap.size :: .ref T.heap.size :: rest, locked := none }) rfl hsize rfl rfl (rest := rest) rfl
    (by rw [hb]; exact d4) (by rw [hb]; exact d7) hout hRframes (by simp only [List.map_cons, List.sum_cons, hcat]; omega) hlocks
  obtain ⟨f1, f2⟩ := vx_frame hsame
  rw [hhp] at f1 f2
  have hWs : s.WarmedH U.vm := State.WarmedH.trans hW0 hW
  have hcl : s.vm.findClass cls = some ce.cls := by
    have h9 := hO.cls
    rw [hvm] at h9
    exact h9
  have hall : s.sameButNew ({ U with vm := s.vm } : State) locs mc ms := by
    subst hA
    obtain ⟨e1, e2⟩ := hsame
    rw [State.setFrames_setFrames] at e1
    have h2 : (T.setVm s.vm).sameButNew ({ U with vm := s.vm } : State) [] (0 + 1) (0 + 6) := ⟨e1, e2⟩
    have h3 := X.same.trans h2
    rw [List.append_nil] at h3
    exact h3.mono hc hs
  refine ⟨U, ?_, .threw T.heap.size, hrun, hend, Or.inr ⟨T.heap.size, rfl, cls, ce, locs, hx U hWs.alike f1 (fun q hq => f2 q hq (fun z hz => nomatch hz)), hce, hO.vm, hcl, hWs, hall, hf⟩⟩
  refine st1 _ ?_
  show Steps p.tables e below (T1.setTop { method := m, pc := pc + 3, locals := ls, stack := .ref T.heap.size :: rest, locked := none }) _
  jvm_step X₁.here [X₁.here.top, hexec, d3', Value.category]
  exact hsteps
/-- 'throw new E("text")': new; dup; ldc; invokespecial; athrow -/
theorem vx_throwS {cc : ByteArray} {pc : Nat} (hexec : p.tables.exec = Jvm.exec) (hb : c.code = cc) (hl : l.stackTraces = false) {own cls text : String} {names : List String} {ik is ic mc ms sa : Nat} {A : Nat → Prop}
    (hown : s.vm.findClass own = some m.cls) (hcls : Bundle.fit cls = true) (hnames : ∀ n ∈ names, Bundle.fit n = true)
    (hk : (Cond.classLink own ik cls).before args s = true) (hini : (Cond.initialized cls).before args s = true) (hstr : vk_R own is text sa s) (hat : ∀ w ∈ vx_atS own ic cls names, w.before args s = true)
    (hgood : ∀ w ∈ Cond.classLink own ik cls :: Cond.initialized cls :: vx_atS own ic cls names, vx_ot w = true)
    (hU : vx_Zq Bundle.tN "UNASSIGNED_STACK" Bundle.steD A s s.heap) (hN : vx_Zq Bundle.tN "SUPPRESSED_SENTINEL" Bundle.listD A s s.heap) (hS : va_S A s.heap H locs) (hsize : ls.size = c.maxLocals)
    (d0 : decode cc pc = .ok (.new ik, 3)) (d3 : decode cc (pc + 3) = .ok (.dup, 1)) (d4 : decode cc (pc + 4) = .ok (.ldc is, 2)) (d6 : decode cc (pc + 6) = .ok (.invokespecial ic, 3)) (d9 : decode cc (pc + 9) = .ok (.athrow, 1))
    (hout : ∀ x ∈ c.exceptionTable.toList, covers x (pc + 9) = false)
    (hRframes : names.length + 3 < R.frames) (hRlocals : (rest.map fun v => v.category).sum + (13 * (names.length + 1) + 43) ≤ R.locals) (hRcells : cells + 1 ≤ R.cells) (hRslots : slots + 6 ≤ R.slots) (hlocks : meth.locks = false)
    (hx : ∀ t : State, s.vm.Alike t.vm → H.size ≤ t.heap.size → (∀ q : Nat, q < H.size → t.heap[q]? = H[q]?) → XC cls s t)
    (hf : ∀ z ∈ locs, free z.base) (hc : cells + 1 ≤ mc) (hs : slots + 6 ≤ ms) :
    W p l e R s m args below meth c H locs cells slots (vx_MQ below Qc XC args s mc ms free) (F0 m pc ls rest) := by
  intro T hT X
  have htr : e.platform.stackTraces = false := (show e.platform.stackTraces = l.stackTraces by rw [X.admits.platform]).trans hl
  have Y := vx_rebase X (R' := { frames := R.frames, locals := R.locals, cells := 1, slots := 6 }) (Nat.le_refl _) (Nat.le_refl _) hRcells hRslots
  obtain ⟨s', hA⟩ : ∃ z, z = (T.setVm s.vm).setFrames (.invoking m args :: below) := ⟨_, rfl⟩
  rw [← hA] at Y
  have hvm : s'.vm = s.vm := by rw [hA]; rfl
  have hhp : s'.heap = H := by rw [hA]; exact hT
  have hW0 : s.WarmedH s'.vm := by rw [hvm]; exact State.WarmedH.refl s
  have hat' : ∀ w ∈ vx_atS own ic cls names, w.before args s' = true := fun w hw => vx_ot_at hW0 hvm.symm (hgood w (List.mem_cons_of_mem _ (List.mem_cons_of_mem _ hw))) (hat w hw)
  have hk' : (Cond.classLink own ik cls).before args s' = true := vx_ot_at hW0 hvm.symm (hgood _ List.mem_cons_self) hk
  have hini' : (Cond.initialized cls).before args s' = true := vx_ot_at hW0 hvm.symm (hgood _ (List.mem_cons_of_mem _ List.mem_cons_self)) hini
  have hU' : vx_Zq Bundle.tN "UNASSIGNED_STACK" Bundle.steD A s' s'.heap := by rw [hhp]; exact vx_Zq.moved hW0.alike (hU.kept hS.2.1)
  have hN' : vx_Zq Bundle.tN "SUPPRESSED_SENTINEL" Bundle.listD A s' s'.heap := by rw [hhp]; exact vx_Zq.moved hW0.alike (hN.kept hS.2.1)
  have h : ∀ w ∈ Bundle.ownAtoms own ic cls names, w.before args s' = true := vx_own hat' (vx_isRefq hU'.1) (vx_isRefq hN'.1) hU'.2.word hN'.2.word
  have hown' : s'.vm.findClass own = some m.cls := by rw [hvm]; exact hown
  have hins : (Cond.instantiable cls 6).before args s' = true := h _ (by simp [Bundle.ownAtoms])
  obtain ⟨vm₁, cX, kX, hfX, hkX, -, -, X₁, st1⟩ := Y.newCold hexec (own := own) (C := cls) (index := ik) (n := 6) hown' hk' hins hini'
    (g := F0 m pc ls rest) rfl (by rw [hb]; exact d0) (Nat.le_refl _) (Nat.le_refl _)
  generalize hT1 : (T.setVm vm₁).pushCell { cls := cX, slots := kX.instanceTypes.map defaultValue, vm := .none } = T1 at X₁ st1
  have hcat : (Value.ref T.heap.size).category = 1 := rfl
  have hcellA : T1.heap[T.heap.size]? = some (freshCell cX kX) := by rw [← hT1]; exact State.heap_pushCell_size _ _
  have d3' : decode c.code (pc + 3) = .ok (.dup, 1) := by rw [hb]; exact d3
  have d4' : decode c.code (pc + 4) = .ok (.ldc is, 2) := by rw [hb]; exact d4
  have hstr' : vk_R own is text sa s' := vk_R.warm hW0 hstr
  obtain ⟨U, hsteps, hrun, hend, hW, hsame, ce, hce, hO⟩ := X₁.ctorThrowS hexec htr (own := own) (cls := cls) (names := names) (ic := ic) hown' hcls hnames h (fun x hx => nomatch hx) hfX hkX hcellA (by rw [hhp, hT]; exact Nat.le_refl _) (msg := .ref sa) rfl
    (g := { method := m, pc := pc + 6, locals := ls, stack := .ref sa :: .ref T.heap.size :: .ref T.heap.size :: rest, locked := none }) rfl hsize rfl rfl (rest := rest) rfl
    (by rw [hb]; exact d6) (by rw [hb]; exact d9) hout hRframes (by simp only [List.map_cons, List.sum_cons, hcat]; omega) hlocks
  obtain ⟨f1, f2⟩ := vx_frame hsame
  rw [hhp] at f1 f2
  have hWs : s.WarmedH U.vm := State.WarmedH.trans hW0 hW
  have hcl : s.vm.findClass cls = some ce.cls := by
    have h9 := hO.cls
    rw [hvm] at h9
    exact h9
  have hall : s.sameButNew ({ U with vm := s.vm } : State) locs mc ms := by
    subst hA
    obtain ⟨e1, e2⟩ := hsame
    rw [State.setFrames_setFrames] at e1
    have h2 : (T.setVm s.vm).sameButNew ({ U with vm := s.vm } : State) [] (0 + 1) (0 + 6) := ⟨e1, e2⟩
    have h3 := X.same.trans h2
    rw [List.append_nil] at h3
    exact h3.mono hc hs
  refine ⟨U, ?_, .threw T.heap.size, hrun, hend, Or.inr ⟨T.heap.size, rfl, cls, ce, locs, hx U hWs.alike f1 (fun q hq => f2 q hq (fun z hz => nomatch hz)), hce, hO.vm, hcl, hWs, hall, hf⟩⟩
  refine st1 _ ?_
  show Steps p.tables e below (T1.setTop { method := m, pc := pc + 3, locals := ls, stack := .ref T.heap.size :: rest, locked := none }) _
  jvm_step X₁.here [X₁.here.top, hexec, d3', Value.category]
  exact X₁.ldcString hexec (own := own) (text := text) (index := is) (a := sa) hown' hstr'.1 hstr'.2
    (g := { method := m, pc := pc + 4, locals := ls, stack := .ref T.heap.size :: .ref T.heap.size :: rest, locked := none }) rfl d4' _ hsteps
/-- 'throw new E("text")', the text by a wide index -/
theorem vx_throwSW {cc : ByteArray} {pc : Nat} (hexec : p.tables.exec = Jvm.exec) (hb : c.code = cc) (hl : l.stackTraces = false) {own cls text : String} {names : List String} {ik is ic mc ms sa : Nat} {A : Nat → Prop}
    (hown : s.vm.findClass own = some m.cls) (hcls : Bundle.fit cls = true) (hnames : ∀ n ∈ names, Bundle.fit n = true)
    (hk : (Cond.classLink own ik cls).before args s = true) (hini : (Cond.initialized cls).before args s = true) (hstr : vk_R own is text sa s) (hat : ∀ w ∈ vx_atS own ic cls names, w.before args s = true)
    (hgood : ∀ w ∈ Cond.classLink own ik cls :: Cond.initialized cls :: vx_atS own ic cls names, vx_ot w = true)
    (hU : vx_Zq Bundle.tN "UNASSIGNED_STACK" Bundle.steD A s s.heap) (hN : vx_Zq Bundle.tN "SUPPRESSED_SENTINEL" Bundle.listD A s s.heap) (hS : va_S A s.heap H locs) (hsize : ls.size = c.maxLocals)
    (d0 : decode cc pc = .ok (.new ik, 3)) (d3 : decode cc (pc + 3) = .ok (.dup, 1)) (d4 : decode cc (pc + 4) = .ok (.ldc_w is, 3)) (d7 : decode cc (pc + 7) = .ok (.invokespecial ic, 3)) (d10 : decode cc (pc + 10) = .ok (.athrow, 1))
    (hout : ∀ x ∈ c.exceptionTable.toList, covers x (pc + 10) = false)
    (hRframes : names.length + 3 < R.frames) (hRlocals : (rest.map fun v => v.category).sum + (13 * (names.length + 1) + 43) ≤ R.locals) (hRcells : cells + 1 ≤ R.cells) (hRslots : slots + 6 ≤ R.slots) (hlocks : meth.locks = false)
    (hx : ∀ t : State, s.vm.Alike t.vm → H.size ≤ t.heap.size → (∀ q : Nat, q < H.size → t.heap[q]? = H[q]?) → XC cls s t)
    (hf : ∀ z ∈ locs, free z.base) (hc : cells + 1 ≤ mc) (hs : slots + 6 ≤ ms) :
    W p l e R s m args below meth c H locs cells slots (vx_MQ below Qc XC args s mc ms free) (F0 m pc ls rest) := by
  intro T hT X
  have htr : e.platform.stackTraces = false := (show e.platform.stackTraces = l.stackTraces by rw [X.admits.platform]).trans hl
  have Y := vx_rebase X (R' := { frames := R.frames, locals := R.locals, cells := 1, slots := 6 }) (Nat.le_refl _) (Nat.le_refl _) hRcells hRslots
  obtain ⟨s', hA⟩ : ∃ z, z = (T.setVm s.vm).setFrames (.invoking m args :: below) := ⟨_, rfl⟩
  rw [← hA] at Y
  have hvm : s'.vm = s.vm := by rw [hA]; rfl
  have hhp : s'.heap = H := by rw [hA]; exact hT
  have hW0 : s.WarmedH s'.vm := by rw [hvm]; exact State.WarmedH.refl s
  have hat' : ∀ w ∈ vx_atS own ic cls names, w.before args s' = true := fun w hw => vx_ot_at hW0 hvm.symm (hgood w (List.mem_cons_of_mem _ (List.mem_cons_of_mem _ hw))) (hat w hw)
  have hk' : (Cond.classLink own ik cls).before args s' = true := vx_ot_at hW0 hvm.symm (hgood _ List.mem_cons_self) hk
  have hini' : (Cond.initialized cls).before args s' = true := vx_ot_at hW0 hvm.symm (hgood _ (List.mem_cons_of_mem _ List.mem_cons_self)) hini
  have hU' : vx_Zq Bundle.tN "UNASSIGNED_STACK" Bundle.steD A s' s'.heap := by rw [hhp]; exact vx_Zq.moved hW0.alike (hU.kept hS.2.1)
  have hN' : vx_Zq Bundle.tN "SUPPRESSED_SENTINEL" Bundle.listD A s' s'.heap := by rw [hhp]; exact vx_Zq.moved hW0.alike (hN.kept hS.2.1)
  have h : ∀ w ∈ Bundle.ownAtoms own ic cls names, w.before args s' = true := vx_own hat' (vx_isRefq hU'.1) (vx_isRefq hN'.1) hU'.2.word hN'.2.word
  have hown' : s'.vm.findClass own = some m.cls := by rw [hvm]; exact hown
  have hins : (Cond.instantiable cls 6).before args s' = true := h _ (by simp [Bundle.ownAtoms])
  obtain ⟨vm₁, cX, kX, hfX, hkX, -, -, X₁, st1⟩ := Y.newCold hexec (own := own) (C := cls) (index := ik) (n := 6) hown' hk' hins hini'
    (g := F0 m pc ls rest) rfl (by rw [hb]; exact d0) (Nat.le_refl _) (Nat.le_refl _)
  generalize hT1 : (T.setVm vm₁).pushCell { cls := cX, slots := kX.instanceTypes.map defaultValue, vm := .none } = T1 at X₁ st1
  have hcat : (Value.ref T.heap.size).category = 1 := rfl
  have hcellA : T1.heap[T.heap.size]? = some (freshCell cX kX) := by rw [← hT1]; exact State.heap_pushCell_size _ _
  have d3' : decode c.code (pc + 3) = .ok (.dup, 1) := by rw [hb]; exact d3
  have d4' : decode c.code (pc + 4) = .ok (.ldc_w is, 3) := by rw [hb]; exact d4
  have hstr' : vk_R own is text sa s' := vk_R.warm hW0 hstr
  obtain ⟨U, hsteps, hrun, hend, hW, hsame, ce, hce, hO⟩ := X₁.ctorThrowS hexec htr (own := own) (cls := cls) (names := names) (ic := ic) hown' hcls hnames h (fun x hx => nomatch hx) hfX hkX hcellA (by rw [hhp, hT]; exact Nat.le_refl _) (msg := .ref sa) rfl
    (g := { method := m, pc := pc + 7, locals := ls, stack := .ref sa :: .ref T.heap.size :: .ref T.heap.size :: rest, locked := none }) rfl hsize rfl rfl (rest := rest) rfl
    (by rw [hb]; exact d7) (by rw [hb]; exact d10) hout hRframes (by simp only [List.map_cons, List.sum_cons, hcat]; omega) hlocks
  obtain ⟨f1, f2⟩ := vx_frame hsame
  rw [hhp] at f1 f2
  have hWs : s.WarmedH U.vm := State.WarmedH.trans hW0 hW
  have hcl : s.vm.findClass cls = some ce.cls := by
    have h9 := hO.cls
    rw [hvm] at h9
    exact h9
  have hall : s.sameButNew ({ U with vm := s.vm } : State) locs mc ms := by
    subst hA
    obtain ⟨e1, e2⟩ := hsame
    rw [State.setFrames_setFrames] at e1
    have h2 : (T.setVm s.vm).sameButNew ({ U with vm := s.vm } : State) [] (0 + 1) (0 + 6) := ⟨e1, e2⟩
    have h3 := X.same.trans h2
    rw [List.append_nil] at h3
    exact h3.mono hc hs
  refine ⟨U, ?_, .threw T.heap.size, hrun, hend, Or.inr ⟨T.heap.size, rfl, cls, ce, locs, hx U hWs.alike f1 (fun q hq => f2 q hq (fun z hz => nomatch hz)), hce, hO.vm, hcl, hWs, hall, hf⟩⟩
  refine st1 _ ?_
  show Steps p.tables e below (T1.setTop { method := m, pc := pc + 3, locals := ls, stack := .ref T.heap.size :: rest, locked := none }) _
  jvm_step X₁.here [X₁.here.top, hexec, d3', Value.category]
  exact X₁.ldcStringW hexec (own := own) (text := text) (index := is) (a := sa) hown' hstr'.1 hstr'.2
    (g := { method := m, pc := pc + 4, locals := ls, stack := .ref T.heap.size :: .ref T.heap.size :: rest, locked := none }) rfl d4' _ hsteps
end Ends
section Bodies
variable {l : Launch}
theorem vx_ofW {y : MethodName} {ws ws' : List Cond} {rm : Room} {Pc : Array Value → State → Prop} {Qc : Array Value → State → Outcome → State → Prop} {XC : String → State → State → Prop} {mc ms : Nat} {free : Addr → Prop} {cc : ByteArray} {maxL : Nat} {ret : Option FieldType}
    (hy : plainName y.cls = true) (hw : ws = Cond.code y cc maxL ret :: ws')
    (body : ∀ p e s m args below meth c s₁, BodyLoose p l y (headSpec ws rm) cc maxL ret e s m args below meth c s₁ → c.maxLocals = maxL → (∀ x ∈ c.exceptionTable.toList, False) → Pc args s →
      W p l e (headSpec ws rm).room s m args below meth c s.heap [] 0 0 (vx_MQ below Qc XC args s mc ms free) (entryFrame m args maxL)) : vx_Met l y ws rm Pc Qc XC mc ms free := by
  refine MetFree.of_bodyS (code := cc) (maxLocals := maxL) (ret := ret) hy ?_ ?_
  · intro args s m h hn
    obtain ⟨meth, c, h1, h2, h3, h4, h5, h6, -, -⟩ := Cond.code_spec hn (atoms_spec (ws := ws) h _ (by rw [hw]; exact List.mem_cons_self))
    exact ⟨meth, c, h1, h2, h3, h4, h5, h6⟩
  · intro p e s m args below meth c s₁ B hml hP _
    have hh0 : s₁.heap = s.heap := by rw [B.state]; rfl
    have ht : ∀ x ∈ c.exceptionTable.toList, False := by
      obtain ⟨meth9, c9, h1, h2, -, -, -, -, h7, -⟩ := Cond.code_spec B.named (atoms_spec (ws := ws) B.pre _ (by rw [hw]; exact List.mem_cons_self))
      cases Option.some.inj (h1.symm.trans B.method)
      cases Option.some.inj (h2.symm.trans (Stand.of_body B).code)
      intro x hx
      rw [Array.isEmpty_iff.mp h7] at hx
      cases hx
    obtain ⟨t, a1, o, b1, b2, b3⟩ := body p e s m args below meth c s₁ B hml ht hP s₁ hh0 (Stand.of_body B)
    exact ⟨t, o, a1, b1, b2, b3⟩
/-- the table of a body with handlers -/
theorem vx_table {p : Program} {x y : MethodName} {S : Spec} {cc bytes : ByteArray} {maxL maxL' : Nat} {ret ret' : Option FieldType} {e : Env} {s s₁ : State} {m : MethodId} {args : Array Value} {below : List Frame} {meth : Method} {c : Code} {hh : List (Nat × Nat × Nat × Nat)}
    (B : BodyLoose p l y S cc maxL ret e s m args below meth c s₁) (h : (Cond.codeWith y bytes maxL' ret' hh).before args s = true) : c.exceptionTable.toList = tableOf hh := by
  obtain ⟨m9, meth9, c9, hn9, h1, h2, -, -, h6, -⟩ := Cond.codeWith_spec h
  cases Option.some.inj (hn9.symm.trans B.named)
  cases Option.some.inj (h1.symm.trans B.method)
  cases Option.some.inj (h2.symm.trans (Stand.of_body B).code)
  rw [← h6, table_eq]
end Bodies
end VXA
/-! ===== END ===== -/
/-! ===== BEGIN a static call of a method with an exception table ===== -/
section VXS
variable {p : Program} {l : Launch} {e : Env} {R : Room} {s : State} {m : MethodId} {args : Array Value} {below : List Frame} {meth : Method} {c : Code} {T : State} {H : Heap} {locs : List Loc} {cells slots : Nat}
abbrev vx_CSW (R : Room) (s : State) (args : Array Value) (own : String) (index : Nat) (y : MethodName) (bytes : ByteArray) (maxL : Nat) (ret : Option FieldType) (hh : List (Nat × Nat × Nat × Nat)) (ws : List Cond) (rm : Room) (mc ms n : Nat) : Prop :=
  (rm.cells = mc ∧ rm.slots = ms ∧ rm.frames + 1 ≤ R.frames ∧ 8 + (maxL + 11) + rm.locals ≤ R.locals ∧ (∀ w ∈ ws, ∀ (a' : Array Value) (U : State), s.WarmedH U.vm → w.before a' U = true) ∧ Cond.codeWith y bytes maxL ret hh ∈ ws) ∧
  (Cond.codeWith y bytes maxL ret hh).before args s = true ∧ (Cond.initialized y.cls).before args s = true ∧ (y.cls ≠ "java/lang/invoke/MethodHandle" ∧ y.cls ≠ "java/lang/invoke/VarHandle") ∧
  (∀ sig, parseMethodDescriptor y.desc = some sig → n = sig.parameters.length) ∧ (Cond.methodLink own index y).before args s = true ∧ (Cond.static y).before args s = true
theorem vx_cwSW {own : String} {index maxL mc ms : Nat} {y : MethodName} {bytes : ByteArray} {ret : Option FieldType} {hh : List (Nat × Nat × Nat × Nat)} {Ts ws ws' : List Cond} {rm : Room} (n : Nat) (ht : ∀ w ∈ Ts, w.before args s = true) (hT : GoodIn Ts (va_wsS own index y ws)) (hw : ws = Cond.codeWith y bytes maxL ret hh :: ws') (hrc : rm.cells = mc) (hrs : rm.slots = ms)
    (hd : y.cls ≠ "java/lang/invoke/MethodHandle" ∧ y.cls ≠ "java/lang/invoke/VarHandle" ∧ (parseMethodDescriptor y.desc).map (fun d => d.parameters.length) = some n) (hR : rm.frames + 1 ≤ R.frames ∧ 8 + (maxL + 11) + rm.locals ≤ R.locals) :
    vx_CSW R s args own index y bytes maxL ret hh ws rm mc ms n := by
  have ok : ∀ w ∈ va_wsS own index y ws, w.before args s = true := fun w h => ht w (hT w h).1
  have hG : GoodIn Ts ws := fun w h => hT w (by unfold va_wsS; exact List.mem_append_right _ h)
  have hc : Cond.codeWith y bytes maxL ret hh ∈ ws := by rw [hw]; exact List.mem_cons_self
  refine ⟨⟨hrc, hrs, hR.1, hR.2, pay_in ht hG, hc⟩, ht _ (hG _ hc).1, ok _ (by simp [va_wsS]), ⟨hd.1, hd.2.1⟩, fun sig h => ?_, ok _ (by simp [va_wsS]), ok _ (by simp [va_wsS])⟩
  have h2 := hd.2.2
  rw [h] at h2
  exact (Option.some.inj h2).symm
theorem vx_callSW (X : Stand p l e R s m args below meth c T locs cells slots) (hexec : p.tables.exec = Jvm.exec) {own : String} {index : Nat} {y : MethodName} {bytes : ByteArray} {maxL : Nat} {ret : Option FieldType} {hh : List (Nat × Nat × Nat × Nat)}
    (hown : s.vm.findClass own = some m.cls) (hlink : (Cond.methodLink own index y).before args s = true) (hstat : (Cond.static y).before args s = true) (hinit : (Cond.initialized y.cls).before args s = true)
    (hcode : (Cond.codeWith y bytes maxL ret hh).before args s = true) (hy : y.cls ≠ "java/lang/invoke/MethodHandle" ∧ y.cls ≠ "java/lang/invoke/VarHandle")
    {W9 : Nat} {Pre : Pt → Array Value → Prop} {Post : Pt → Array Value → Option Value → Pt → Prop} (hK : Back l R p e below s args y 3 W9 Pre Post)
    {g : JFrame} (hg : g.method = m) (hsize : g.locals.size = c.maxLocals) {argsL rest : List Value} (hlen : ∀ sig, parseMethodDescriptor y.desc = some sig → argsL.length = sig.parameters.length)
    (hstack : g.stack = argsL.reverse ++ rest) (hW : 2 * g.monitorRoom + (rest.map fun v => v.category).sum ≤ W9) (hdg : decode c.code g.pc = .ok (.invokestatic index, 3))
    (hpre : ∀ vm₁, s.WarmedH vm₁ → Pre ⟨T.setVm vm₁, locs, cells, slots⟩ argsL.toArray) :
    ∃ (v : Option Value) (vm₁ : Vm) (B : Pt), s.WarmedH vm₁ ∧ Stand p l e R s m args below meth c B.U B.locs B.cells B.slots ∧ Post ⟨T.setVm vm₁, locs, cells, slots⟩ argsL.toArray v B ∧
      ∀ target, Steps p.tables e below (B.U.setTop { g with pc := g.pc + 3, stack := v.toList ++ rest }) target → Steps p.tables e below (T.setTop g) target := by
  obtain ⟨mk, methM, cM, hnamed, hmethM, -, -, -, -, -, -, hsigM⟩ := Cond.codeWith_spec hcode
  have hstatic : methM.isStatic = true := Cond.static_spec hnamed hmethM hstat
  obtain ⟨kP, hkP, -⟩ := className_of_methodNamed hnamed
  have hinitP : kP.init = .initialized := Cond.initialized_spec (findClass_of_methodNamed hnamed) hkP hinit
  obtain ⟨vm₁, X₁, hstep₁⟩ := X.invokestatic hexec hown hlink hnamed hmethM hstatic hkP hinitP hy (g := g) hg (argsL := argsL) (rest := rest) (hlen _ hsigM) hstack hdg
  obtain ⟨v, B, X', hpost, hsteps⟩ := hK m meth c ⟨T.setVm vm₁, locs, cells, slots⟩ { g with stack := rest } (.invokestatic index) mk argsL.toArray X₁ hg hsize hdg hW (X₁.named hnamed) (hpre vm₁ X₁.warmed)
  exact ⟨v, vm₁, B, X₁.warmed, X', hpost, fun target h => hstep₁ _ fun acts => by rw [doInvoke_state]; exact hsteps.trans h⟩
theorem vx_runSW {y : MethodName} {bytes cc : ByteArray} {maxL nL mc ms n index : Nat} {ret : Option FieldType} {hh : List (Nat × Nat × Nat × Nat)} {ws : List Cond} {rm : Room} {Pc : Array Value → State → Prop} {Qc : Array Value → State → Outcome → State → Prop} {free : Addr → Prop} {Ts : List Cond} {own : String} {As rest : List Value} {g : JFrame}
    (S : CallFix p m c cc nL s args Ts own) (hM : Met l y ws rm Pc Qc mc ms free) (cw : vx_CSW R s args own index y bytes maxL ret hh ws rm mc ms n) (hp : PreS s H Pc As)
    (hg : g.method = m) (hn : As.length = n) (hsize : g.locals.size = nL) (hstack : g.stack = As.reverse ++ rest) (hW : 2 * g.monitorRoom + (rest.map fun v => v.category).sum ≤ 8) (hdg : decode cc g.pc = .ok (.invokestatic index, 3)) (hf : cells + mc ≤ R.cells ∧ slots + ms ≤ R.slots) :
    va_Run p l e R s m args below meth c H locs cells slots mc ms g rest (Qc As.toArray) (free) := by
  obtain ⟨⟨hrc, hrs, hfr, hlo, hws, hcw⟩, hcode, hini, hy, hlen, hl, hstt⟩ := cw
  have hK : Back l R p e below s args y 3 8 (PreOf R mc ms Pc) (PostOf Qc mc ms free) := va_backW (hh := hh) (bytes := bytes) (maxL := maxL) (ret := ret) hM hp.1 hrc hrs hfr hlo hws hcw (fun a' U hW => word_at hW (Or.inl (by first | rfl | simp [Cond.onTables, Cond.keeps, Cond.steady])) hini)
  obtain ⟨hx, hb, hml, ho, -⟩ := S
  intro T hT X
  obtain ⟨v, vm₁, ⟨U', l2, c2, s2⟩, hW₁, X', ⟨g', mk, t, L, e1, e2, hq, h1, hL, h2, h3⟩, st⟩ := vx_callSW X hx (hh := hh) (bytes := bytes) (maxL := maxL) (ret := ret) ho hl hstt hini hcode hy hK hg (hsize.trans hml.symm) (argsL := As) (rest := rest) (fun sig h => hn.trans (hlen sig h)) hstack hW (by rw [hb]; exact hdg)
    (fun vm₁ hW₁ => ⟨hf.1, hf.2, hp.2 (T.setVm vm₁) hT hW₁⟩)
  dsimp only [Pt.U, Pt.locs, Pt.cells, Pt.slots] at X' e1 e2 h1 h2 h3 st
  subst h1; subst h2; subst h3
  exact ⟨v, (T.setVm vm₁).calling g' mk As.toArray, t, U', L, hT, X', hL, e1, e2, hq, st⟩
/-- not caught here, past rows that name other classes: it goes on to the caller -/
theorem vx_outP {p : Program} {l : Launch} {e : Env} {R : Room} {s : State} {m : MethodId} {args : Array Value} {below : List Frame} {meth : Method} {c : Code} {H : Heap} {locs : List Loc} {cells slots : Nat} {free : Addr → Prop} {ls : Array Slot} {rest : List Value} {Qc : Array Value → State → Outcome → State → Prop} {XC : String → State → State → Prop}
    {pc : Nat} {own E : String} {ce : Cell} {q : Addr} {mc ms : Nat} (hown : s.vm.findClass own = some m.cls) (hlocks : meth.locks = false)
    (hpass : ∀ z ∈ c.exceptionTable.toList, covers z pc = false ∨ (z.catchType ≠ 0 ∧ ∃ nm : String, (Cond.classLink own z.catchType nm).before args s = true ∧ va_Nc E nm s)) (hcell : H[q]? = some ce) (hv : ce.vm = .none) (hcl : s.vm.findClass E = some ce.cls)
    (hx : ∀ t : State, t.heap = H → s.vm.Alike t.vm → XC E s t) (hf : ∀ z ∈ locs, free z.base) (hc : cells ≤ mc) (hs : slots ≤ ms) :
    vx_W p l e R s m args below meth c H locs cells slots (vx_MQ below Qc XC args s mc ms free) (F0 m pc ls rest) q := by
  intro T hT X
  have hpl : e.platform.magicAccessors = ({} : Platform).magicAccessors := by rw [X.admits.platform]
  obtain ⟨vm', hW', X', st⟩ := X.outThrough hlocks q (g := F0 m pc ls rest) rfl rfl rfl (cell := ce) (by rw [hT]; exact hcell) (by rw [hv]; rfl)
    (by obtain ⟨k9, h9, -⟩ := Vm.findClass_spec hcl; exact ⟨k9, h9⟩) (fun z hz => by
      rcases hpass z hz with h | ⟨hz0, nm, hl1, hn1⟩
      · exact Or.inl h
      · obtain ⟨c6, hc6, hcl6⟩ := Cond.classLink_spec hown hl1 e.platform hpl
        obtain ⟨a8, b8, h1, h2, h3⟩ := hn1
        cases Option.some.inj (h1.symm.trans hcl)
        cases Option.some.inj (h2.symm.trans hc6)
        exact Or.inr ⟨hz0, _, hcl6, h3⟩)
  obtain ⟨g₀, hfr⟩ := X'.frames_eq
  have hcell9 : ((T.setVm vm').setFrames (.throwing q :: below)).heap[q]? = some ce := by
    show T.heap[q]? = some ce
    rw [hT]; exact hcell
  have hend : Ended ((T.setVm vm').setFrames (.throwing q :: below)) below (.threw q) := State.frames_setFrames _ (State.cur_lt_of_frames hfr)
  refine ⟨(T.setVm vm').setFrames (.throwing q :: below), ?_, .threw q, X'.here.running, hend, Or.inr ⟨q, rfl, E, ce, locs, hx _ hT (X'.ends _).1.alike, hcell9, hv, hcl, (X'.ends _).1, (X'.ends _).2.mono hc hs, hf⟩⟩
  rw [X.pushThrowing_eq]
  exact st
/-- a thing of a world lies in the heap -/
theorem vx_lt {D : va_G} {cl : List vw_C} {ws : va_W} {H1 : Heap} (h : va_P D cl ws H1) {k : Nat} {q : Nat × va_E} (hk : ws[k]? = some q) : q.1 < H1.size := (h k q hk).lt
end VXS
/-! ===== END ===== -/
/-! ===== BEGIN methods with a table of their own: called by a name, returning or throwing ===== -/
section VXH
/-! vx_backW, vx_callVX, vx_callSX, vx_callVW, vx_runVW, vx_runVX, vx_runSX, vx_ofWH follow the same proofs as their sisters above (Free/Laws.lean, Shelf42/LK1.lean); vx_outP calls Shelf42/NT130.lean (outThrough). -/
section
variable {l : Launch} {R : Room} {p : Program} {e : Env} {below : List Frame} {s : State} {sargs : Array Value} {y : MethodName} {len W9 : Nat}
theorem vx_backW {ws : List Cond} {rm : Room} {Pc : Array Value → State → Prop} {Qc : Array Value → State → Outcome → State → Prop} {XC : String → State → State → Prop} {mc ms : Nat} {free : Addr → Prop} {bytes : ByteArray} {maxL : Nat} {ret : Option FieldType} {hh : List (Nat × Nat × Nat × Nat)}
    (hM : vx_Met l y ws rm Pc Qc XC mc ms free) (hblind : FrameBlind Pc) (hrc : rm.cells = mc) (hrs : rm.slots = ms)
    (hframes : rm.frames + 1 ≤ R.frames) (hlocals : W9 + (maxL + 11) + rm.locals ≤ R.locals)
    (hws : ∀ w ∈ ws, ∀ a' U, s.WarmedH U.vm → w.before a' U = true) (hcode : Cond.codeWith y bytes maxL ret hh ∈ ws) (hinit : ∀ a' U, s.WarmedH U.vm → (Cond.initialized y.cls).before a' U = true) :
    vx_Back l R p e below s sargs y len W9 (PreOf R mc ms Pc) (PostOf Qc mc ms free) (vx_Post XC mc ms free) := by
  intro m meth c A g ig mk a X hg hsize hdg hW hn hp
  have h1 : (headSpec ws rm).pre.before a A.U = true := atoms_intro fun w hw => hws w hw _ _ X.warmed
  have h2 : (Cond.codeWith y bytes maxL ret hh).before a A.U = true := hws _ hcode _ _ X.warmed
  have h3 : (Cond.initialized y.cls).before a A.U = true := hinit _ _ X.warmed
  have h4 : A.cells + (headSpec ws rm).room.cells ≤ R.cells := by rw [show (headSpec ws rm).room.cells = mc from hrc]; exact hp.1
  have h5 : A.slots + (headSpec ws rm).room.slots ≤ R.slots := by rw [show (headSpec ws rm).room.slots = ms from hrs]; exact hp.2.1
  have hPc : Pc a (A.U.calling g mk a) := hblind _ _ _ _ hp.2.2
  obtain ⟨U, Ls, c0, s0⟩ := A
  dsimp only [Pt.U, Pt.locs, Pt.cells, Pt.slots] at h1 h2 h3 h4 h5 X hn hPc ⊢
  obtain ⟨m9, methY, cY, hn9, hmY, hcY, -, hlY, -⟩ := Cond.codeWith_spec h2
  cases Option.some.inj (hn9.symm.trans hn)
  obtain ⟨kY, hkY, -⟩ := className_of_methodNamed hn
  have hinitY : kY.init = .initialized := Cond.initialized_spec (findClass_of_methodNamed hn) hkY h3
  have h : At U g.method c below := by rw [hg]; exact X.here
  have hlocals9 : W9 + (maxL + 11) + (headSpec ws rm).room.locals ≤ R.locals := hlocals
  have happ : (headSpec ws rm).appliesLoose y e.platform (U.calling g mk a) = true :=
    Spec.appliesLoose_calling (g := g) h hdg hn hkY hinitY
      (X.room_calling (g := g) (R' := (headSpec ws rm).room) hsize hmY hcY hframes (by rw [hlY]; omega) h4 h5) h1
  obtain ⟨mid, hmid⟩ := h.above
  have hfr : (U.setTop g).frames = (.java g :: mid) ++ below := by rw [State.frames_setTop' g h.top, hmid]; rfl
  obtain ⟨o, s₂, hsteps, -, hend, hq⟩ := Steps.callFree hM p X.admits X.cas X.clock (acts := []) hfr happ hPc trivial
  have hq' : vx_Q Qc XC mc ms free a (U.calling g mk a) o s₂ := hq
  rw [State.frames_setTop' g h.top] at hend
  obtain ⟨g₀, hg0⟩ := Option.isSome_iff_exists.mp h.top
  obtain ⟨r, hr⟩ := State.topJava?_eq_some.mp hg0
  have hr' : (({ U with heap := s₂.heap, slotsUsed := s₂.slotsUsed } : State).setVm s₂.vm).frames = .java g₀ :: r := hr
  rcases hq' with ⟨hqc, L, hfe, hL⟩ | ⟨q, rfl, E, ce, L, hx, hce, hcv, hcl, hW₂, hsm, hL⟩
  · obtain ⟨⟨v, rfl⟩, hW₂, e2, q2, q3, q4, q5, q6⟩ := id hfe
    have e3 : s₂ = ({ (U.calling g mk a).setFrames s₂.frames with heap := s₂.heap, slotsUsed := s₂.slotsUsed } : State).setVm s₂.vm := by
      have : s₂ = ({ s₂ with vm := (U.calling g mk a).vm } : State).setVm s₂.vm := rfl
      rw [e2] at this
      exact this
    obtain ⟨c₂, i₂, len₂, hc₂, hd₂, hf₂⟩ := hend
    have hW' : U.WarmedH s₂.vm := hW₂
    have hcc : c₂ = c := by
      have h1 : s₂.code? g.method = U.code? g.method := by
        rw [State.code?_eq, State.code?_eq, hW'.alike.method?]
      exact Option.some.inj (hc₂.symm.trans (h1.trans h.code))
    subst hcc
    have hlen : len₂ = len := by rw [hdg] at hd₂; cases hd₂; rfl
    subst hlen
    have hs₂ : s₂ = (({ U with heap := s₂.heap, slotsUsed := s₂.slotsUsed } : State).setVm s₂.vm).setTop { g with pc := g.pc + len₂, stack := v.toList ++ g.stack } := by
      refine e3.trans ?_
      rw [hf₂, State.calling_eq h.top, State.setFrames_setFrames, State.setTop_of_frames _ hr', hr]
      rfl
    have hsame : U.sameButNew ({ U with heap := s₂.heap, slotsUsed := s₂.slotsUsed } : State) L mc ms := by
      refine ⟨?_, q2, q3, q4, q5, q6⟩
      obtain ⟨t, ht, -⟩ := State.frames_cons hr
      show ({ U with heap := s₂.heap, slotsUsed := s₂.slotsUsed } : State) = { U.setFrames U.frames with heap := s₂.heap, slotsUsed := s₂.slotsUsed }
      rw [State.setFrames_self ht]
    subst hg
    refine Or.inl ⟨v, ⟨(({ U with heap := s₂.heap, slotsUsed := s₂.slotsUsed } : State).setVm s₂.vm), Ls ++ L, c0 + mc, s0 + ms⟩,
      ⟨X.admits, X.cas, X.clock, X.frames, X.room, X.hears, X.method, X.code, (X.here.setHeapUsed s₂.heap s₂.slotsUsed).setVm hW'.alike, X.tail, State.WarmedH.trans X.warmed hW', X.limits, X.bytes, X.same.trans (hsame.setVm s.vm)⟩,
      ⟨g, mk, s₂, L, rfl, rfl, hqc, rfl, hL, rfl, rfl⟩, ?_⟩
    show Steps p.tables e below _ ((({ U with heap := s₂.heap, slotsUsed := s₂.slotsUsed } : State).setVm s₂.vm).setTop { g with pc := g.pc + len₂, stack := v.toList ++ g.stack })
    rw [← hs₂]
    exact hsteps
  · obtain ⟨e2, q2, q3, q4, q5, q6⟩ := id hsm
    have e3 : s₂ = ({ (U.calling g mk a).setFrames s₂.frames with heap := s₂.heap, slotsUsed := s₂.slotsUsed } : State).setVm s₂.vm := by
      have : s₂ = ({ s₂ with vm := (U.calling g mk a).vm } : State).setVm s₂.vm := rfl
      rw [e2] at this
      exact this
    have hf₂ : s₂.frames = .throwing q :: .java g :: U.frames.tail := hend
    have hW' : U.WarmedH s₂.vm := hW₂
    have hs₂ : s₂ = ((({ U with heap := s₂.heap, slotsUsed := s₂.slotsUsed } : State).setVm s₂.vm).setTop g).pushFrame (.throwing q) := by
      refine e3.trans ?_
      rw [hf₂, State.calling_eq h.top, State.setFrames_setFrames, State.pushFrame, State.frames_setTop _ hr', State.setTop_of_frames _ hr', State.setFrames_setFrames, hr]
      rfl
    have hsame : U.sameButNew ({ U with heap := s₂.heap, slotsUsed := s₂.slotsUsed } : State) L mc ms := by
      refine ⟨?_, q2, q3, q4, q5, q6⟩
      obtain ⟨t, ht, -⟩ := State.frames_cons hr
      show ({ U with heap := s₂.heap, slotsUsed := s₂.slotsUsed } : State) = { U.setFrames U.frames with heap := s₂.heap, slotsUsed := s₂.slotsUsed }
      rw [State.setFrames_self ht]
    subst hg
    refine Or.inr ⟨q, ⟨(({ U with heap := s₂.heap, slotsUsed := s₂.slotsUsed } : State).setVm s₂.vm), Ls ++ L, c0 + mc, s0 + ms⟩,
      ⟨X.admits, X.cas, X.clock, X.frames, X.room, X.hears, X.method, X.code, (X.here.setHeapUsed s₂.heap s₂.slotsUsed).setVm hW'.alike, X.tail, State.WarmedH.trans X.warmed hW', X.limits, X.bytes, X.same.trans (hsame.setVm s.vm)⟩,
      ⟨g, mk, s₂, L, E, ce, rfl, rfl, hx, hce, hcv, hcl, rfl, hL, rfl, rfl⟩, ?_⟩
    show Steps p.tables e below _ (((({ U with heap := s₂.heap, slotsUsed := s₂.slotsUsed } : State).setVm s₂.vm).setTop g).pushFrame (.throwing q))
    rw [← hs₂]
    exact hsteps
end
variable {p : Program} {l : Launch} {e : Env} {R : Room} {s : State} {m : MethodId} {args : Array Value} {below : List Frame} {meth : Method} {c : Code} {T : State} {H : Heap} {locs : List Loc} {cells slots : Nat}
theorem vx_callVX (X : Stand p l e R s m args below meth c T locs cells slots) (hexec : p.tables.exec = Jvm.exec) {own C : String} {index : Nat} {y : MethodName} {bytes : ByteArray} {maxL : Nat} {ret : Option FieldType} {hh : List (Nat × Nat × Nat × Nat)}
    (hown : s.vm.findClass own = some m.cls) (hlink : (Cond.methodLink own index y).before args s = true) (hinst : (Cond.instanceMethod y).before args s = true) (hsel : (Cond.selects C y y).before args s = true)
    (hcode : (Cond.codeWith y bytes maxL ret hh).before args s = true) (hy : y.cls ≠ "java/lang/invoke/MethodHandle" ∧ y.cls ≠ "java/lang/invoke/VarHandle")
    {W9 : Nat} {Pre : Pt → Array Value → Prop} {Post : Pt → Array Value → Option Value → Pt → Prop} {PostX : Pt → Array Value → Addr → Pt → Prop} (hK : vx_Back l R p e below s args y 3 W9 Pre Post PostX)
    {b : Addr} {cellB : Cell} (hcell : T.heap[b]? = some cellB) (hobj : cellB.vm.isStatics = false) (hcls : s.vm.findClass C = some cellB.cls)
    {g : JFrame} (hg : g.method = m) (hsize : g.locals.size = c.maxLocals) {argsL rest : List Value} (hlen : ∀ sig, parseMethodDescriptor y.desc = some sig → argsL.length = sig.parameters.length)
    (hstack : g.stack = argsL.reverse ++ .ref b :: rest) (hW : 2 * g.monitorRoom + (rest.map fun v => v.category).sum ≤ W9) (hdg : decode c.code g.pc = .ok (.invokevirtual index, 3))
    (hpre : ∀ vm₁, s.WarmedH vm₁ → Pre ⟨T.setVm vm₁, locs, cells, slots⟩ (Value.ref b :: argsL).toArray) :
    (∃ (v : Option Value) (vm₁ : Vm) (B : Pt), s.WarmedH vm₁ ∧ Stand p l e R s m args below meth c B.U B.locs B.cells B.slots ∧ Post ⟨T.setVm vm₁, locs, cells, slots⟩ (Value.ref b :: argsL).toArray v B ∧
      ∀ target, Steps p.tables e below (B.U.setTop { g with pc := g.pc + 3, stack := v.toList ++ rest }) target → Steps p.tables e below (T.setTop g) target) ∨
    (∃ (q : Addr) (vm₁ : Vm) (B : Pt), s.WarmedH vm₁ ∧ Stand p l e R s m args below meth c B.U B.locs B.cells B.slots ∧ PostX ⟨T.setVm vm₁, locs, cells, slots⟩ (Value.ref b :: argsL).toArray q B ∧
      Steps p.tables e below (T.setTop g) ((B.U.setTop { g with stack := rest }).pushFrame (.throwing q))) := by
  obtain ⟨mk, methM, hnamed, hmethM, hstM, habM⟩ := Cond.instanceMethod_spec hinst
  obtain ⟨m8, methM', cM, hn8, hmethM', -, -, -, -, -, -, hsigM⟩ := Cond.codeWith_spec hcode
  cases Option.some.inj (hn8.symm.trans hnamed)
  cases hmethM.symm.trans hmethM'
  obtain ⟨c2, r2, m2, q1, q2, q3, q4, kP, hkP, hkPi⟩ := Cond.selects_spec hsel
  cases hcls.symm.trans q1
  cases (State.methodFound?_of_named hnamed hy).symm.trans q2
  cases hnamed.symm.trans q3
  have hselP : selectMethod e.platform s.vm cellB.cls mk = .method mk := by rw [Launch.admits_selectMethod X.admits]; exact q4
  obtain ⟨vm₁, X₁, hstep₁⟩ := X.invokevirtual hexec hown hlink hnamed hmethM hstM hkP hkPi hy (a := b) (cell := cellB) hcell
    (fun z h => by rw [h] at hobj; cases hobj) hselP hmethM habM hkP hkPi (g := g) hg (argsL := argsL) (rest := rest) (hlen _ hsigM) hstack hdg
  rcases hK m meth c ⟨T.setVm vm₁, locs, cells, slots⟩ { g with stack := rest } (.invokevirtual index) mk (Value.ref b :: argsL).toArray X₁ hg hsize hdg hW (X₁.named hnamed) (hpre vm₁ X₁.warmed) with ⟨v, B, X', hpost, hsteps⟩ | ⟨q, B, X', hpost, hsteps⟩
  · exact Or.inl ⟨v, vm₁, B, X₁.warmed, X', hpost, fun target h => hstep₁ _ fun acts => by rw [doInvoke_state]; exact hsteps.trans h⟩
  · exact Or.inr ⟨q, vm₁, B, X₁.warmed, X', hpost, hstep₁ _ fun acts => by rw [doInvoke_state]; exact hsteps⟩
theorem vx_callSX (X : Stand p l e R s m args below meth c T locs cells slots) (hexec : p.tables.exec = Jvm.exec) {own : String} {index : Nat} {y : MethodName} {bytes : ByteArray} {maxL : Nat} {ret : Option FieldType} {hh : List (Nat × Nat × Nat × Nat)}
    (hown : s.vm.findClass own = some m.cls) (hlink : (Cond.methodLink own index y).before args s = true) (hstat : (Cond.static y).before args s = true) (hinit : (Cond.initialized y.cls).before args s = true)
    (hcode : (Cond.codeWith y bytes maxL ret hh).before args s = true) (hy : y.cls ≠ "java/lang/invoke/MethodHandle" ∧ y.cls ≠ "java/lang/invoke/VarHandle")
    {W9 : Nat} {Pre : Pt → Array Value → Prop} {Post : Pt → Array Value → Option Value → Pt → Prop} {PostX : Pt → Array Value → Addr → Pt → Prop} (hK : vx_Back l R p e below s args y 3 W9 Pre Post PostX)
    {g : JFrame} (hg : g.method = m) (hsize : g.locals.size = c.maxLocals) {argsL rest : List Value} (hlen : ∀ sig, parseMethodDescriptor y.desc = some sig → argsL.length = sig.parameters.length)
    (hstack : g.stack = argsL.reverse ++ rest) (hW : 2 * g.monitorRoom + (rest.map fun v => v.category).sum ≤ W9) (hdg : decode c.code g.pc = .ok (.invokestatic index, 3))
    (hpre : ∀ vm₁, s.WarmedH vm₁ → Pre ⟨T.setVm vm₁, locs, cells, slots⟩ argsL.toArray) :
    (∃ (v : Option Value) (vm₁ : Vm) (B : Pt), s.WarmedH vm₁ ∧ Stand p l e R s m args below meth c B.U B.locs B.cells B.slots ∧ Post ⟨T.setVm vm₁, locs, cells, slots⟩ argsL.toArray v B ∧
      ∀ target, Steps p.tables e below (B.U.setTop { g with pc := g.pc + 3, stack := v.toList ++ rest }) target → Steps p.tables e below (T.setTop g) target) ∨
    (∃ (q : Addr) (vm₁ : Vm) (B : Pt), s.WarmedH vm₁ ∧ Stand p l e R s m args below meth c B.U B.locs B.cells B.slots ∧ PostX ⟨T.setVm vm₁, locs, cells, slots⟩ argsL.toArray q B ∧
      Steps p.tables e below (T.setTop g) ((B.U.setTop { g with stack := rest }).pushFrame (.throwing q))) := by
  obtain ⟨mk, methM, cM, hnamed, hmethM, -, -, -, -, -, -, hsigM⟩ := Cond.codeWith_spec hcode
  have hstatic : methM.isStatic = true := Cond.static_spec hnamed hmethM hstat
  obtain ⟨kP, hkP, -⟩ := className_of_methodNamed hnamed
  have hinitP : kP.init = .initialized := Cond.initialized_spec (findClass_of_methodNamed hnamed) hkP hinit
  obtain ⟨vm₁, X₁, hstep₁⟩ := X.invokestatic hexec hown hlink hnamed hmethM hstatic hkP hinitP hy (g := g) hg (argsL := argsL) (rest := rest) (hlen _ hsigM) hstack hdg
  rcases hK m meth c ⟨T.setVm vm₁, locs, cells, slots⟩ { g with stack := rest } (.invokestatic index) mk argsL.toArray X₁ hg hsize hdg hW (X₁.named hnamed) (hpre vm₁ X₁.warmed) with ⟨v, B, X', hpost, hsteps⟩ | ⟨q, B, X', hpost, hsteps⟩
  · exact Or.inl ⟨v, vm₁, B, X₁.warmed, X', hpost, fun target h => hstep₁ _ fun acts => by rw [doInvoke_state]; exact hsteps.trans h⟩
  · exact Or.inr ⟨q, vm₁, B, X₁.warmed, X', hpost, hstep₁ _ fun acts => by rw [doInvoke_state]; exact hsteps⟩
theorem vx_callVW (X : Stand p l e R s m args below meth c T locs cells slots) (hexec : p.tables.exec = Jvm.exec) {own C : String} {index : Nat} {y : MethodName} {bytes : ByteArray} {maxL : Nat} {ret : Option FieldType} {hh : List (Nat × Nat × Nat × Nat)}
    (hown : s.vm.findClass own = some m.cls) (hlink : (Cond.methodLink own index y).before args s = true) (hinst : (Cond.instanceMethod y).before args s = true) (hsel : (Cond.selects C y y).before args s = true)
    (hcode : (Cond.codeWith y bytes maxL ret hh).before args s = true) (hy : y.cls ≠ "java/lang/invoke/MethodHandle" ∧ y.cls ≠ "java/lang/invoke/VarHandle")
    {W9 : Nat} {Pre : Pt → Array Value → Prop} {Post : Pt → Array Value → Option Value → Pt → Prop} (hK : Back l R p e below s args y 3 W9 Pre Post)
    {b : Addr} {cellB : Cell} (hcell : T.heap[b]? = some cellB) (hobj : cellB.vm.isStatics = false) (hcls : s.vm.findClass C = some cellB.cls)
    {g : JFrame} (hg : g.method = m) (hsize : g.locals.size = c.maxLocals) {argsL rest : List Value} (hlen : ∀ sig, parseMethodDescriptor y.desc = some sig → argsL.length = sig.parameters.length)
    (hstack : g.stack = argsL.reverse ++ .ref b :: rest) (hW : 2 * g.monitorRoom + (rest.map fun v => v.category).sum ≤ W9) (hdg : decode c.code g.pc = .ok (.invokevirtual index, 3))
    (hpre : ∀ vm₁, s.WarmedH vm₁ → Pre ⟨T.setVm vm₁, locs, cells, slots⟩ (Value.ref b :: argsL).toArray) :
    ∃ (v : Option Value) (vm₁ : Vm) (B : Pt), s.WarmedH vm₁ ∧ Stand p l e R s m args below meth c B.U B.locs B.cells B.slots ∧ Post ⟨T.setVm vm₁, locs, cells, slots⟩ (Value.ref b :: argsL).toArray v B ∧
      ∀ target, Steps p.tables e below (B.U.setTop { g with pc := g.pc + 3, stack := v.toList ++ rest }) target → Steps p.tables e below (T.setTop g) target := by
  obtain ⟨mk, methM, hnamed, hmethM, hstM, habM⟩ := Cond.instanceMethod_spec hinst
  obtain ⟨m8, methM', cM, hn8, hmethM', -, -, -, -, -, -, hsigM⟩ := Cond.codeWith_spec hcode
  cases Option.some.inj (hn8.symm.trans hnamed)
  cases hmethM.symm.trans hmethM'
  obtain ⟨c2, r2, m2, q1, q2, q3, q4, kP, hkP, hkPi⟩ := Cond.selects_spec hsel
  cases hcls.symm.trans q1
  cases (State.methodFound?_of_named hnamed hy).symm.trans q2
  cases hnamed.symm.trans q3
  have hselP : selectMethod e.platform s.vm cellB.cls mk = .method mk := by rw [Launch.admits_selectMethod X.admits]; exact q4
  obtain ⟨vm₁, X₁, hstep₁⟩ := X.invokevirtual hexec hown hlink hnamed hmethM hstM hkP hkPi hy (a := b) (cell := cellB) hcell
    (fun z h => by rw [h] at hobj; cases hobj) hselP hmethM habM hkP hkPi (g := g) hg (argsL := argsL) (rest := rest) (hlen _ hsigM) hstack hdg
  obtain ⟨v, B, X', hpost, hsteps⟩ := hK m meth c ⟨T.setVm vm₁, locs, cells, slots⟩ { g with stack := rest } (.invokevirtual index) mk (Value.ref b :: argsL).toArray X₁ hg hsize hdg hW (X₁.named hnamed) (hpre vm₁ X₁.warmed)
  exact ⟨v, vm₁, B, X₁.warmed, X', hpost, fun target h => hstep₁ _ fun acts => by rw [doInvoke_state]; exact hsteps.trans h⟩
abbrev vx_CVW (R : Room) (s : State) (args : Array Value) (own C : String) (index : Nat) (y : MethodName) (bytes : ByteArray) (maxL : Nat) (ret : Option FieldType) (hh : List (Nat × Nat × Nat × Nat)) (ws : List Cond) (rm : Room) (mc ms n : Nat) : Prop :=
  (rm.cells = mc ∧ rm.slots = ms ∧ rm.frames + 1 ≤ R.frames ∧ 8 + (maxL + 11) + rm.locals ≤ R.locals ∧ (∀ w ∈ ws, ∀ (a' : Array Value) (U : State), s.WarmedH U.vm → w.before a' U = true) ∧ Cond.codeWith y bytes maxL ret hh ∈ ws) ∧
  (Cond.codeWith y bytes maxL ret hh).before args s = true ∧ (Cond.initialized y.cls).before args s = true ∧ (y.cls ≠ "java/lang/invoke/MethodHandle" ∧ y.cls ≠ "java/lang/invoke/VarHandle") ∧
  (∀ sig, parseMethodDescriptor y.desc = some sig → n = sig.parameters.length) ∧ (Cond.methodLink own index y).before args s = true ∧ (Cond.instanceMethod y).before args s = true ∧ (Cond.selects C y y).before args s = true
theorem vx_cwVW {own C : String} {index maxL mc ms : Nat} {y : MethodName} {bytes : ByteArray} {ret : Option FieldType} {hh : List (Nat × Nat × Nat × Nat)} {Ts ws ws' : List Cond} {rm : Room} (n : Nat) (ht : ∀ w ∈ Ts, w.before args s = true) (hT : GoodIn Ts (wsV own index C y ws)) (hw : ws = Cond.codeWith y bytes maxL ret hh :: ws') (hrc : rm.cells = mc) (hrs : rm.slots = ms)
    (hd : y.cls = C ∧ y.cls ≠ "java/lang/invoke/MethodHandle" ∧ y.cls ≠ "java/lang/invoke/VarHandle" ∧ (parseMethodDescriptor y.desc).map (fun d => d.parameters.length) = some n) (hR : rm.frames + 1 ≤ R.frames ∧ 8 + (maxL + 11) + rm.locals ≤ R.locals) :
    vx_CVW R s args own C index y bytes maxL ret hh ws rm mc ms n := by
  obtain ⟨hC, hd⟩ := hd
  subst hC
  have ok : ∀ w ∈ wsV own index y.cls y ws, w.before args s = true := fun w h => ht w (hT w h).1
  have hG : GoodIn Ts ws := fun w h => hT w (by unfold wsV; exact List.mem_append_right _ h)
  have hc : Cond.codeWith y bytes maxL ret hh ∈ ws := by rw [hw]; exact List.mem_cons_self
  refine ⟨⟨hrc, hrs, hR.1, hR.2, pay_in ht hG, hc⟩, ht _ (hG _ hc).1, ok _ (by simp [wsV]), ⟨hd.1, hd.2.1⟩, fun sig h => ?_, ok _ (by simp [wsV]), ok _ (by simp [wsV]), ok _ (by simp [wsV])⟩
  have h2 := hd.2.2
  rw [h] at h2
  exact (Option.some.inj h2).symm
theorem vx_runVW {y : MethodName} {bytes cc : ByteArray} {maxL nL mc ms n index : Nat} {ret : Option FieldType} {hh : List (Nat × Nat × Nat × Nat)} {ws : List Cond} {rm : Room} {Pc : Array Value → State → Prop} {Qc : Array Value → State → Outcome → State → Prop} {free : Addr → Prop} {Ts : List Cond} {own C : String} {b : Addr} {As rest : List Value} {g : JFrame}
    (S : CallFix p m c cc nL s args Ts own) (hM : Met l y ws rm Pc Qc mc ms free) (cw : vx_CVW R s args own C index y bytes maxL ret hh ws rm mc ms n) (hp : PreV s H C b Pc As)
    (hg : g.method = m) (hn : As.length = n) (hsize : g.locals.size = nL) (hstack : g.stack = As.reverse ++ .ref b :: rest) (hW : 2 * g.monitorRoom + (rest.map fun v => v.category).sum ≤ 8) (hdg : decode cc g.pc = .ok (.invokevirtual index, 3)) (hf : cells + mc ≤ R.cells ∧ slots + ms ≤ R.slots) :
    va_Run p l e R s m args below meth c H locs cells slots mc ms g rest (Qc (Value.ref b :: As).toArray) free := by
  obtain ⟨⟨hrc, hrs, hfr, hlo, hws, hcw⟩, hcode, hini, hy, hlen, hl, hin, hse⟩ := cw
  have hK : Back l R p e below s args y 3 8 (PreOf R mc ms Pc) (PostOf Qc mc ms free) := va_backW (hh := hh) (bytes := bytes) (maxL := maxL) (ret := ret) hM hp.1 hrc hrs hfr hlo hws hcw (fun a' U hW => word_at hW (Or.inl (by first | rfl | simp [Cond.onTables, Cond.keeps, Cond.steady])) hini)
  obtain ⟨hx, hb, hml, ho, -⟩ := S
  obtain ⟨-, ⟨cellB, hcB, hoB, hclB⟩, hPc⟩ := hp
  intro T hT X
  obtain ⟨v, vm₁, ⟨U', l2, c2, s2⟩, hW₁, X', ⟨g', mk, t, L, e1, e2, hq, h1, hL, h2, h3⟩, st⟩ := vx_callVW X hx (C := C) (hh := hh) (bytes := bytes) (maxL := maxL) (ret := ret) ho hl hin hse hcode hy hK (by rw [hT]; exact hcB) hoB hclB hg (hsize.trans hml.symm) (argsL := As) (rest := rest) (fun sig h => hn.trans (hlen sig h)) hstack hW (by rw [hb]; exact hdg)
    (fun vm₁ hW₁ => ⟨hf.1, hf.2, hPc (T.setVm vm₁) hT hW₁⟩)
  dsimp only [Pt.U, Pt.locs, Pt.cells, Pt.slots] at X' e1 e2 h1 h2 h3 st
  subst h1; subst h2; subst h3
  exact ⟨v, (T.setVm vm₁).calling g' mk (Value.ref b :: As).toArray, t, U', L, hT, X', hL, e1, e2, hq, st⟩
section
variable {y : MethodName} {bytes cc : ByteArray} {maxL nL mc ms n index : Nat} {ret : Option FieldType} {ws : List Cond} {rm : Room} {Pc : Array Value → State → Prop} {Qc : Array Value → State → Outcome → State → Prop} {XC : String → State → State → Prop} {free : Addr → Prop} {Ts : List Cond} {own C : String} {b : Addr} {As rest : List Value} {g : JFrame}
theorem vx_runVX {hh : List (Nat × Nat × Nat × Nat)} (S : CallFix p m c cc nL s args Ts own) (hM : vx_Met l y ws rm Pc Qc XC mc ms free) (cw : vx_CVW R s args own C index y bytes maxL ret hh ws rm mc ms n) (hp : PreV s H C b Pc As)
    (hg : g.method = m) (hn : As.length = n) (hsize : g.locals.size = nL) (hstack : g.stack = As.reverse ++ .ref b :: rest) (hW : 2 * g.monitorRoom + (rest.map fun v => v.category).sum ≤ 8) (hdg : decode cc g.pc = .ok (.invokevirtual index, 3)) (hf : cells + mc ≤ R.cells ∧ slots + ms ≤ R.slots) :
    vx_Run p l e R s m args below meth c H locs cells slots mc ms g rest (Qc (Value.ref b :: As).toArray) XC free := by
  obtain ⟨⟨hrc, hrs, hfr, hlo, hws, hcw⟩, hcode, hini, hy, hlen, hl, hin, hse⟩ := cw
  have hK : vx_Back l R p e below s args y 3 8 (PreOf R mc ms Pc) (PostOf Qc mc ms free) (vx_Post XC mc ms free) := vx_backW (hh := hh) (bytes := bytes) (maxL := maxL) (ret := ret) hM hp.1 hrc hrs hfr hlo hws hcw (fun a' U hW => word_at hW (Or.inl (by first | rfl | simp [Cond.onTables, Cond.keeps, Cond.steady])) hini)
  obtain ⟨hx, hb, hml, ho, -⟩ := S
  obtain ⟨-, ⟨cellB, hcB, hoB, hclB⟩, hPc⟩ := hp
  intro T hT X
  rcases vx_callVX X hx (C := C) (hh := hh) (bytes := bytes) (maxL := maxL) (ret := ret) ho hl hin hse hcode hy hK (by rw [hT]; exact hcB) hoB hclB hg (hsize.trans hml.symm) (argsL := As) (rest := rest) (fun sig h => hn.trans (hlen sig h)) hstack hW (by rw [hb]; exact hdg)
    (fun vm₁ hW₁ => ⟨hf.1, hf.2, hPc (T.setVm vm₁) hT hW₁⟩) with ⟨v, vm₁, ⟨U', l2, c2, s2⟩, hW₁, X', ⟨g', mk, t, L, e1, e2, hq, h1, hL, h2, h3⟩, st⟩ | ⟨q, vm₁, ⟨U', l2, c2, s2⟩, hW₁, X', ⟨g', mk, t, L, E, ce, e1, e2, hq, hce, hcv, hcl, h1, hL, h2, h3⟩, st⟩
  · dsimp only [Pt.U, Pt.locs, Pt.cells, Pt.slots] at X' e1 e2 h1 h2 h3 st
    subst h1; subst h2; subst h3
    exact Or.inl ⟨v, (T.setVm vm₁).calling g' mk (Value.ref b :: As).toArray, t, U', L, hT, X', hL, e1, e2, hq, st⟩
  · dsimp only [Pt.U, Pt.locs, Pt.cells, Pt.slots] at X' e1 e2 h1 h2 h3 st hcl
    subst h1; subst h2; subst h3
    exact Or.inr ⟨q, (T.setVm vm₁).calling g' mk (Value.ref b :: As).toArray, t, U', L, E, ce, hT, X', hL, e1, e2, hq, hce, hcv, vx_cls hW₁ hcl, st⟩
theorem vx_runSX {hh : List (Nat × Nat × Nat × Nat)} (S : CallFix p m c cc nL s args Ts own) (hM : vx_Met l y ws rm Pc Qc XC mc ms free) (cw : vx_CSW R s args own index y bytes maxL ret hh ws rm mc ms n) (hp : PreS s H Pc As)
    (hg : g.method = m) (hn : As.length = n) (hsize : g.locals.size = nL) (hstack : g.stack = As.reverse ++ rest) (hW : 2 * g.monitorRoom + (rest.map fun v => v.category).sum ≤ 8) (hdg : decode cc g.pc = .ok (.invokestatic index, 3)) (hf : cells + mc ≤ R.cells ∧ slots + ms ≤ R.slots) :
    vx_Run p l e R s m args below meth c H locs cells slots mc ms g rest (Qc As.toArray) XC free := by
  obtain ⟨⟨hrc, hrs, hfr, hlo, hws, hcw⟩, hcode, hini, hy, hlen, hl, hstt⟩ := cw
  have hK : vx_Back l R p e below s args y 3 8 (PreOf R mc ms Pc) (PostOf Qc mc ms free) (vx_Post XC mc ms free) := vx_backW (hh := hh) (bytes := bytes) (maxL := maxL) (ret := ret) hM hp.1 hrc hrs hfr hlo hws hcw (fun a' U hW => word_at hW (Or.inl (by first | rfl | simp [Cond.onTables, Cond.keeps, Cond.steady])) hini)
  obtain ⟨hx, hb, hml, ho, -⟩ := S
  intro T hT X
  rcases vx_callSX X hx (hh := hh) (bytes := bytes) (maxL := maxL) (ret := ret) ho hl hstt hini hcode hy hK hg (hsize.trans hml.symm) (argsL := As) (rest := rest) (fun sig h => hn.trans (hlen sig h)) hstack hW (by rw [hb]; exact hdg)
    (fun vm₁ hW₁ => ⟨hf.1, hf.2, hp.2 (T.setVm vm₁) hT hW₁⟩) with ⟨v, vm₁, ⟨U', l2, c2, s2⟩, hW₁, X', ⟨g', mk, t, L, e1, e2, hq, h1, hL, h2, h3⟩, st⟩ | ⟨q, vm₁, ⟨U', l2, c2, s2⟩, hW₁, X', ⟨g', mk, t, L, E, ce, e1, e2, hq, hce, hcv, hcl, h1, hL, h2, h3⟩, st⟩
  · dsimp only [Pt.U, Pt.locs, Pt.cells, Pt.slots] at X' e1 e2 h1 h2 h3 st
    subst h1; subst h2; subst h3
    exact Or.inl ⟨v, (T.setVm vm₁).calling g' mk As.toArray, t, U', L, hT, X', hL, e1, e2, hq, st⟩
  · dsimp only [Pt.U, Pt.locs, Pt.cells, Pt.slots] at X' e1 e2 h1 h2 h3 st hcl
    subst h1; subst h2; subst h3
    exact Or.inr ⟨q, (T.setVm vm₁).calling g' mk As.toArray, t, U', L, E, ce, hT, X', hL, e1, e2, hq, hce, hcv, vx_cls hW₁ hcl, st⟩
end
end VXH
theorem vx_ofWH {l : Launch} {y : MethodName} {ws ws' : List Cond} {rm : Room} {Pc : Array Value → State → Prop} {Qc : Array Value → State → Outcome → State → Prop} {XC : String → State → State → Prop} {mc ms : Nat} {free : Addr → Prop} {cc : ByteArray} {maxL : Nat} {ret : Option FieldType} {hh : List (Nat × Nat × Nat × Nat)}
    (hy : plainName y.cls = true) (hw : ws = Cond.codeWith y cc maxL ret hh :: ws')
    (body : ∀ p e s m args below meth c s₁, BodyLoose p l y (headSpec ws rm) cc maxL ret e s m args below meth c s₁ → c.maxLocals = maxL → Pc args s →
      W p l e (headSpec ws rm).room s m args below meth c s.heap [] 0 0 (vx_MQ below Qc XC args s mc ms free) (entryFrame m args maxL)) : vx_Met l y ws rm Pc Qc XC mc ms free := by
  refine MetFree.of_bodyS (code := cc) (maxLocals := maxL) (ret := ret) hy ?_ ?_
  · intro args s m h hn
    obtain ⟨m9, meth, c, hn9, h1, h2, h3, h4, -, h5, h6, -⟩ := Cond.codeWith_spec (atoms_spec (ws := ws) h _ (by rw [hw]; exact List.mem_cons_self))
    cases hn.symm.trans hn9
    exact ⟨meth, c, h1, h2, h3, h4, h5, h6⟩
  · intro p e s m args below meth c s₁ B hml hP _
    have hh0 : s₁.heap = s.heap := by rw [B.state]; rfl
    obtain ⟨t, a1, o, b1, b2, b3⟩ := body p e s m args below meth c s₁ B hml hP s₁ hh0 (Stand.of_body B)
    exact ⟨t, o, a1, b1, b2, b3⟩
/-! ===== END ===== -/
/-! ===== BEGIN a private method of a nest mate that may throw (follows va_callVN, va_callSN, va_runVN, va_runSN) ===== -/
section
variable {p : Program} {l : Launch} {e : Env} {R : Room} {s : State} {m : MethodId} {args : Array Value} {below : List Frame} {meth : Method} {c : Code} {H : Heap} {locs : List Loc} {cells slots : Nat}
variable {T : State}
theorem vx_callVN (X : Stand p l e R s m args below meth c T locs cells slots) (hexec : p.tables.exec = Jvm.exec) {own C : String} {index : Nat} {host : String} {y : MethodName} {bytes : ByteArray} {maxL : Nat} {ret : Option FieldType}
    (hown : s.vm.findClass own = some m.cls) (hlink : (Cond.methodLinkNest own index y host).before args s = true) (hinst : (Cond.instanceMethod y).before args s = true) (hsel : (Cond.selects C y y).before args s = true)
    (hcode : (Cond.code y bytes maxL ret).before args s = true) (hy : y.cls ≠ "java/lang/invoke/MethodHandle" ∧ y.cls ≠ "java/lang/invoke/VarHandle")
    {W : Nat} {Pre : Pt → Array Value → Prop} {Post : Pt → Array Value → Option Value → Pt → Prop} {PostX : Pt → Array Value → Addr → Pt → Prop} (hK : vx_Back l R p e below s args y 3 W Pre Post PostX)
    {b : Addr} {cellB : Cell} (hcell : T.heap[b]? = some cellB) (hobj : cellB.vm.isStatics = false) (hcls : s.vm.findClass C = some cellB.cls)
    {g : JFrame} (hg : g.method = m) (hsize : g.locals.size = c.maxLocals) {argsL rest : List Value} (hlen : ∀ sig, parseMethodDescriptor y.desc = some sig → argsL.length = sig.parameters.length)
    (hstack : g.stack = argsL.reverse ++ .ref b :: rest) (hW : 2 * g.monitorRoom + (rest.map fun v => v.category).sum ≤ W) (hdg : decode c.code g.pc = .ok (.invokevirtual index, 3))
    (hpre : ∀ vm₁, s.WarmedH vm₁ → Pre ⟨T.setVm vm₁, locs, cells, slots⟩ (Value.ref b :: argsL).toArray) :
    (∃ (v : Option Value) (vm₁ : Vm) (B : Pt), s.WarmedH vm₁ ∧ Stand p l e R s m args below meth c B.U B.locs B.cells B.slots ∧ Post ⟨T.setVm vm₁, locs, cells, slots⟩ (Value.ref b :: argsL).toArray v B ∧
      ∀ target, Steps p.tables e below (B.U.setTop { g with pc := g.pc + 3, stack := v.toList ++ rest }) target → Steps p.tables e below (T.setTop g) target) ∨
    (∃ (q : Addr) (vm₁ : Vm) (B : Pt), s.WarmedH vm₁ ∧ Stand p l e R s m args below meth c B.U B.locs B.cells B.slots ∧ PostX ⟨T.setVm vm₁, locs, cells, slots⟩ (Value.ref b :: argsL).toArray q B ∧
      Steps p.tables e below (T.setTop g) ((B.U.setTop { g with stack := rest }).pushFrame (.throwing q))) := by
  obtain ⟨mk, methM, hnamed, hmethM, hstM, habM⟩ := Cond.instanceMethod_spec hinst
  obtain ⟨methM', cM, hmethM', -, -, -, -, -, -, hsigM⟩ := Cond.code_spec hnamed hcode
  cases hmethM.symm.trans hmethM'
  obtain ⟨c2, r2, m2, q1, q2, q3, q4, kP, hkP, hkPi⟩ := Cond.selects_spec hsel
  cases hcls.symm.trans q1
  cases (State.methodFound?_of_named hnamed hy).symm.trans q2
  cases hnamed.symm.trans q3
  have hselP : selectMethod e.platform s.vm cellB.cls mk = .method mk := by rw [Launch.admits_selectMethod X.admits]; exact q4
  obtain ⟨vm₁, X₁, hstep₁⟩ := X.invokevirtualNest hexec hown hlink hnamed hmethM hstM hkP hkPi hy (a := b) (cell := cellB) hcell
    (fun z h => by rw [h] at hobj; cases hobj) hselP hmethM habM hkP hkPi (g := g) hg (argsL := argsL) (rest := rest) (hlen _ hsigM) hstack hdg
  rcases hK m meth c ⟨T.setVm vm₁, locs, cells, slots⟩ { g with stack := rest } (.invokevirtual index) mk (Value.ref b :: argsL).toArray X₁ hg hsize hdg hW (X₁.named hnamed) (hpre vm₁ X₁.warmed) with ⟨v, B, X', hpost, hsteps⟩ | ⟨q, B, X', hpost, hsteps⟩
  · exact Or.inl ⟨v, vm₁, B, X₁.warmed, X', hpost, fun target h => hstep₁ _ fun acts => by rw [doInvoke_state]; exact hsteps.trans h⟩
  · exact Or.inr ⟨q, vm₁, B, X₁.warmed, X', hpost, hstep₁ _ fun acts => by rw [doInvoke_state]; exact hsteps⟩
theorem vx_callSN (X : Stand p l e R s m args below meth c T locs cells slots) (hexec : p.tables.exec = Jvm.exec) {own : String} {index : Nat} {host : String} {y : MethodName} {bytes : ByteArray} {maxL : Nat} {ret : Option FieldType}
    (hown : s.vm.findClass own = some m.cls) (hlink : (Cond.methodLinkNest own index y host).before args s = true) (hstat : (Cond.static y).before args s = true) (hinit : (Cond.initialized y.cls).before args s = true)
    (hcode : (Cond.code y bytes maxL ret).before args s = true) (hy : y.cls ≠ "java/lang/invoke/MethodHandle" ∧ y.cls ≠ "java/lang/invoke/VarHandle")
    {W : Nat} {Pre : Pt → Array Value → Prop} {Post : Pt → Array Value → Option Value → Pt → Prop} {PostX : Pt → Array Value → Addr → Pt → Prop} (hK : vx_Back l R p e below s args y 3 W Pre Post PostX)
    {g : JFrame} (hg : g.method = m) (hsize : g.locals.size = c.maxLocals) {argsL rest : List Value} (hlen : ∀ sig, parseMethodDescriptor y.desc = some sig → argsL.length = sig.parameters.length)
    (hstack : g.stack = argsL.reverse ++ rest) (hW : 2 * g.monitorRoom + (rest.map fun v => v.category).sum ≤ W) (hdg : decode c.code g.pc = .ok (.invokestatic index, 3))
    (hpre : ∀ vm₁, s.WarmedH vm₁ → Pre ⟨T.setVm vm₁, locs, cells, slots⟩ argsL.toArray) :
    (∃ (v : Option Value) (vm₁ : Vm) (B : Pt), s.WarmedH vm₁ ∧ Stand p l e R s m args below meth c B.U B.locs B.cells B.slots ∧ Post ⟨T.setVm vm₁, locs, cells, slots⟩ argsL.toArray v B ∧
      ∀ target, Steps p.tables e below (B.U.setTop { g with pc := g.pc + 3, stack := v.toList ++ rest }) target → Steps p.tables e below (T.setTop g) target) ∨
    (∃ (q : Addr) (vm₁ : Vm) (B : Pt), s.WarmedH vm₁ ∧ Stand p l e R s m args below meth c B.U B.locs B.cells B.slots ∧ PostX ⟨T.setVm vm₁, locs, cells, slots⟩ argsL.toArray q B ∧
      Steps p.tables e below (T.setTop g) ((B.U.setTop { g with stack := rest }).pushFrame (.throwing q))) := by
  obtain ⟨mk, hnamed⟩ := Cond.code_named hcode
  obtain ⟨methM, cM, hmethM, -, -, -, -, -, -, hsigM⟩ := Cond.code_spec hnamed hcode
  have hstatic : methM.isStatic = true := Cond.static_spec hnamed hmethM hstat
  obtain ⟨kP, hkP, -⟩ := className_of_methodNamed hnamed
  have hinitP : kP.init = .initialized := Cond.initialized_spec (findClass_of_methodNamed hnamed) hkP hinit
  obtain ⟨vm₁, X₁, hstep₁⟩ := X.invokestaticNest hexec hown hlink hnamed hmethM hstatic hkP hinitP hy (g := g) hg (argsL := argsL) (rest := rest) (hlen _ hsigM) hstack hdg
  rcases hK m meth c ⟨T.setVm vm₁, locs, cells, slots⟩ { g with stack := rest } (.invokestatic index) mk argsL.toArray X₁ hg hsize hdg hW (X₁.named hnamed) (hpre vm₁ X₁.warmed) with ⟨v, B, X', hpost, hsteps⟩ | ⟨q, B, X', hpost, hsteps⟩
  · exact Or.inl ⟨v, vm₁, B, X₁.warmed, X', hpost, fun target h => hstep₁ _ fun acts => by rw [doInvoke_state]; exact hsteps.trans h⟩
  · exact Or.inr ⟨q, vm₁, B, X₁.warmed, X', hpost, hstep₁ _ fun acts => by rw [doInvoke_state]; exact hsteps⟩
theorem vx_runVN {y : MethodName} {bytes cc : ByteArray} {maxL nL mc ms n index : Nat} {ret : Option FieldType} {ws : List Cond} {rm : Room} {Pc : Array Value → State → Prop} {Qc : Array Value → State → Outcome → State → Prop} {XC : String → State → State → Prop} {free : Addr → Prop} {Ts : List Cond} {own C host : String} {b : Addr} {As rest : List Value} {g : JFrame}
    (S : CallFix p m c cc nL s args Ts own) (hM : vx_Met l y ws rm Pc Qc XC mc ms free) (cw : va_CN R s args own index y host bytes maxL ret ws rm mc ms n ∧ (Cond.instanceMethod y).before args s = true ∧ (Cond.selects C y y).before args s = true) (hp : PreV s H C b Pc As)
    (hg : g.method = m) (hn : As.length = n) (hsize : g.locals.size = nL) (hstack : g.stack = As.reverse ++ .ref b :: rest) (hW : 2 * g.monitorRoom + (rest.map fun v => v.category).sum ≤ 8) (hdg : decode cc g.pc = .ok (.invokevirtual index, 3)) (hf : cells + mc ≤ R.cells ∧ slots + ms ≤ R.slots) :
    vx_Run p l e R s m args below meth c H locs cells slots mc ms g rest (Qc (Value.ref b :: As).toArray) XC free := by
  obtain ⟨⟨⟨hrc, hrs, hfr, hlo, hws, hcw⟩, hcode, hini, hy, hlen, hl⟩, hx1, hx2⟩ := cw
  have hK : vx_Back l R p e below s args y 3 8 (PreOf R mc ms Pc) (PostOf Qc mc ms free) (vx_Post XC mc ms free) := vx_back (bytes := bytes) (maxL := maxL) (ret := ret) hM hp.1 hrc hrs hfr hlo hws hcw (fun a' U hW => word_at hW (Or.inl (by first | rfl | simp [Cond.onTables, Cond.keeps, Cond.steady])) hini)
  obtain ⟨hx, hb, hml, ho, -⟩ := S
  obtain ⟨-, ⟨cellB, hcB, hoB, hclB⟩, hPc⟩ := hp
  intro T hT X
  rcases vx_callVN X hx (C := C) (bytes := bytes) (maxL := maxL) (ret := ret) ho hl hx1 hx2 hcode hy hK (by rw [hT]; exact hcB) hoB hclB hg (hsize.trans hml.symm) (argsL := As) (rest := rest) (fun sig h => hn.trans (hlen sig h)) hstack hW (by rw [hb]; exact hdg)
    (fun vm₁ hW₁ => ⟨hf.1, hf.2, hPc (T.setVm vm₁) hT hW₁⟩) with ⟨v, vm₁, ⟨U', l2, c2, s2⟩, hW₁, X', ⟨g', mk, t, L, e1, e2, hq, h1, hL, h2, h3⟩, st⟩ | ⟨q, vm₁, ⟨U', l2, c2, s2⟩, hW₁, X', ⟨g', mk, t, L, E, ce, e1, e2, hq, hce, hcv, hcl, h1, hL, h2, h3⟩, st⟩
  · dsimp only [Pt.U, Pt.locs, Pt.cells, Pt.slots] at X' e1 e2 h1 h2 h3 st
    subst h1; subst h2; subst h3
    exact Or.inl ⟨v, (T.setVm vm₁).calling g' mk (Value.ref b :: As).toArray, t, U', L, hT, X', hL, e1, e2, hq, st⟩
  · dsimp only [Pt.U, Pt.locs, Pt.cells, Pt.slots] at X' e1 e2 h1 h2 h3 st hcl
    subst h1; subst h2; subst h3
    exact Or.inr ⟨q, (T.setVm vm₁).calling g' mk (Value.ref b :: As).toArray, t, U', L, E, ce, hT, X', hL, e1, e2, hq, hce, hcv, vx_cls hW₁ hcl, st⟩
theorem vx_runSN {y : MethodName} {bytes cc : ByteArray} {maxL nL mc ms n index : Nat} {ret : Option FieldType} {ws : List Cond} {rm : Room} {Pc : Array Value → State → Prop} {Qc : Array Value → State → Outcome → State → Prop} {XC : String → State → State → Prop} {free : Addr → Prop} {Ts : List Cond} {own host : String} {As rest : List Value} {g : JFrame}
    (S : CallFix p m c cc nL s args Ts own) (hM : vx_Met l y ws rm Pc Qc XC mc ms free) (cw : va_CN R s args own index y host bytes maxL ret ws rm mc ms n ∧ (Cond.static y).before args s = true ∧ True) (hp : PreS s H Pc As)
    (hg : g.method = m) (hn : As.length = n) (hsize : g.locals.size = nL) (hstack : g.stack = As.reverse ++ rest) (hW : 2 * g.monitorRoom + (rest.map fun v => v.category).sum ≤ 8) (hdg : decode cc g.pc = .ok (.invokestatic index, 3)) (hf : cells + mc ≤ R.cells ∧ slots + ms ≤ R.slots) :
    vx_Run p l e R s m args below meth c H locs cells slots mc ms g rest (Qc As.toArray) XC free := by
  obtain ⟨⟨⟨hrc, hrs, hfr, hlo, hws, hcw⟩, hcode, hini, hy, hlen, hl⟩, hx1, hx2⟩ := cw
  have hK : vx_Back l R p e below s args y 3 8 (PreOf R mc ms Pc) (PostOf Qc mc ms free) (vx_Post XC mc ms free) := vx_back (bytes := bytes) (maxL := maxL) (ret := ret) hM hp.1 hrc hrs hfr hlo hws hcw (fun a' U hW => word_at hW (Or.inl (by first | rfl | simp [Cond.onTables, Cond.keeps, Cond.steady])) hini)
  obtain ⟨hx, hb, hml, ho, -⟩ := S
  have hPc := hp.2
  intro T hT X
  rcases vx_callSN X hx (bytes := bytes) (maxL := maxL) (ret := ret) ho hl hx1 hini hcode hy hK hg (hsize.trans hml.symm) (argsL := As) (rest := rest) (fun sig h => hn.trans (hlen sig h)) hstack hW (by rw [hb]; exact hdg)
    (fun vm₁ hW₁ => ⟨hf.1, hf.2, hPc (T.setVm vm₁) hT hW₁⟩) with ⟨v, vm₁, ⟨U', l2, c2, s2⟩, hW₁, X', ⟨g', mk, t, L, e1, e2, hq, h1, hL, h2, h3⟩, st⟩ | ⟨q, vm₁, ⟨U', l2, c2, s2⟩, hW₁, X', ⟨g', mk, t, L, E, ce, e1, e2, hq, hce, hcv, hcl, h1, hL, h2, h3⟩, st⟩
  · dsimp only [Pt.U, Pt.locs, Pt.cells, Pt.slots] at X' e1 e2 h1 h2 h3 st
    subst h1; subst h2; subst h3
    exact Or.inl ⟨v, (T.setVm vm₁).calling g' mk As.toArray, t, U', L, hT, X', hL, e1, e2, hq, st⟩
  · dsimp only [Pt.U, Pt.locs, Pt.cells, Pt.slots] at X' e1 e2 h1 h2 h3 st hcl
    subst h1; subst h2; subst h3
    exact Or.inr ⟨q, (T.setVm vm₁).calling g' mk As.toArray, t, U', L, E, ce, hT, X', hL, e1, e2, hq, hce, hcv, vx_cls hW₁ hcl, st⟩
end
/-! ===== END ===== -/

/-! ===== BEGIN printed: names, fields, word lists, decode rows ===== -/
def RX0 : String := "IslandReserve$Fleet"
def TX0 : u_T := fun k => match k with
  | 0 => ("IslandReserve$Fleet", "greatest", "[I", true)
  | 1 => ("IslandReserve$Fleet", "least", "[I", true)
  | 2 => ("IslandReserve$Fleet", "merit", "[I", true)
  | 3 => ("IslandReserve$Fleet", "warmUp", "[I", true)
  | 4 => ("IslandReserve$Fleet", "phase", "[I", true)
  | 5 => ("IslandReserve$Fleet", "left", "[I", true)
  | 6 => ("IslandReserve$Fleet", "fuel", "[I", true)
  | _ => ("IslandReserve$Fleet", "ranHours", "[I", true)
def tyX0 : Nat → FieldType := fun k => match k with
  | 0 => .array .int
  | 1 => .array .int
  | 2 => .array .int
  | 3 => .array .int
  | 4 => .array .int
  | 5 => .array .int
  | 6 => .array .int
  | _ => .array .int
abbrev wsX00 : List Cond := u_ws RX0 TX0 8
theorem nmX0 : ∀ a, a < 8 → ∀ b, b < 8 → a ≠ b → (TX0 a).2.1 ≠ (TX0 b).2.1 := by decide +kernel
theorem tyX0_ok : ∀ k, k < 8 → parseFieldDescriptor (TX0 k).2.2.1 = some (tyX0 k) := by decide +kernel
abbrev cX0_init : ByteArray := prog_2_method_1_code
def yX0_init : MethodName := ⟨RX0, "<init>", "()V"⟩
abbrev cX0_copyFrom : ByteArray := prog_2_method_2_code
def yX0_copyFrom : MethodName := ⟨RX0, "copyFrom", "(LIslandReserve$Fleet;)V"⟩
abbrev cX0_begin : ByteArray := prog_2_method_3_code
def yX0_begin : MethodName := ⟨RX0, "begin", "(I)V"⟩
abbrev cX0_become : ByteArray := prog_2_method_4_code
def yX0_become : MethodName := ⟨RX0, "become", "(II)V"⟩
abbrev cX0_isInUse : ByteArray := prog_2_method_5_code
def yX0_isInUse : MethodName := ⟨RX0, "isInUse", "(I)Z"⟩
abbrev cX0_maskOf : ByteArray := prog_2_method_6_code
def yX0_maskOf : MethodName := ⟨RX0, "maskOf", "(I)I"⟩
abbrev cX0_sizeOf : ByteArray := prog_2_method_7_code
def yX0_sizeOf : MethodName := ⟨RX0, "sizeOf", "(I)I"⟩
abbrev cX0_warmUpAnHour : ByteArray := prog_2_method_8_code
def yX0_warmUpAnHour : MethodName := ⟨RX0, "warmUpAnHour", "()V"⟩
abbrev cX0_burnFuel : ByteArray := prog_2_method_9_code
def yX0_burnFuel : MethodName := ⟨RX0, "burnFuel", "([I)V"⟩
abbrev cX0_fuelFor : ByteArray := prog_2_method_10_code
def yX0_fuelFor : MethodName := ⟨RX0, "fuelFor", "([I)I"⟩
abbrev cX0_fuelSoFar : ByteArray := prog_2_method_11_code
def yX0_fuelSoFar : MethodName := ⟨RX0, "fuelSoFar", "()I"⟩
abbrev cX0_firstByMerit : ByteArray := prog_2_method_12_code
def yX0_firstByMerit : MethodName := ⟨RX0, "firstByMerit", "(I)I"⟩
def RX1 : String := "IslandReserve$Island"
def TX1 : u_T := fun k => match k with
  | 0 => ("IslandReserve$Island", "fleet", "LIslandReserve$Fleet;", true)
  | 1 => ("IslandReserve$Island", "hours", "[[I", true)
  | 2 => ("IslandReserve$Island", "settings", "[I", true)
  | 3 => ("IslandReserve$Island", "hour", "I", false)
  | 4 => ("IslandReserve$Island", "warmth", "I", false)
  | 5 => ("IslandReserve$Island", "isSpoiled", "Z", false)
  | _ => ("IslandReserve$Island", "storeIsShed", "Z", false)
def tyX1 : Nat → FieldType := fun k => match k with
  | 0 => .object "IslandReserve$Fleet"
  | 1 => .array (.array .int)
  | 2 => .array .int
  | 3 => .int
  | 4 => .int
  | 5 => .boolean
  | _ => .boolean
abbrev wsX10 : List Cond := u_ws RX1 TX1 7
theorem nmX1 : ∀ a, a < 7 → ∀ b, b < 7 → a ≠ b → (TX1 a).2.1 ≠ (TX1 b).2.1 := by decide +kernel
theorem tyX1_ok : ∀ k, k < 7 → parseFieldDescriptor (TX1 k).2.2.1 = some (tyX1 k) := by decide +kernel
abbrev cX1_init : ByteArray := prog_3_method_1_code
def yX1_init : MethodName := ⟨RX1, "<init>", "()V"⟩
abbrev cX1_copyFrom : ByteArray := prog_3_method_2_code
def yX1_copyFrom : MethodName := ⟨RX1, "copyFrom", "(LIslandReserve$Island;)V"⟩
abbrev cX1_hourOfNow : ByteArray := prog_3_method_3_code
def yX1_hourOfNow : MethodName := ⟨RX1, "hourOfNow", "()I"⟩
abbrev cX1_hasStill : ByteArray := prog_3_method_4_code
def yX1_hasStill : MethodName := ⟨RX1, "hasStill", "(I)Z"⟩
abbrev cX1_loadOf : ByteArray := prog_3_method_5_code
def yX1_loadOf : MethodName := ⟨RX1, "loadOf", "(I)I"⟩
abbrev cX1_letHoursGoBy : ByteArray := prog_3_method_6_code
def yX1_letHoursGoBy : MethodName := ⟨RX1, "letHoursGoBy", "(ILIslandReserve$Sharing;)V"⟩
abbrev cX1_letAnHourGoBy : ByteArray := prog_3_method_7_code
def yX1_letAnHourGoBy : MethodName := ⟨RX1, "letAnHourGoBy", "(LIslandReserve$Sharing;)V"⟩
abbrev cX1_changeWarmth : ByteArray := prog_3_method_8_code
def yX1_changeWarmth : MethodName := ⟨RX1, "changeWarmth", "()V"⟩
abbrev cX1_darkHours : ByteArray := prog_3_method_9_code
def yX1_darkHours : MethodName := ⟨RX1, "darkHours", "()I"⟩
abbrev cX1_safeHours : ByteArray := prog_3_method_10_code
def yX1_safeHours : MethodName := ⟨RX1, "safeHours", "()I"⟩
def RX2 : String := "IslandReserve$Plan"
def TX2 : u_T := fun k => match k with
  | 0 => ("IslandReserve$Plan", "kind", "[I", true)
  | 1 => ("IslandReserve$Plan", "first", "[I", true)
  | 2 => ("IslandReserve$Plan", "second", "[I", true)
  | 3 => ("IslandReserve$Plan", "orders", "I", false)
  | _ => ("IslandReserve$Plan", "awaited", "I", false)
def tyX2 : Nat → FieldType := fun k => match k with
  | 0 => .array .int
  | 1 => .array .int
  | 2 => .array .int
  | 3 => .int
  | _ => .int
abbrev wsX20 : List Cond := u_ws RX2 TX2 5
theorem nmX2 : ∀ a, a < 5 → ∀ b, b < 5 → a ≠ b → (TX2 a).2.1 ≠ (TX2 b).2.1 := by decide +kernel
theorem tyX2_ok : ∀ k, k < 5 → parseFieldDescriptor (TX2 k).2.2.1 = some (tyX2 k) := by decide +kernel
abbrev cX2_init : ByteArray := prog_4_method_1_code
def yX2_init : MethodName := ⟨RX2, "<init>", "()V"⟩
def RX3 : String := "IslandReserve$Sharing"
def TX3 : u_T := fun k => match k with
  | 0 => ("IslandReserve$Sharing", "load", "[I", true)
  | 1 => ("IslandReserve$Sharing", "dark", "I", false)
  | 2 => ("IslandReserve$Sharing", "burned", "I", false)
  | 3 => ("IslandReserve$Sharing", "reserve", "I", false)
  | _ => ("IslandReserve$Sharing", "isEnough", "Z", false)
def tyX3 : Nat → FieldType := fun k => match k with
  | 0 => .array .int
  | 1 => .int
  | 2 => .int
  | 3 => .int
  | _ => .boolean
abbrev wsX30 : List Cond := u_ws RX3 TX3 5
theorem nmX3 : ∀ a, a < 5 → ∀ b, b < 5 → a ≠ b → (TX3 a).2.1 ≠ (TX3 b).2.1 := by decide +kernel
theorem tyX3_ok : ∀ k, k < 5 → parseFieldDescriptor (TX3 k).2.2.1 = some (tyX3 k) := by decide +kernel
abbrev cX3_init : ByteArray := prog_5_method_1_code
def yX3_init : MethodName := ⟨RX3, "<init>", "()V"⟩
abbrev cX3_shareOut : ByteArray := prog_5_method_2_code
def yX3_shareOut : MethodName := ⟨RX3, "shareOut", "(LIslandReserve$Fleet;II)V"⟩
abbrev cX3_giveByMerit : ByteArray := prog_5_method_3_code
def yX3_giveByMerit : MethodName := ⟨RX3, "giveByMerit", "(LIslandReserve$Fleet;II)I"⟩
def RX4 : String := "IslandReserve"
def TX4 : u_T := fun k => match k with
  | 0 => ("IslandReserve", "now", "LIslandReserve$Island;", true)
  | 1 => ("IslandReserve", "trial", "LIslandReserve$Island;", true)
  | 2 => ("IslandReserve", "saved", "[LIslandReserve$Island;", true)
  | 3 => ("IslandReserve", "oldestSaved", "I", false)
  | 4 => ("IslandReserve", "savedCount", "I", false)
  | 5 => ("IslandReserve", "codes", "[I", true)
  | 6 => ("IslandReserve", "codeCount", "I", false)
  | 7 => ("IslandReserve", "plan", "LIslandReserve$Plan;", true)
  | _ => ("IslandReserve", "sharing", "LIslandReserve$Sharing;", true)
def tyX4 : Nat → FieldType := fun k => match k with
  | 0 => .object "IslandReserve$Island"
  | 1 => .object "IslandReserve$Island"
  | 2 => .array (.object "IslandReserve$Island")
  | 3 => .int
  | 4 => .int
  | 5 => .array .int
  | 6 => .int
  | 7 => .object "IslandReserve$Plan"
  | _ => .object "IslandReserve$Sharing"
abbrev wsX40 : List Cond := u_ws RX4 TX4 9
theorem nmX4 : ∀ a, a < 9 → ∀ b, b < 9 → a ≠ b → (TX4 a).2.1 ≠ (TX4 b).2.1 := by decide +kernel
theorem tyX4_ok : ∀ k, k < 9 → parseFieldDescriptor (TX4 k).2.2.1 = some (tyX4 k) := by decide +kernel
abbrev cX4_init : ByteArray := prog_1_method_1_code
def yX4_init : MethodName := ⟨RX4, "<init>", "()V"⟩
abbrev cX4_rate : ByteArray := prog_1_method_2_code
def yX4_rate : MethodName := ⟨RX4, "rate", "(IIIII)I"⟩
abbrev cX4_start : ByteArray := prog_1_method_3_code
def yX4_start : MethodName := ⟨RX4, "start", "(I)I"⟩
abbrev cX4_stop : ByteArray := prog_1_method_4_code
def yX4_stop : MethodName := ⟨RX4, "stop", "(I)I"⟩
abbrev cX4_lose : ByteArray := prog_1_method_5_code
def yX4_lose : MethodName := ⟨RX4, "lose", "(I)I"⟩
abbrev cX4_shed : ByteArray := prog_1_method_6_code
def yX4_shed : MethodName := ⟨RX4, "shed", "()I"⟩
abbrev cX4_forecast : ByteArray := prog_1_method_7_code
def yX4_forecast : MethodName := ⟨RX4, "forecast", "(II)I"⟩
abbrev cX4_pass : ByteArray := prog_1_method_8_code
def yX4_pass : MethodName := ⟨RX4, "pass", "(I)I"⟩
abbrev cX4_set : ByteArray := prog_1_method_9_code
def yX4_set : MethodName := ⟨RX4, "set", "(II)I"⟩
abbrev cX4_undo : ByteArray := prog_1_method_14_code
def yX4_undo : MethodName := ⟨RX4, "undo", "()I"⟩
abbrev cX4_setOf : ByteArray := prog_1_method_15_code
def yX4_setOf : MethodName := ⟨RX4, "setOf", "(II)I"⟩
abbrev cX4_hour : ByteArray := prog_1_method_16_code
def yX4_hour : MethodName := ⟨RX4, "hour", "(II)I"⟩
abbrev cX4_count : ByteArray := prog_1_method_17_code
def yX4_count : MethodName := ⟨RX4, "count", "(I)I"⟩
abbrev cX4_ifLost : ByteArray := prog_1_method_19_code
def yX4_ifLost : MethodName := ⟨RX4, "ifLost", "(I)I"⟩
abbrev cX4_cheapest : ByteArray := prog_1_method_20_code
def yX4_cheapest : MethodName := ⟨RX4, "cheapest", "(II)I"⟩
abbrev cX4_firstDark : ByteArray := prog_1_method_21_code
def yX4_firstDark : MethodName := ⟨RX4, "firstDark", "()I"⟩
abbrev cX4_ifShed : ByteArray := prog_1_method_22_code
def yX4_ifShed : MethodName := ⟨RX4, "ifShed", "()I"⟩
abbrev cX4_bestStart : ByteArray := prog_1_method_23_code
def yX4_bestStart : MethodName := ⟨RX4, "bestStart", "()I"⟩
abbrev cX4_safeShare : ByteArray := prog_1_method_24_code
def yX4_safeShare : MethodName := ⟨RX4, "safeShare", "()D"⟩
abbrev cX4_saveState : ByteArray := prog_1_method_27_code
def yX4_saveState : MethodName := ⟨RX4, "saveState", "()V"⟩
abbrev cX4_shareOutNow : ByteArray := prog_1_method_28_code
def yX4_shareOutNow : MethodName := ⟨RX4, "shareOutNow", "()V"⟩
abbrev cX4_requireArgument : ByteArray := prog_1_method_31_code
def yX4_requireArgument : MethodName := ⟨RX4, "requireArgument", "(Z)V"⟩
abbrev cX4_requireState : ByteArray := prog_1_method_32_code
def yX4_requireState : MethodName := ⟨RX4, "requireState", "(Z)V"⟩
abbrev cX4_requireSetting : ByteArray := prog_1_method_33_code
def yX4_requireSetting : MethodName := ⟨RX4, "requireSetting", "(I)V"⟩
abbrev cX4_isFrom : ByteArray := prog_1_method_34_code
def yX4_isFrom : MethodName := ⟨RX4, "isFrom", "(III)Z"⟩
abbrev cX4_isSet : ByteArray := prog_1_method_35_code
def yX4_isSet : MethodName := ⟨RX4, "isSet", "(I)Z"⟩
abbrev cX4_isHour : ByteArray := prog_1_method_36_code
def yX4_isHour : MethodName := ⟨RX4, "isHour", "(I)Z"⟩
abbrev cX4_oneIf : ByteArray := prog_1_method_37_code
def yX4_oneIf : MethodName := ⟨RX4, "oneIf", "(Z)I"⟩
def RX5 : String := "IslandReserveModel"
def TX5 : u_T := fun k => match k with
  | _ => ("", "", "", false)
def tyX5 : Nat → FieldType := fun k => match k with
  | _ => .int
abbrev wsX50 : List Cond := u_ws RX5 TX5 0
theorem nmX5 : ∀ a, a < 0 → ∀ b, b < 0 → a ≠ b → (TX5 a).2.1 ≠ (TX5 b).2.1 := by decide +kernel
theorem tyX5_ok : ∀ k, k < 0 → parseFieldDescriptor (TX5 k).2.2.1 = some (tyX5 k) := by decide +kernel
def RJx145de : String := "java/io/Serializable"
def TJx145de : u_T := fun k => match k with
  | _ => ("", "", "", false)
def tyJx145de : Nat → FieldType := fun k => match k with
  | _ => .int
abbrev wsJx145de0 : List Cond := u_ws RJx145de TJx145de 0
theorem nmJx145de : ∀ a, a < 0 → ∀ b, b < 0 → a ≠ b → (TJx145de a).2.1 ≠ (TJx145de b).2.1 := by decide +kernel
theorem tyJx145de_ok : ∀ k, k < 0 → parseFieldDescriptor (TJx145de k).2.2.1 = some (tyJx145de k) := by decide +kernel
def RJ6 : String := "java/lang/Integer"
def TJ6 : u_T := fun k => match k with
  | _ => ("", "", "", false)
def tyJ6 : Nat → FieldType := fun k => match k with
  | _ => .int
abbrev wsJ60 : List Cond := u_ws RJ6 TJ6 0
theorem nmJ6 : ∀ a, a < 0 → ∀ b, b < 0 → a ≠ b → (TJ6 a).2.1 ≠ (TJ6 b).2.1 := by decide +kernel
theorem tyJ6_ok : ∀ k, k < 0 → parseFieldDescriptor (TJ6 k).2.2.1 = some (tyJ6 k) := by decide +kernel
abbrev cJ6_bitCount_0f7a4 : ByteArray := prog_12_method_49_code
def yJ6_bitCount_0f7a4 : MethodName := ⟨RJ6, "bitCount", "(I)I"⟩
def RJ9 : String := "java/lang/Math"
def TJ9 : u_T := fun k => match k with
  | _ => ("", "", "", false)
def tyJ9 : Nat → FieldType := fun k => match k with
  | _ => .int
abbrev wsJ90 : List Cond := u_ws RJ9 TJ9 0
theorem nmJ9 : ∀ a, a < 0 → ∀ b, b < 0 → a ≠ b → (TJ9 a).2.1 ≠ (TJ9 b).2.1 := by decide +kernel
theorem tyJ9_ok : ∀ k, k < 0 → parseFieldDescriptor (TJ9 k).2.2.1 = some (tyJ9 k) := by decide +kernel
abbrev cJ9_max_7cf53 : ByteArray := prog_13_method_65_code
def yJ9_max_7cf53 : MethodName := ⟨RJ9, "max", "(II)I"⟩
abbrev cJ9_min_7cf53 : ByteArray := prog_13_method_69_code
def yJ9_min_7cf53 : MethodName := ⟨RJ9, "min", "(II)I"⟩
def RJ0 : String := "java/lang/String"
def TJ0 : u_T := fun k => match k with
  | _ => ("", "", "", false)
def tyJ0 : Nat → FieldType := fun k => match k with
  | _ => .int
abbrev wsJ00 : List Cond := u_ws RJ0 TJ0 0
theorem nmJ0 : ∀ a, a < 0 → ∀ b, b < 0 → a ≠ b → (TJ0 a).2.1 ≠ (TJ0 b).2.1 := by decide +kernel
theorem tyJ0_ok : ∀ k, k < 0 → parseFieldDescriptor (TJ0 k).2.2.1 = some (tyJ0 k) := by decide +kernel
def RJ10 : String := "java/lang/System"
def TJ10 : u_T := fun k => match k with
  | _ => ("", "", "", false)
def tyJ10 : Nat → FieldType := fun k => match k with
  | _ => .int
abbrev wsJ100 : List Cond := u_ws RJ10 TJ10 0
theorem nmJ10 : ∀ a, a < 0 → ∀ b, b < 0 → a ≠ b → (TJ10 a).2.1 ≠ (TJ10 b).2.1 := by decide +kernel
theorem tyJ10_ok : ∀ k, k < 0 → parseFieldDescriptor (TJ10 k).2.2.1 = some (tyJ10 k) := by decide +kernel
def RJ7 : String := "java/util/Arrays"
def TJ7 : u_T := fun k => match k with
  | _ => ("", "", "", false)
def tyJ7 : Nat → FieldType := fun k => match k with
  | _ => .int
abbrev wsJ70 : List Cond := u_ws RJ7 TJ7 0
theorem nmJ7 : ∀ a, a < 0 → ∀ b, b < 0 → a ≠ b → (TJ7 a).2.1 ≠ (TJ7 b).2.1 := by decide +kernel
theorem tyJ7_ok : ∀ k, k < 0 → parseFieldDescriptor (TJ7 k).2.2.1 = some (tyJ7 k) := by decide +kernel
abbrev cJ7_fill_53178 : ByteArray := prog_18_method_103_code
def yJ7_fill_53178 : MethodName := ⟨RJ7, "fill", "([II)V"⟩
def RL : String := "IslandReserveLaw"
abbrev cL_cell : ByteArray := method_2_code
def yL_cell : MethodName := ⟨RL, "cell", "([II)I"⟩
abbrev cL_low : ByteArray := method_3_code
def yL_low : MethodName := ⟨RL, "low", "(II)I"⟩
abbrev cL_does : ByteArray := method_4_code
def yL_does : MethodName := ⟨RL, "does", "(LIslandReserve;I)I"⟩
abbrev cL_areSetsSo : ByteArray := method_5_code
def yL_areSetsSo : MethodName := ⟨RL, "areSetsSo", "(LIslandReserve;)Z"⟩
abbrev cL_areHoursSo : ByteArray := method_6_code
def yL_areHoursSo : MethodName := ⟨RL, "areHoursSo", "(LIslandReserve;)Z"⟩
abbrev cL_areIfsSo : ByteArray := method_7_code
def yL_areIfsSo : MethodName := ⟨RL, "areIfsSo", "(LIslandReserve;)Z"⟩
abbrev cL_isBetter : ByteArray := method_8_code
def yL_isBetter : MethodName := ⟨RL, "isBetter", "(LIslandReserve;IIIIII)Z"⟩
abbrev cL_law : ByteArray := code
def yL_law : MethodName := ⟨RL, "law", "([I)Z"⟩

abbrev vwCl : List vw_C := [(RX0, TX0, 8), (RX1, TX1, 7), (RX2, TX2, 5), (RX3, TX3, 5), (RX4, TX4, 9)]
end
section

/-! THE INTERPRETER: values, memory, one instruction, a run; tables by program -/
abbrev AV : Type := Int32 ⊕ (Int64 ⊕ (UInt64 ⊕ (Nat × Nat)))
abbrev aI (x : Int32) : AV := .inl x
abbrev aL (x : Int64) : AV := .inr (.inl x)
abbrev aD (x : UInt64) : AV := .inr (.inr (.inl x))
abbrev aR (f p : Nat) : AV := .inr (.inr (.inr (f, p)))
/-- the class's ints by family, part and place; the model's by part and place; the longs -/
abbrev Mem : Type := (Nat → Nat → Nat → Int32) × ((Nat → Nat → Int32) × (Nat → Int64))
abbrev Lc : Type := List (Option AV)
abbrev Cf : Type := Nat × (Lc × (List AV × Mem))
def z_cat2 : AV → Bool
  | .inl _ => false
  | .inr (.inl _) => true
  | .inr (.inr (.inl _)) => true
  | .inr (.inr (.inr _)) => false
def z_get : Lc → Nat → Option AV
  | [], _ => none
  | x :: _, 0 => x
  | _ :: t, k + 1 => z_get t k
def z_set : Lc → Nat → Option AV → Lc
  | [], _, _ => []
  | _ :: t, 0, v => v :: t
  | x :: t, k + 1, v => x :: z_set t k v
/-- the place k - 1 holds no number of two words any more, if k is written -/
def z_clr (ls : Lc) : Nat → Lc
  | 0 => ls
  | k + 1 => match z_get ls k with
    | some v => bif z_cat2 v then z_set ls k none else ls
    | none => ls
def z_st1w (ls : Lc) (k : Nat) (v : AV) : Lc := z_set (z_clr ls k) k (some v)
def z_st2w (ls : Lc) (k : Nat) (v : AV) : Lc := z_set (z_set (z_clr ls k) k (some v)) (k + 1) none
def z_entL : List AV → Lc
  | [] => []
  | v :: t => bif z_cat2 v then some v :: none :: z_entL t else some v :: z_entL t
def z_pad : Nat → Lc → Lc
  | 0, l => l
  | n + 1, [] => none :: z_pad n []
  | n + 1, x :: t => x :: z_pad n t
-- memory
def up2 (g : Nat → Nat → Int32) (p k : Nat) (v : Int32) : Nat → Nat → Int32 := fun q => if q = p then upd (g p) k v else g q
def up3 (g : Nat → Nat → Nat → Int32) (f p k : Nat) (v : Int32) : Nat → Nat → Nat → Int32 := fun h q => if q = p ∧ h = f then upd (g f p) k v else g h q
def z_ri (M : Mem) (f p k : Nat) : Int32 := bif Nat.blt p 32 then M.1 f p k else M.2.1 p k
def z_wi (M : Mem) (f p k : Nat) (v : Int32) : Mem := bif Nat.blt p 32 then (up3 M.1 f p k v, M.2) else (M.1, up2 M.2.1 p k v, M.2.2)
/-- the class and the number of fields of an object's part -/
def z_obj (p : Nat) : Option (Nat × Nat) := match p with
  | 0 => some (1, 7)
  | 1 => some (0, 8)
  | 16 => some (4, 9)
  | 19 => some (2, 5)
  | 23 => some (3, 5)
  | _ => none
/-- what kind of array: 0 ints, 1 longs, 2 islands, 3 rows of ints -/
def z_ak (p : Nat) : Nat := match p with
  | 10 => 3
  | 17 => 2
  | _ => 0
def z_sz (p : Nat) : Nat := match p with
  | 10 => 7
  | 11 => 48
  | 12 => 2
  | 17 => 6
  | 18 => 60
  | 20 => 60
  | 21 => 60
  | 22 => 60
  | 24 => 4
  | _ => 4
def z_val (f p : Nat) : Bool := match p with
  | 0 => Nat.blt f 8
  | 1 => Nat.blt f 8
  | 2 => Nat.blt f 8
  | 3 => Nat.blt f 8
  | 4 => Nat.blt f 8
  | 5 => Nat.blt f 8
  | 6 => Nat.blt f 8
  | 7 => Nat.blt f 8
  | 8 => Nat.blt f 8
  | 9 => Nat.blt f 8
  | 10 => Nat.blt f 8
  | 12 => Nat.blt f 8
  | 11 => Nat.blt f 56
  | 16 => Nat.beq f 0
  | 17 => Nat.beq f 0
  | 18 => Nat.beq f 0
  | 19 => Nat.beq f 0
  | 20 => Nat.beq f 0
  | 21 => Nat.beq f 0
  | 22 => Nat.beq f 0
  | 23 => Nat.beq f 0
  | 24 => Nat.beq f 0
  | _ => false
/-- the fields that hold references, for good -/
def z_rk (f p k : Nat) : Option AV := match p with
  | 0 => match k with
    | 0 => some (aR f 1)
    | 1 => some (aR f 10)
    | 2 => some (aR f 12)
    | _ => none
  | 1 => some (aR f (2 + k))
  | 16 => match k with
    | 0 => some (aR 0 0)
    | 1 => some (aR 1 0)
    | 2 => some (aR 0 17)
    | 5 => some (aR 0 18)
    | 7 => some (aR 0 19)
    | 8 => some (aR 0 23)
    | _ => none
  | 19 => match k with
    | 0 => some (aR 0 20)
    | 1 => some (aR 0 21)
    | 2 => some (aR 0 22)
    | _ => none
  | 23 => match k with
    | 0 => some (aR 0 24)
    | _ => none
  | _ => none
/-- a field of an object -/
def z_rd (M : Mem) (f p k : Nat) : AV := match z_rk f p k with
  | some r => r
  | none => bif Nat.beq p 32 && Nat.beq k 18 then aL (M.2.2 0) else aI (z_ri M f p k)
/-- fields of the type boolean -/
def z_fb (p k : Nat) : Bool := match p with
  | 0 => Nat.beq k 5 || Nat.beq k 6
  | 23 => Nat.beq k 4
  | _ => false
def z_isB (x : Int32) : Bool := decide (x = 0) || decide (x = 1)
def z_inb (i : Int32) (n : Nat) : Bool := !(decide (i < 0)) && Nat.blt i.toNatClampNeg n
def z_okv : AV → Bool
  | .inr (.inr (.inr r)) => (Nat.beq r.2 41 && Nat.beq r.1 0) || z_val r.1 r.2
  | _ => true
def z_okS (st : List AV) : Bool := st.all z_okv
def z_okL (ls : Lc) : Bool := ls.all fun o => match o with
  | some v => z_okv v
  | none => true
def z_all : List Prop → Prop
  | [] => True
  | a :: t => a ∧ z_all t

def z_c0 (pc : Nat) : Option (Instr × Nat × Int32) := bif Nat.blt pc 56 then (bif Nat.blt pc 28 then (bif Nat.blt pc 14 then (bif Nat.blt pc 6 then (bif Nat.blt pc 4 then (bif Nat.blt pc 1 then (bif Nat.beq pc 0 then some (.aload_n 1, 0, 0) else none) else (bif Nat.beq pc 1 then some (.getfield 9, 0, 0) else none)) else (bif Nat.blt pc 5 then (bif Nat.beq pc 4 then some (.iconst 0, 0, 0) else none) else (bif Nat.beq pc 5 then some (.aload_n 0, 0, 0) else none))) else (bif Nat.blt pc 10 then (bif Nat.blt pc 9 then (bif Nat.beq pc 6 then some (.getfield 9, 0, 0) else none) else (bif Nat.beq pc 9 then some (.iconst 0, 0, 0) else none)) else (bif Nat.blt pc 11 then (bif Nat.beq pc 10 then some (.iconst 4, 0, 4) else none) else (bif Nat.beq pc 11 then some (.invokestatic 42, 0, 0) else none)))) else (bif Nat.blt pc 20 then (bif Nat.blt pc 18 then (bif Nat.blt pc 15 then (bif Nat.beq pc 14 then some (.aload_n 1, 0, 0) else none) else (bif Nat.beq pc 15 then some (.getfield 15, 0, 0) else none)) else (bif Nat.blt pc 19 then (bif Nat.beq pc 18 then some (.iconst 0, 0, 0) else none) else (bif Nat.beq pc 19 then some (.aload_n 0, 0, 0) else none))) else (bif Nat.blt pc 24 then (bif Nat.blt pc 23 then (bif Nat.beq pc 20 then some (.getfield 15, 0, 0) else none) else (bif Nat.beq pc 23 then some (.iconst 0, 0, 0) else none)) else (bif Nat.blt pc 25 then (bif Nat.beq pc 24 then some (.iconst 4, 0, 4) else none) else (bif Nat.beq pc 25 then some (.invokestatic 42, 0, 0) else none))))) else (bif Nat.blt pc 42 then (bif Nat.blt pc 34 then (bif Nat.blt pc 32 then (bif Nat.blt pc 29 then (bif Nat.beq pc 28 then some (.aload_n 1, 0, 0) else none) else (bif Nat.beq pc 29 then some (.getfield 18, 0, 0) else none)) else (bif Nat.blt pc 33 then (bif Nat.beq pc 32 then some (.iconst 0, 0, 0) else none) else (bif Nat.beq pc 33 then some (.aload_n 0, 0, 0) else none))) else (bif Nat.blt pc 38 then (bif Nat.blt pc 37 then (bif Nat.beq pc 34 then some (.getfield 18, 0, 0) else none) else (bif Nat.beq pc 37 then some (.iconst 0, 0, 0) else none)) else (bif Nat.blt pc 39 then (bif Nat.beq pc 38 then some (.iconst 4, 0, 4) else none) else (bif Nat.beq pc 39 then some (.invokestatic 42, 0, 0) else none)))) else (bif Nat.blt pc 48 then (bif Nat.blt pc 46 then (bif Nat.blt pc 43 then (bif Nat.beq pc 42 then some (.aload_n 1, 0, 0) else none) else (bif Nat.beq pc 43 then some (.getfield 21, 0, 0) else none)) else (bif Nat.blt pc 47 then (bif Nat.beq pc 46 then some (.iconst 0, 0, 0) else none) else (bif Nat.beq pc 47 then some (.aload_n 0, 0, 0) else none))) else (bif Nat.blt pc 52 then (bif Nat.blt pc 51 then (bif Nat.beq pc 48 then some (.getfield 21, 0, 0) else none) else (bif Nat.beq pc 51 then some (.iconst 0, 0, 0) else none)) else (bif Nat.blt pc 53 then (bif Nat.beq pc 52 then some (.iconst 4, 0, 4) else none) else (bif Nat.beq pc 53 then some (.invokestatic 42, 0, 0) else none)))))) else (bif Nat.blt pc 84 then (bif Nat.blt pc 70 then (bif Nat.blt pc 62 then (bif Nat.blt pc 60 then (bif Nat.blt pc 57 then (bif Nat.beq pc 56 then some (.aload_n 1, 0, 0) else none) else (bif Nat.beq pc 57 then some (.getfield 24, 0, 0) else none)) else (bif Nat.blt pc 61 then (bif Nat.beq pc 60 then some (.iconst 0, 0, 0) else none) else (bif Nat.beq pc 61 then some (.aload_n 0, 0, 0) else none))) else (bif Nat.blt pc 66 then (bif Nat.blt pc 65 then (bif Nat.beq pc 62 then some (.getfield 24, 0, 0) else none) else (bif Nat.beq pc 65 then some (.iconst 0, 0, 0) else none)) else (bif Nat.blt pc 67 then (bif Nat.beq pc 66 then some (.iconst 4, 0, 4) else none) else (bif Nat.beq pc 67 then some (.invokestatic 42, 0, 0) else none)))) else (bif Nat.blt pc 76 then (bif Nat.blt pc 74 then (bif Nat.blt pc 71 then (bif Nat.beq pc 70 then some (.aload_n 1, 0, 0) else none) else (bif Nat.beq pc 71 then some (.getfield 27, 0, 0) else none)) else (bif Nat.blt pc 75 then (bif Nat.beq pc 74 then some (.iconst 0, 0, 0) else none) else (bif Nat.beq pc 75 then some (.aload_n 0, 0, 0) else none))) else (bif Nat.blt pc 80 then (bif Nat.blt pc 79 then (bif Nat.beq pc 76 then some (.getfield 27, 0, 0) else none) else (bif Nat.beq pc 79 then some (.iconst 0, 0, 0) else none)) else (bif Nat.blt pc 81 then (bif Nat.beq pc 80 then some (.iconst 4, 0, 4) else none) else (bif Nat.beq pc 81 then some (.invokestatic 42, 0, 0) else none))))) else (bif Nat.blt pc 98 then (bif Nat.blt pc 90 then (bif Nat.blt pc 88 then (bif Nat.blt pc 85 then (bif Nat.beq pc 84 then some (.aload_n 1, 0, 0) else none) else (bif Nat.beq pc 85 then some (.getfield 30, 0, 0) else none)) else (bif Nat.blt pc 89 then (bif Nat.beq pc 88 then some (.iconst 0, 0, 0) else none) else (bif Nat.beq pc 89 then some (.aload_n 0, 0, 0) else none))) else (bif Nat.blt pc 94 then (bif Nat.blt pc 93 then (bif Nat.beq pc 90 then some (.getfield 30, 0, 0) else none) else (bif Nat.beq pc 93 then some (.iconst 0, 0, 0) else none)) else (bif Nat.blt pc 95 then (bif Nat.beq pc 94 then some (.iconst 4, 0, 4) else none) else (bif Nat.beq pc 95 then some (.invokestatic 42, 0, 0) else none)))) else (bif Nat.blt pc 104 then (bif Nat.blt pc 102 then (bif Nat.blt pc 99 then (bif Nat.beq pc 98 then some (.aload_n 1, 0, 0) else none) else (bif Nat.beq pc 99 then some (.getfield 33, 0, 0) else none)) else (bif Nat.blt pc 103 then (bif Nat.beq pc 102 then some (.iconst 0, 0, 0) else none) else (bif Nat.beq pc 103 then some (.aload_n 0, 0, 0) else none))) else (bif Nat.blt pc 108 then (bif Nat.blt pc 107 then (bif Nat.beq pc 104 then some (.getfield 33, 0, 0) else none) else (bif Nat.beq pc 107 then some (.iconst 0, 0, 0) else none)) else (bif Nat.blt pc 109 then (bif Nat.beq pc 108 then some (.iconst 4, 0, 4) else none) else (bif Nat.blt pc 112 then (bif Nat.beq pc 109 then some (.invokestatic 42, 0, 0) else none) else (bif Nat.beq pc 112 then some (.return_, 0, 0) else none)))))))
def z_c1 (pc : Nat) : Option (Instr × Nat × Int32) := bif Nat.blt pc 16 then (bif Nat.blt pc 9 then (bif Nat.blt pc 4 then (bif Nat.blt pc 1 then (bif Nat.beq pc 0 then some (.aload_n 0, 0, 0) else none) else (bif Nat.beq pc 1 then some (.getfield 27, 0, 0) else none)) else (bif Nat.blt pc 5 then (bif Nat.beq pc 4 then some (.iload_n 1, 0, 0) else none) else (bif Nat.blt pc 6 then (bif Nat.beq pc 5 then some (.aload_n 0, 0, 0) else none) else (bif Nat.beq pc 6 then some (.getfield 21, 0, 0) else none)))) else (bif Nat.blt pc 11 then (bif Nat.blt pc 10 then (bif Nat.beq pc 9 then some (.iload_n 1, 0, 0) else none) else (bif Nat.beq pc 10 then some (.iaload, 0, 0) else none)) else (bif Nat.blt pc 12 then (bif Nat.beq pc 11 then some (.iastore, 0, 0) else none) else (bif Nat.blt pc 13 then (bif Nat.beq pc 12 then some (.aload_n 0, 0, 0) else none) else (bif Nat.beq pc 13 then some (.getfield 24, 0, 0) else none))))) else (bif Nat.blt pc 23 then (bif Nat.blt pc 18 then (bif Nat.blt pc 17 then (bif Nat.beq pc 16 then some (.iload_n 1, 0, 0) else none) else (bif Nat.beq pc 17 then some (.aload_n 0, 0, 0) else none)) else (bif Nat.blt pc 21 then (bif Nat.beq pc 18 then some (.getfield 21, 0, 0) else none) else (bif Nat.blt pc 22 then (bif Nat.beq pc 21 then some (.iload_n 1, 0, 0) else none) else (bif Nat.beq pc 22 then some (.iaload, 0, 0) else none)))) else (bif Nat.blt pc 30 then (bif Nat.blt pc 26 then (bif Nat.beq pc 23 then some (.ifCond .ne 7, 30, 0) else none) else (bif Nat.blt pc 27 then (bif Nat.beq pc 26 then some (.iconst 2, 0, 2) else none) else (bif Nat.beq pc 27 then some (.goto 4, 31, 0) else none))) else (bif Nat.blt pc 31 then (bif Nat.beq pc 30 then some (.iconst 1, 0, 1) else none) else (bif Nat.blt pc 32 then (bif Nat.beq pc 31 then some (.iastore, 0, 0) else none) else (bif Nat.beq pc 32 then some (.return_, 0, 0) else none)))))
def z_c2 (pc : Nat) : Option (Instr × Nat × Int32) := bif Nat.blt pc 7 then (bif Nat.blt pc 4 then (bif Nat.blt pc 1 then (bif Nat.beq pc 0 then some (.aload_n 0, 0, 0) else none) else (bif Nat.beq pc 1 then some (.getfield 27, 0, 0) else none)) else (bif Nat.blt pc 5 then (bif Nat.beq pc 4 then some (.iload_n 1, 0, 0) else none) else (bif Nat.blt pc 6 then (bif Nat.beq pc 5 then some (.iconst 0, 0, 0) else none) else (bif Nat.beq pc 6 then some (.iastore, 0, 0) else none)))) else (bif Nat.blt pc 12 then (bif Nat.blt pc 8 then (bif Nat.beq pc 7 then some (.aload_n 0, 0, 0) else none) else (bif Nat.blt pc 11 then (bif Nat.beq pc 8 then some (.getfield 24, 0, 0) else none) else (bif Nat.beq pc 11 then some (.iload_n 1, 0, 0) else none))) else (bif Nat.blt pc 13 then (bif Nat.beq pc 12 then some (.iload_n 2, 0, 0) else none) else (bif Nat.blt pc 14 then (bif Nat.beq pc 13 then some (.iastore, 0, 0) else none) else (bif Nat.beq pc 14 then some (.return_, 0, 0) else none))))
def z_c3 (pc : Nat) : Option (Instr × Nat × Int32) := bif Nat.blt pc 14 then (bif Nat.blt pc 6 then (bif Nat.blt pc 4 then (bif Nat.blt pc 1 then (bif Nat.beq pc 0 then some (.aload_n 0, 0, 0) else none) else (bif Nat.beq pc 1 then some (.getfield 24, 0, 0) else none)) else (bif Nat.blt pc 5 then (bif Nat.beq pc 4 then some (.iload_n 1, 0, 0) else none) else (bif Nat.beq pc 5 then some (.iaload, 0, 0) else none))) else (bif Nat.blt pc 10 then (bif Nat.blt pc 7 then (bif Nat.beq pc 6 then some (.iconst 1, 0, 1) else none) else (bif Nat.beq pc 7 then some (.if_icmp .eq 13, 20, 0) else none)) else (bif Nat.blt pc 11 then (bif Nat.beq pc 10 then some (.aload_n 0, 0, 0) else none) else (bif Nat.beq pc 11 then some (.getfield 24, 0, 0) else none)))) else (bif Nat.blt pc 20 then (bif Nat.blt pc 16 then (bif Nat.blt pc 15 then (bif Nat.beq pc 14 then some (.iload_n 1, 0, 0) else none) else (bif Nat.beq pc 15 then some (.iaload, 0, 0) else none)) else (bif Nat.blt pc 17 then (bif Nat.beq pc 16 then some (.iconst 2, 0, 2) else none) else (bif Nat.beq pc 17 then some (.if_icmp .ne 7, 24, 0) else none))) else (bif Nat.blt pc 24 then (bif Nat.blt pc 21 then (bif Nat.beq pc 20 then some (.iconst 1, 0, 1) else none) else (bif Nat.beq pc 21 then some (.goto 4, 25, 0) else none)) else (bif Nat.blt pc 25 then (bif Nat.beq pc 24 then some (.iconst 0, 0, 0) else none) else (bif Nat.beq pc 25 then some (.ireturn, 0, 0) else none))))
def z_c4 (pc : Nat) : Option (Instr × Nat × Int32) := bif Nat.blt pc 15 then (bif Nat.blt pc 5 then (bif Nat.blt pc 2 then (bif Nat.blt pc 1 then (bif Nat.beq pc 0 then some (.iconst 0, 0, 0) else none) else (bif Nat.beq pc 1 then some (.istore_n 2, 0, 0) else none)) else (bif Nat.blt pc 3 then (bif Nat.beq pc 2 then some (.iconst 0, 0, 0) else none) else (bif Nat.blt pc 4 then (bif Nat.beq pc 3 then some (.istore_n 3, 0, 0) else none) else (bif Nat.beq pc 4 then some (.iload_n 3, 0, 0) else none)))) else (bif Nat.blt pc 10 then (bif Nat.blt pc 6 then (bif Nat.beq pc 5 then some (.iconst 4, 0, 4) else none) else (bif Nat.blt pc 9 then (bif Nat.beq pc 6 then some (.if_icmp .ge 25, 31, 0) else none) else (bif Nat.beq pc 9 then some (.aload_n 0, 0, 0) else none))) else (bif Nat.blt pc 13 then (bif Nat.beq pc 10 then some (.getfield 24, 0, 0) else none) else (bif Nat.blt pc 14 then (bif Nat.beq pc 13 then some (.iload_n 3, 0, 0) else none) else (bif Nat.beq pc 14 then some (.iaload, 0, 0) else none))))) else (bif Nat.blt pc 23 then (bif Nat.blt pc 20 then (bif Nat.blt pc 16 then (bif Nat.beq pc 15 then some (.iload_n 1, 0, 0) else none) else (bif Nat.blt pc 19 then (bif Nat.beq pc 16 then some (.if_icmp .ne 9, 25, 0) else none) else (bif Nat.beq pc 19 then some (.iload_n 2, 0, 0) else none))) else (bif Nat.blt pc 21 then (bif Nat.beq pc 20 then some (.iconst 1, 0, 1) else none) else (bif Nat.blt pc 22 then (bif Nat.beq pc 21 then some (.iload_n 3, 0, 0) else none) else (bif Nat.beq pc 22 then some (.ishl, 0, 0) else none)))) else (bif Nat.blt pc 28 then (bif Nat.blt pc 24 then (bif Nat.beq pc 23 then some (.ior, 0, 0) else none) else (bif Nat.blt pc 25 then (bif Nat.beq pc 24 then some (.istore_n 2, 0, 0) else none) else (bif Nat.beq pc 25 then some (.iinc 3 1, 0, 1) else none))) else (bif Nat.blt pc 31 then (bif Nat.beq pc 28 then some (.goto (-24), 4, 0) else none) else (bif Nat.blt pc 32 then (bif Nat.beq pc 31 then some (.iload_n 2, 0, 0) else none) else (bif Nat.beq pc 32 then some (.ireturn, 0, 0) else none)))))
def z_c5 (pc : Nat) : Option (Instr × Nat × Int32) := bif Nat.blt pc 2 then (bif Nat.blt pc 1 then (bif Nat.beq pc 0 then some (.aload_n 0, 0, 0) else none) else (bif Nat.beq pc 1 then some (.iload_n 1, 0, 0) else none)) else (bif Nat.blt pc 5 then (bif Nat.beq pc 2 then some (.invokevirtual 48, 0, 0) else none) else (bif Nat.blt pc 8 then (bif Nat.beq pc 5 then some (.invokestatic 52, 0, 0) else none) else (bif Nat.beq pc 8 then some (.ireturn, 0, 0) else none)))
def z_c6 (pc : Nat) : Option (Instr × Nat × Int32) := bif Nat.blt pc 23 then (bif Nat.blt pc 11 then (bif Nat.blt pc 3 then (bif Nat.blt pc 1 then (bif Nat.beq pc 0 then some (.iconst 0, 0, 0) else none) else (bif Nat.blt pc 2 then (bif Nat.beq pc 1 then some (.istore_n 1, 0, 0) else none) else (bif Nat.beq pc 2 then some (.iload_n 1, 0, 0) else none))) else (bif Nat.blt pc 7 then (bif Nat.blt pc 4 then (bif Nat.beq pc 3 then some (.iconst 4, 0, 4) else none) else (bif Nat.beq pc 4 then some (.if_icmp .ge 44, 48, 0) else none)) else (bif Nat.blt pc 8 then (bif Nat.beq pc 7 then some (.aload_n 0, 0, 0) else none) else (bif Nat.beq pc 8 then some (.getfield 24, 0, 0) else none)))) else (bif Nat.blt pc 17 then (bif Nat.blt pc 13 then (bif Nat.blt pc 12 then (bif Nat.beq pc 11 then some (.iload_n 1, 0, 0) else none) else (bif Nat.beq pc 12 then some (.iaload, 0, 0) else none)) else (bif Nat.blt pc 14 then (bif Nat.beq pc 13 then some (.iconst 1, 0, 1) else none) else (bif Nat.beq pc 14 then some (.if_icmp .ne 28, 42, 0) else none))) else (bif Nat.blt pc 21 then (bif Nat.blt pc 18 then (bif Nat.beq pc 17 then some (.aload_n 0, 0, 0) else none) else (bif Nat.beq pc 18 then some (.getfield 27, 0, 0) else none)) else (bif Nat.blt pc 22 then (bif Nat.beq pc 21 then some (.iload_n 1, 0, 0) else none) else (bif Nat.beq pc 22 then some (.dup2, 0, 0) else none))))) else (bif Nat.blt pc 33 then (bif Nat.blt pc 27 then (bif Nat.blt pc 25 then (bif Nat.blt pc 24 then (bif Nat.beq pc 23 then some (.iaload, 0, 0) else none) else (bif Nat.beq pc 24 then some (.iconst 1, 0, 1) else none)) else (bif Nat.blt pc 26 then (bif Nat.beq pc 25 then some (.isub, 0, 0) else none) else (bif Nat.beq pc 26 then some (.iastore, 0, 0) else none))) else (bif Nat.blt pc 31 then (bif Nat.blt pc 28 then (bif Nat.beq pc 27 then some (.aload_n 0, 0, 0) else none) else (bif Nat.beq pc 28 then some (.getfield 27, 0, 0) else none)) else (bif Nat.blt pc 32 then (bif Nat.beq pc 31 then some (.iload_n 1, 0, 0) else none) else (bif Nat.beq pc 32 then some (.iaload, 0, 0) else none)))) else (bif Nat.blt pc 39 then (bif Nat.blt pc 37 then (bif Nat.blt pc 36 then (bif Nat.beq pc 33 then some (.ifCond .gt 9, 42, 0) else none) else (bif Nat.beq pc 36 then some (.aload_n 0, 0, 0) else none)) else (bif Nat.blt pc 38 then (bif Nat.beq pc 37 then some (.iload_n 1, 0, 0) else none) else (bif Nat.beq pc 38 then some (.iconst 2, 0, 2) else none))) else (bif Nat.blt pc 45 then (bif Nat.blt pc 42 then (bif Nat.beq pc 39 then some (.invokevirtual 57, 0, 0) else none) else (bif Nat.beq pc 42 then some (.iinc 1 1, 0, 1) else none)) else (bif Nat.blt pc 48 then (bif Nat.beq pc 45 then some (.goto (-43), 2, 0) else none) else (bif Nat.beq pc 48 then some (.return_, 0, 0) else none)))))
def z_c7 (pc : Nat) : Option (Instr × Nat × Int32) := bif Nat.blt pc 31 then (bif Nat.blt pc 14 then (bif Nat.blt pc 7 then (bif Nat.blt pc 2 then (bif Nat.blt pc 1 then (bif Nat.beq pc 0 then some (.iconst 0, 0, 0) else none) else (bif Nat.beq pc 1 then some (.istore_n 2, 0, 0) else none)) else (bif Nat.blt pc 3 then (bif Nat.beq pc 2 then some (.iload_n 2, 0, 0) else none) else (bif Nat.blt pc 4 then (bif Nat.beq pc 3 then some (.iconst 4, 0, 4) else none) else (bif Nat.beq pc 4 then some (.if_icmp .ge 57, 61, 0) else none)))) else (bif Nat.blt pc 9 then (bif Nat.blt pc 8 then (bif Nat.beq pc 7 then some (.iload_n 2, 0, 0) else none) else (bif Nat.beq pc 8 then some (.aload_n 1, 0, 0) else none)) else (bif Nat.blt pc 10 then (bif Nat.beq pc 9 then some (.arraylength, 0, 0) else none) else (bif Nat.blt pc 13 then (bif Nat.beq pc 10 then some (.if_icmp .ge 51, 61, 0) else none) else (bif Nat.beq pc 13 then some (.aload_n 0, 0, 0) else none))))) else (bif Nat.blt pc 23 then (bif Nat.blt pc 18 then (bif Nat.blt pc 17 then (bif Nat.beq pc 14 then some (.getfield 24, 0, 0) else none) else (bif Nat.beq pc 17 then some (.iload_n 2, 0, 0) else none)) else (bif Nat.blt pc 19 then (bif Nat.beq pc 18 then some (.iaload, 0, 0) else none) else (bif Nat.blt pc 20 then (bif Nat.beq pc 19 then some (.iconst 2, 0, 2) else none) else (bif Nat.beq pc 20 then some (.if_icmp .ne 35, 55, 0) else none)))) else (bif Nat.blt pc 28 then (bif Nat.blt pc 24 then (bif Nat.beq pc 23 then some (.aload_n 0, 0, 0) else none) else (bif Nat.blt pc 27 then (bif Nat.beq pc 24 then some (.getfield 30, 0, 0) else none) else (bif Nat.beq pc 27 then some (.iload_n 2, 0, 0) else none))) else (bif Nat.blt pc 29 then (bif Nat.beq pc 28 then some (.dup2, 0, 0) else none) else (bif Nat.blt pc 30 then (bif Nat.beq pc 29 then some (.iaload, 0, 0) else none) else (bif Nat.beq pc 30 then some (.aload_n 0, 0, 0) else none)))))) else (bif Nat.blt pc 45 then (bif Nat.blt pc 38 then (bif Nat.blt pc 35 then (bif Nat.blt pc 34 then (bif Nat.beq pc 31 then some (.getfield 18, 0, 0) else none) else (bif Nat.beq pc 34 then some (.iload_n 2, 0, 0) else none)) else (bif Nat.blt pc 36 then (bif Nat.beq pc 35 then some (.iaload, 0, 0) else none) else (bif Nat.blt pc 37 then (bif Nat.beq pc 36 then some (.aload_n 1, 0, 0) else none) else (bif Nat.beq pc 37 then some (.iload_n 2, 0, 0) else none)))) else (bif Nat.blt pc 42 then (bif Nat.blt pc 39 then (bif Nat.beq pc 38 then some (.iaload, 0, 0) else none) else (bif Nat.blt pc 40 then (bif Nat.beq pc 39 then some (.imul, 0, 0) else none) else (bif Nat.beq pc 40 then some (.bipush 10, 0, 10) else none))) else (bif Nat.blt pc 43 then (bif Nat.beq pc 42 then some (.idiv, 0, 0) else none) else (bif Nat.blt pc 44 then (bif Nat.beq pc 43 then some (.iadd, 0, 0) else none) else (bif Nat.beq pc 44 then some (.iastore, 0, 0) else none))))) else (bif Nat.blt pc 52 then (bif Nat.blt pc 49 then (bif Nat.blt pc 46 then (bif Nat.beq pc 45 then some (.aload_n 0, 0, 0) else none) else (bif Nat.beq pc 46 then some (.getfield 33, 0, 0) else none)) else (bif Nat.blt pc 50 then (bif Nat.beq pc 49 then some (.iload_n 2, 0, 0) else none) else (bif Nat.blt pc 51 then (bif Nat.beq pc 50 then some (.dup2, 0, 0) else none) else (bif Nat.beq pc 51 then some (.iaload, 0, 0) else none)))) else (bif Nat.blt pc 55 then (bif Nat.blt pc 53 then (bif Nat.beq pc 52 then some (.iconst 1, 0, 1) else none) else (bif Nat.blt pc 54 then (bif Nat.beq pc 53 then some (.iadd, 0, 0) else none) else (bif Nat.beq pc 54 then some (.iastore, 0, 0) else none))) else (bif Nat.blt pc 58 then (bif Nat.beq pc 55 then some (.iinc 2 1, 0, 1) else none) else (bif Nat.blt pc 61 then (bif Nat.beq pc 58 then some (.goto (-56), 2, 0) else none) else (bif Nat.beq pc 61 then some (.return_, 0, 0) else none))))))
def z_c8 (pc : Nat) : Option (Instr × Nat × Int32) := bif Nat.blt pc 20 then (bif Nat.blt pc 9 then (bif Nat.blt pc 3 then (bif Nat.blt pc 1 then (bif Nat.beq pc 0 then some (.iconst 0, 0, 0) else none) else (bif Nat.blt pc 2 then (bif Nat.beq pc 1 then some (.istore_n 2, 0, 0) else none) else (bif Nat.beq pc 2 then some (.iconst 0, 0, 0) else none))) else (bif Nat.blt pc 5 then (bif Nat.blt pc 4 then (bif Nat.beq pc 3 then some (.istore_n 3, 0, 0) else none) else (bif Nat.beq pc 4 then some (.iload_n 3, 0, 0) else none)) else (bif Nat.blt pc 6 then (bif Nat.beq pc 5 then some (.iconst 4, 0, 4) else none) else (bif Nat.beq pc 6 then some (.if_icmp .ge 31, 37, 0) else none)))) else (bif Nat.blt pc 12 then (bif Nat.blt pc 10 then (bif Nat.beq pc 9 then some (.iload_n 3, 0, 0) else none) else (bif Nat.blt pc 11 then (bif Nat.beq pc 10 then some (.aload_n 1, 0, 0) else none) else (bif Nat.beq pc 11 then some (.arraylength, 0, 0) else none))) else (bif Nat.blt pc 16 then (bif Nat.blt pc 15 then (bif Nat.beq pc 12 then some (.if_icmp .ge 25, 37, 0) else none) else (bif Nat.beq pc 15 then some (.iload_n 2, 0, 0) else none)) else (bif Nat.blt pc 17 then (bif Nat.beq pc 16 then some (.aload_n 0, 0, 0) else none) else (bif Nat.beq pc 17 then some (.getfield 18, 0, 0) else none))))) else (bif Nat.blt pc 28 then (bif Nat.blt pc 23 then (bif Nat.blt pc 21 then (bif Nat.beq pc 20 then some (.iload_n 3, 0, 0) else none) else (bif Nat.blt pc 22 then (bif Nat.beq pc 21 then some (.iaload, 0, 0) else none) else (bif Nat.beq pc 22 then some (.aload_n 1, 0, 0) else none))) else (bif Nat.blt pc 25 then (bif Nat.blt pc 24 then (bif Nat.beq pc 23 then some (.iload_n 3, 0, 0) else none) else (bif Nat.beq pc 24 then some (.iaload, 0, 0) else none)) else (bif Nat.blt pc 26 then (bif Nat.beq pc 25 then some (.imul, 0, 0) else none) else (bif Nat.beq pc 26 then some (.bipush 10, 0, 10) else none)))) else (bif Nat.blt pc 31 then (bif Nat.blt pc 29 then (bif Nat.beq pc 28 then some (.idiv, 0, 0) else none) else (bif Nat.blt pc 30 then (bif Nat.beq pc 29 then some (.iadd, 0, 0) else none) else (bif Nat.beq pc 30 then some (.istore_n 2, 0, 0) else none))) else (bif Nat.blt pc 37 then (bif Nat.blt pc 34 then (bif Nat.beq pc 31 then some (.iinc 3 1, 0, 1) else none) else (bif Nat.beq pc 34 then some (.goto (-30), 4, 0) else none)) else (bif Nat.blt pc 38 then (bif Nat.beq pc 37 then some (.iload_n 2, 0, 0) else none) else (bif Nat.beq pc 38 then some (.ireturn, 0, 0) else none)))))
def z_c9 (pc : Nat) : Option (Instr × Nat × Int32) := bif Nat.blt pc 11 then (bif Nat.blt pc 4 then (bif Nat.blt pc 2 then (bif Nat.blt pc 1 then (bif Nat.beq pc 0 then some (.iconst 0, 0, 0) else none) else (bif Nat.beq pc 1 then some (.istore_n 1, 0, 0) else none)) else (bif Nat.blt pc 3 then (bif Nat.beq pc 2 then some (.iconst 0, 0, 0) else none) else (bif Nat.beq pc 3 then some (.istore_n 2, 0, 0) else none))) else (bif Nat.blt pc 6 then (bif Nat.blt pc 5 then (bif Nat.beq pc 4 then some (.iload_n 2, 0, 0) else none) else (bif Nat.beq pc 5 then some (.iconst 4, 0, 4) else none)) else (bif Nat.blt pc 9 then (bif Nat.beq pc 6 then some (.if_icmp .ge 18, 24, 0) else none) else (bif Nat.blt pc 10 then (bif Nat.beq pc 9 then some (.iload_n 1, 0, 0) else none) else (bif Nat.beq pc 10 then some (.aload_n 0, 0, 0) else none))))) else (bif Nat.blt pc 17 then (bif Nat.blt pc 15 then (bif Nat.blt pc 14 then (bif Nat.beq pc 11 then some (.getfield 30, 0, 0) else none) else (bif Nat.beq pc 14 then some (.iload_n 2, 0, 0) else none)) else (bif Nat.blt pc 16 then (bif Nat.beq pc 15 then some (.iaload, 0, 0) else none) else (bif Nat.beq pc 16 then some (.iadd, 0, 0) else none))) else (bif Nat.blt pc 21 then (bif Nat.blt pc 18 then (bif Nat.beq pc 17 then some (.istore_n 1, 0, 0) else none) else (bif Nat.beq pc 18 then some (.iinc 2 1, 0, 1) else none)) else (bif Nat.blt pc 24 then (bif Nat.beq pc 21 then some (.goto (-17), 4, 0) else none) else (bif Nat.blt pc 25 then (bif Nat.beq pc 24 then some (.iload_n 1, 0, 0) else none) else (bif Nat.beq pc 25 then some (.ireturn, 0, 0) else none)))))
def z_c10 (pc : Nat) : Option (Instr × Nat × Int32) := bif Nat.blt pc 27 then (bif Nat.blt pc 11 then (bif Nat.blt pc 4 then (bif Nat.blt pc 2 then (bif Nat.blt pc 1 then (bif Nat.beq pc 0 then some (.iconst (-1), 0, (-1)) else none) else (bif Nat.beq pc 1 then some (.istore_n 2, 0, 0) else none)) else (bif Nat.blt pc 3 then (bif Nat.beq pc 2 then some (.iconst 0, 0, 0) else none) else (bif Nat.beq pc 3 then some (.istore_n 3, 0, 0) else none))) else (bif Nat.blt pc 6 then (bif Nat.blt pc 5 then (bif Nat.beq pc 4 then some (.iload_n 3, 0, 0) else none) else (bif Nat.beq pc 5 then some (.iconst 4, 0, 4) else none)) else (bif Nat.blt pc 9 then (bif Nat.beq pc 6 then some (.if_icmp .ge 52, 58, 0) else none) else (bif Nat.blt pc 10 then (bif Nat.beq pc 9 then some (.iload_n 1, 0, 0) else none) else (bif Nat.beq pc 10 then some (.iload_n 3, 0, 0) else none))))) else (bif Nat.blt pc 18 then (bif Nat.blt pc 13 then (bif Nat.blt pc 12 then (bif Nat.beq pc 11 then some (.ishr, 0, 0) else none) else (bif Nat.beq pc 12 then some (.iconst 1, 0, 1) else none)) else (bif Nat.blt pc 14 then (bif Nat.beq pc 13 then some (.iand, 0, 0) else none) else (bif Nat.blt pc 15 then (bif Nat.beq pc 14 then some (.iconst 1, 0, 1) else none) else (bif Nat.beq pc 15 then some (.if_icmp .ne 7, 22, 0) else none)))) else (bif Nat.blt pc 22 then (bif Nat.blt pc 19 then (bif Nat.beq pc 18 then some (.iconst 1, 0, 1) else none) else (bif Nat.beq pc 19 then some (.goto 4, 23, 0) else none)) else (bif Nat.blt pc 23 then (bif Nat.beq pc 22 then some (.iconst 0, 0, 0) else none) else (bif Nat.blt pc 25 then (bif Nat.beq pc 23 then some (.istore 4, 0, 0) else none) else (bif Nat.beq pc 25 then some (.iload 4, 0, 0) else none)))))) else (bif Nat.blt pc 42 then (bif Nat.blt pc 35 then (bif Nat.blt pc 31 then (bif Nat.blt pc 30 then (bif Nat.beq pc 27 then some (.ifCond .eq 25, 52, 0) else none) else (bif Nat.beq pc 30 then some (.iload_n 2, 0, 0) else none)) else (bif Nat.blt pc 32 then (bif Nat.beq pc 31 then some (.iconst (-1), 0, (-1)) else none) else (bif Nat.beq pc 32 then some (.if_icmp .eq 18, 50, 0) else none))) else (bif Nat.blt pc 39 then (bif Nat.blt pc 36 then (bif Nat.beq pc 35 then some (.aload_n 0, 0, 0) else none) else (bif Nat.beq pc 36 then some (.getfield 18, 0, 0) else none)) else (bif Nat.blt pc 40 then (bif Nat.beq pc 39 then some (.iload_n 3, 0, 0) else none) else (bif Nat.blt pc 41 then (bif Nat.beq pc 40 then some (.iaload, 0, 0) else none) else (bif Nat.beq pc 41 then some (.aload_n 0, 0, 0) else none))))) else (bif Nat.blt pc 51 then (bif Nat.blt pc 46 then (bif Nat.blt pc 45 then (bif Nat.beq pc 42 then some (.getfield 18, 0, 0) else none) else (bif Nat.beq pc 45 then some (.iload_n 2, 0, 0) else none)) else (bif Nat.blt pc 47 then (bif Nat.beq pc 46 then some (.iaload, 0, 0) else none) else (bif Nat.blt pc 50 then (bif Nat.beq pc 47 then some (.if_icmp .ge 5, 52, 0) else none) else (bif Nat.beq pc 50 then some (.iload_n 3, 0, 0) else none)))) else (bif Nat.blt pc 55 then (bif Nat.blt pc 52 then (bif Nat.beq pc 51 then some (.istore_n 2, 0, 0) else none) else (bif Nat.beq pc 52 then some (.iinc 3 1, 0, 1) else none)) else (bif Nat.blt pc 58 then (bif Nat.beq pc 55 then some (.goto (-51), 4, 0) else none) else (bif Nat.blt pc 59 then (bif Nat.beq pc 58 then some (.iload_n 2, 0, 0) else none) else (bif Nat.beq pc 59 then some (.ireturn, 0, 0) else none))))))
def z_c11 (pc : Nat) : Option (Instr × Nat × Int32) := bif Nat.blt pc 44 then (bif Nat.blt pc 23 then (bif Nat.blt pc 12 then (bif Nat.blt pc 5 then (bif Nat.blt pc 1 then (bif Nat.beq pc 0 then some (.aload_n 0, 0, 0) else none) else (bif Nat.blt pc 4 then (bif Nat.beq pc 1 then some (.getfield 12, 0, 0) else none) else (bif Nat.beq pc 4 then some (.aload_n 1, 0, 0) else none))) else (bif Nat.blt pc 8 then (bif Nat.beq pc 5 then some (.getfield 12, 0, 0) else none) else (bif Nat.blt pc 11 then (bif Nat.beq pc 8 then some (.invokevirtual 47, 0, 0) else none) else (bif Nat.beq pc 11 then some (.iconst 0, 0, 0) else none)))) else (bif Nat.blt pc 16 then (bif Nat.blt pc 13 then (bif Nat.beq pc 12 then some (.istore_n 2, 0, 0) else none) else (bif Nat.blt pc 14 then (bif Nat.beq pc 13 then some (.iload_n 2, 0, 0) else none) else (bif Nat.beq pc 14 then some (.bipush 7, 0, 7) else none))) else (bif Nat.blt pc 19 then (bif Nat.beq pc 16 then some (.if_icmp .ge 28, 44, 0) else none) else (bif Nat.blt pc 20 then (bif Nat.beq pc 19 then some (.aload_n 1, 0, 0) else none) else (bif Nat.beq pc 20 then some (.getfield 20, 0, 0) else none))))) else (bif Nat.blt pc 31 then (bif Nat.blt pc 26 then (bif Nat.blt pc 24 then (bif Nat.beq pc 23 then some (.iload_n 2, 0, 0) else none) else (bif Nat.blt pc 25 then (bif Nat.beq pc 24 then some (.aaload, 0, 0) else none) else (bif Nat.beq pc 25 then some (.iconst 0, 0, 0) else none))) else (bif Nat.blt pc 27 then (bif Nat.beq pc 26 then some (.aload_n 0, 0, 0) else none) else (bif Nat.blt pc 30 then (bif Nat.beq pc 27 then some (.getfield 20, 0, 0) else none) else (bif Nat.beq pc 30 then some (.iload_n 2, 0, 0) else none)))) else (bif Nat.blt pc 35 then (bif Nat.blt pc 32 then (bif Nat.beq pc 31 then some (.aaload, 0, 0) else none) else (bif Nat.blt pc 33 then (bif Nat.beq pc 32 then some (.iconst 0, 0, 0) else none) else (bif Nat.beq pc 33 then some (.bipush 48, 0, 48) else none))) else (bif Nat.blt pc 38 then (bif Nat.beq pc 35 then some (.invokestatic 51, 0, 0) else none) else (bif Nat.blt pc 41 then (bif Nat.beq pc 38 then some (.iinc 2 1, 0, 1) else none) else (bif Nat.beq pc 41 then some (.goto (-28), 13, 0) else none)))))) else (bif Nat.blt pc 66 then (bif Nat.blt pc 54 then (bif Nat.blt pc 49 then (bif Nat.blt pc 45 then (bif Nat.beq pc 44 then some (.aload_n 1, 0, 0) else none) else (bif Nat.blt pc 48 then (bif Nat.beq pc 45 then some (.getfield 23, 0, 0) else none) else (bif Nat.beq pc 48 then some (.iconst 0, 0, 0) else none))) else (bif Nat.blt pc 50 then (bif Nat.beq pc 49 then some (.aload_n 0, 0, 0) else none) else (bif Nat.blt pc 53 then (bif Nat.beq pc 50 then some (.getfield 23, 0, 0) else none) else (bif Nat.beq pc 53 then some (.iconst 0, 0, 0) else none)))) else (bif Nat.blt pc 59 then (bif Nat.blt pc 55 then (bif Nat.beq pc 54 then some (.iconst 2, 0, 2) else none) else (bif Nat.blt pc 58 then (bif Nat.beq pc 55 then some (.invokestatic 51, 0, 0) else none) else (bif Nat.beq pc 58 then some (.aload_n 0, 0, 0) else none))) else (bif Nat.blt pc 60 then (bif Nat.beq pc 59 then some (.aload_n 1, 0, 0) else none) else (bif Nat.blt pc 63 then (bif Nat.beq pc 60 then some (.getfield 27, 0, 0) else none) else (bif Nat.beq pc 63 then some (.putfield 27, 0, 0) else none))))) else (bif Nat.blt pc 76 then (bif Nat.blt pc 71 then (bif Nat.blt pc 67 then (bif Nat.beq pc 66 then some (.aload_n 0, 0, 0) else none) else (bif Nat.blt pc 68 then (bif Nat.beq pc 67 then some (.aload_n 1, 0, 0) else none) else (bif Nat.beq pc 68 then some (.getfield 31, 0, 0) else none))) else (bif Nat.blt pc 74 then (bif Nat.beq pc 71 then some (.putfield 31, 0, 0) else none) else (bif Nat.blt pc 75 then (bif Nat.beq pc 74 then some (.aload_n 0, 0, 0) else none) else (bif Nat.beq pc 75 then some (.aload_n 1, 0, 0) else none)))) else (bif Nat.blt pc 83 then (bif Nat.blt pc 79 then (bif Nat.beq pc 76 then some (.getfield 34, 0, 0) else none) else (bif Nat.blt pc 82 then (bif Nat.beq pc 79 then some (.putfield 34, 0, 0) else none) else (bif Nat.beq pc 82 then some (.aload_n 0, 0, 0) else none))) else (bif Nat.blt pc 87 then (bif Nat.blt pc 84 then (bif Nat.beq pc 83 then some (.aload_n 1, 0, 0) else none) else (bif Nat.beq pc 84 then some (.getfield 38, 0, 0) else none)) else (bif Nat.blt pc 90 then (bif Nat.beq pc 87 then some (.putfield 38, 0, 0) else none) else (bif Nat.beq pc 90 then some (.return_, 0, 0) else none))))))
def z_c12 (pc : Nat) : Option (Instr × Nat × Int32) := bif Nat.blt pc 4 then (bif Nat.blt pc 1 then (bif Nat.beq pc 0 then some (.aload_n 0, 0, 0) else none) else (bif Nat.beq pc 1 then some (.getfield 27, 0, 0) else none)) else (bif Nat.blt pc 6 then (bif Nat.beq pc 4 then some (.bipush 47, 0, 47) else none) else (bif Nat.blt pc 9 then (bif Nat.beq pc 6 then some (.invokestatic 57, 0, 0) else none) else (bif Nat.beq pc 9 then some (.ireturn, 0, 0) else none)))
def z_c13 (pc : Nat) : Option (Instr × Nat × Int32) := bif Nat.blt pc 8 then (bif Nat.blt pc 3 then (bif Nat.blt pc 1 then (bif Nat.beq pc 0 then some (.iload_n 1, 0, 0) else none) else (bif Nat.beq pc 1 then some (.bipush 48, 0, 48) else none)) else (bif Nat.blt pc 4 then (bif Nat.beq pc 3 then some (.aload_n 0, 0, 0) else none) else (bif Nat.blt pc 7 then (bif Nat.beq pc 4 then some (.getfield 27, 0, 0) else none) else (bif Nat.beq pc 7 then some (.isub, 0, 0) else none)))) else (bif Nat.blt pc 12 then (bif Nat.blt pc 11 then (bif Nat.beq pc 8 then some (.if_icmp .gt 7, 15, 0) else none) else (bif Nat.beq pc 11 then some (.iconst 1, 0, 1) else none)) else (bif Nat.blt pc 15 then (bif Nat.beq pc 12 then some (.goto 4, 16, 0) else none) else (bif Nat.blt pc 16 then (bif Nat.beq pc 15 then some (.iconst 0, 0, 0) else none) else (bif Nat.beq pc 16 then some (.ireturn, 0, 0) else none))))
def z_c14 (pc : Nat) : Option (Instr × Nat × Int32) := bif Nat.blt pc 12 then (bif Nat.blt pc 6 then (bif Nat.blt pc 4 then (bif Nat.blt pc 1 then (bif Nat.beq pc 0 then some (.aload_n 0, 0, 0) else none) else (bif Nat.beq pc 1 then some (.getfield 20, 0, 0) else none)) else (bif Nat.blt pc 5 then (bif Nat.beq pc 4 then some (.iconst 0, 0, 0) else none) else (bif Nat.beq pc 5 then some (.aaload, 0, 0) else none))) else (bif Nat.blt pc 8 then (bif Nat.blt pc 7 then (bif Nat.beq pc 6 then some (.iload_n 1, 0, 0) else none) else (bif Nat.beq pc 7 then some (.iaload, 0, 0) else none)) else (bif Nat.blt pc 9 then (bif Nat.beq pc 8 then some (.aload_n 0, 0, 0) else none) else (bif Nat.beq pc 9 then some (.getfield 38, 0, 0) else none)))) else (bif Nat.blt pc 20 then (bif Nat.blt pc 16 then (bif Nat.blt pc 15 then (bif Nat.beq pc 12 then some (.ifCond .eq 7, 19, 0) else none) else (bif Nat.beq pc 15 then some (.iconst 0, 0, 0) else none)) else (bif Nat.blt pc 19 then (bif Nat.beq pc 16 then some (.goto 9, 25, 0) else none) else (bif Nat.beq pc 19 then some (.aload_n 0, 0, 0) else none))) else (bif Nat.blt pc 24 then (bif Nat.blt pc 23 then (bif Nat.beq pc 20 then some (.getfield 23, 0, 0) else none) else (bif Nat.beq pc 23 then some (.iconst 0, 0, 0) else none)) else (bif Nat.blt pc 25 then (bif Nat.beq pc 24 then some (.iaload, 0, 0) else none) else (bif Nat.blt pc 26 then (bif Nat.beq pc 25 then some (.iadd, 0, 0) else none) else (bif Nat.beq pc 26 then some (.ireturn, 0, 0) else none)))))
def z_c15 (pc : Nat) : Option (Instr × Nat × Int32) := bif Nat.blt pc 11 then (bif Nat.blt pc 3 then (bif Nat.blt pc 1 then (bif Nat.beq pc 0 then some (.iconst 0, 0, 0) else none) else (bif Nat.blt pc 2 then (bif Nat.beq pc 1 then some (.istore_n 3, 0, 0) else none) else (bif Nat.beq pc 2 then some (.iload_n 3, 0, 0) else none))) else (bif Nat.blt pc 7 then (bif Nat.blt pc 4 then (bif Nat.beq pc 3 then some (.iload_n 1, 0, 0) else none) else (bif Nat.beq pc 4 then some (.if_icmp .ge 23, 27, 0) else none)) else (bif Nat.blt pc 8 then (bif Nat.beq pc 7 then some (.aload_n 0, 0, 0) else none) else (bif Nat.beq pc 8 then some (.getfield 27, 0, 0) else none)))) else (bif Nat.blt pc 18 then (bif Nat.blt pc 16 then (bif Nat.blt pc 13 then (bif Nat.beq pc 11 then some (.bipush 48, 0, 48) else none) else (bif Nat.beq pc 13 then some (.if_icmp .ge 14, 27, 0) else none)) else (bif Nat.blt pc 17 then (bif Nat.beq pc 16 then some (.aload_n 0, 0, 0) else none) else (bif Nat.beq pc 17 then some (.aload_n 2, 0, 0) else none))) else (bif Nat.blt pc 24 then (bif Nat.blt pc 21 then (bif Nat.beq pc 18 then some (.invokevirtual 63, 0, 0) else none) else (bif Nat.beq pc 21 then some (.iinc 3 1, 0, 1) else none)) else (bif Nat.blt pc 27 then (bif Nat.beq pc 24 then some (.goto (-22), 2, 0) else none) else (bif Nat.beq pc 27 then some (.return_, 0, 0) else none))))
def z_c16 (pc : Nat) : Option (Instr × Nat × Int32) := bif Nat.blt pc 73 then (bif Nat.blt pc 39 then (bif Nat.blt pc 20 then (bif Nat.blt pc 9 then (bif Nat.blt pc 4 then (bif Nat.blt pc 1 then (bif Nat.beq pc 0 then some (.aload_n 0, 0, 0) else none) else (bif Nat.beq pc 1 then some (.getfield 12, 0, 0) else none)) else (bif Nat.blt pc 7 then (bif Nat.beq pc 4 then some (.invokevirtual 67, 0, 0) else none) else (bif Nat.blt pc 8 then (bif Nat.beq pc 7 then some (.aload_n 0, 0, 0) else none) else (bif Nat.beq pc 8 then some (.aload_n 0, 0, 0) else none)))) else (bif Nat.blt pc 15 then (bif Nat.blt pc 12 then (bif Nat.beq pc 9 then some (.getfield 27, 0, 0) else none) else (bif Nat.beq pc 12 then some (.invokevirtual 70, 0, 0) else none)) else (bif Nat.blt pc 16 then (bif Nat.beq pc 15 then some (.istore_n 2, 0, 0) else none) else (bif Nat.blt pc 17 then (bif Nat.beq pc 16 then some (.aload_n 0, 0, 0) else none) else (bif Nat.beq pc 17 then some (.getfield 12, 0, 0) else none))))) else (bif Nat.blt pc 27 then (bif Nat.blt pc 24 then (bif Nat.blt pc 21 then (bif Nat.beq pc 20 then some (.iconst 2, 0, 2) else none) else (bif Nat.beq pc 21 then some (.invokevirtual 74, 0, 0) else none)) else (bif Nat.blt pc 25 then (bif Nat.beq pc 24 then some (.istore_n 3, 0, 0) else none) else (bif Nat.blt pc 26 then (bif Nat.beq pc 25 then some (.aload_n 1, 0, 0) else none) else (bif Nat.beq pc 26 then some (.aload_n 0, 0, 0) else none)))) else (bif Nat.blt pc 32 then (bif Nat.blt pc 30 then (bif Nat.beq pc 27 then some (.getfield 12, 0, 0) else none) else (bif Nat.blt pc 31 then (bif Nat.beq pc 30 then some (.iload_n 3, 0, 0) else none) else (bif Nat.beq pc 31 then some (.iload_n 2, 0, 0) else none))) else (bif Nat.blt pc 35 then (bif Nat.beq pc 32 then some (.invokevirtual 77, 0, 0) else none) else (bif Nat.blt pc 36 then (bif Nat.beq pc 35 then some (.aload_n 0, 0, 0) else none) else (bif Nat.beq pc 36 then some (.getfield 20, 0, 0) else none)))))) else (bif Nat.blt pc 54 then (bif Nat.blt pc 46 then (bif Nat.blt pc 41 then (bif Nat.blt pc 40 then (bif Nat.beq pc 39 then some (.iconst 1, 0, 1) else none) else (bif Nat.beq pc 40 then some (.aaload, 0, 0) else none)) else (bif Nat.blt pc 42 then (bif Nat.beq pc 41 then some (.aload_n 0, 0, 0) else none) else (bif Nat.blt pc 45 then (bif Nat.beq pc 42 then some (.getfield 27, 0, 0) else none) else (bif Nat.beq pc 45 then some (.iload_n 2, 0, 0) else none)))) else (bif Nat.blt pc 51 then (bif Nat.blt pc 47 then (bif Nat.beq pc 46 then some (.iastore, 0, 0) else none) else (bif Nat.blt pc 48 then (bif Nat.beq pc 47 then some (.aload_n 0, 0, 0) else none) else (bif Nat.beq pc 48 then some (.getfield 20, 0, 0) else none))) else (bif Nat.blt pc 52 then (bif Nat.beq pc 51 then some (.iconst 2, 0, 2) else none) else (bif Nat.blt pc 53 then (bif Nat.beq pc 52 then some (.aaload, 0, 0) else none) else (bif Nat.beq pc 53 then some (.aload_n 0, 0, 0) else none))))) else (bif Nat.blt pc 63 then (bif Nat.blt pc 58 then (bif Nat.blt pc 57 then (bif Nat.beq pc 54 then some (.getfield 27, 0, 0) else none) else (bif Nat.beq pc 57 then some (.aload_n 1, 0, 0) else none)) else (bif Nat.blt pc 61 then (bif Nat.beq pc 58 then some (.getfield 83, 0, 0) else none) else (bif Nat.blt pc 62 then (bif Nat.beq pc 61 then some (.iastore, 0, 0) else none) else (bif Nat.beq pc 62 then some (.aload_n 0, 0, 0) else none)))) else (bif Nat.blt pc 68 then (bif Nat.blt pc 66 then (bif Nat.beq pc 63 then some (.getfield 20, 0, 0) else none) else (bif Nat.blt pc 67 then (bif Nat.beq pc 66 then some (.iconst 3, 0, 3) else none) else (bif Nat.beq pc 67 then some (.aaload, 0, 0) else none))) else (bif Nat.blt pc 69 then (bif Nat.beq pc 68 then some (.aload_n 0, 0, 0) else none) else (bif Nat.blt pc 72 then (bif Nat.beq pc 69 then some (.getfield 27, 0, 0) else none) else (bif Nat.beq pc 72 then some (.aload_n 1, 0, 0) else none))))))) else (bif Nat.blt pc 110 then (bif Nat.blt pc 91 then (bif Nat.blt pc 82 then (bif Nat.blt pc 77 then (bif Nat.blt pc 76 then (bif Nat.beq pc 73 then some (.getfield 86, 0, 0) else none) else (bif Nat.beq pc 76 then some (.iastore, 0, 0) else none)) else (bif Nat.blt pc 78 then (bif Nat.beq pc 77 then some (.aload_n 0, 0, 0) else none) else (bif Nat.blt pc 81 then (bif Nat.beq pc 78 then some (.getfield 20, 0, 0) else none) else (bif Nat.beq pc 81 then some (.iconst 4, 0, 4) else none)))) else (bif Nat.blt pc 84 then (bif Nat.blt pc 83 then (bif Nat.beq pc 82 then some (.aaload, 0, 0) else none) else (bif Nat.beq pc 83 then some (.aload_n 0, 0, 0) else none)) else (bif Nat.blt pc 87 then (bif Nat.beq pc 84 then some (.getfield 27, 0, 0) else none) else (bif Nat.blt pc 88 then (bif Nat.beq pc 87 then some (.aload_n 1, 0, 0) else none) else (bif Nat.beq pc 88 then some (.getfield 89, 0, 0) else none))))) else (bif Nat.blt pc 98 then (bif Nat.blt pc 93 then (bif Nat.blt pc 92 then (bif Nat.beq pc 91 then some (.iastore, 0, 0) else none) else (bif Nat.beq pc 92 then some (.aload_n 0, 0, 0) else none)) else (bif Nat.blt pc 96 then (bif Nat.beq pc 93 then some (.getfield 20, 0, 0) else none) else (bif Nat.blt pc 97 then (bif Nat.beq pc 96 then some (.iconst 5, 0, 5) else none) else (bif Nat.beq pc 97 then some (.aaload, 0, 0) else none)))) else (bif Nat.blt pc 103 then (bif Nat.blt pc 99 then (bif Nat.beq pc 98 then some (.aload_n 0, 0, 0) else none) else (bif Nat.blt pc 102 then (bif Nat.beq pc 99 then some (.getfield 27, 0, 0) else none) else (bif Nat.beq pc 102 then some (.aload_n 1, 0, 0) else none))) else (bif Nat.blt pc 106 then (bif Nat.beq pc 103 then some (.getfield 92, 0, 0) else none) else (bif Nat.blt pc 109 then (bif Nat.beq pc 106 then some (.invokestatic 95, 0, 0) else none) else (bif Nat.beq pc 109 then some (.iastore, 0, 0) else none)))))) else (bif Nat.blt pc 128 then (bif Nat.blt pc 118 then (bif Nat.blt pc 114 then (bif Nat.blt pc 111 then (bif Nat.beq pc 110 then some (.aload_n 0, 0, 0) else none) else (bif Nat.beq pc 111 then some (.getfield 20, 0, 0) else none)) else (bif Nat.blt pc 116 then (bif Nat.beq pc 114 then some (.bipush 6, 0, 6) else none) else (bif Nat.blt pc 117 then (bif Nat.beq pc 116 then some (.aaload, 0, 0) else none) else (bif Nat.beq pc 117 then some (.aload_n 0, 0, 0) else none)))) else (bif Nat.blt pc 123 then (bif Nat.blt pc 121 then (bif Nat.beq pc 118 then some (.getfield 27, 0, 0) else none) else (bif Nat.blt pc 122 then (bif Nat.beq pc 121 then some (.iload_n 3, 0, 0) else none) else (bif Nat.beq pc 122 then some (.iastore, 0, 0) else none))) else (bif Nat.blt pc 124 then (bif Nat.beq pc 123 then some (.aload_n 0, 0, 0) else none) else (bif Nat.blt pc 127 then (bif Nat.beq pc 124 then some (.getfield 12, 0, 0) else none) else (bif Nat.beq pc 127 then some (.aload_n 1, 0, 0) else none))))) else (bif Nat.blt pc 139 then (bif Nat.blt pc 134 then (bif Nat.blt pc 131 then (bif Nat.beq pc 128 then some (.getfield 99, 0, 0) else none) else (bif Nat.beq pc 131 then some (.invokevirtual 102, 0, 0) else none)) else (bif Nat.blt pc 135 then (bif Nat.beq pc 134 then some (.aload_n 0, 0, 0) else none) else (bif Nat.blt pc 138 then (bif Nat.beq pc 135 then some (.invokevirtual 106, 0, 0) else none) else (bif Nat.beq pc 138 then some (.aload_n 0, 0, 0) else none)))) else (bif Nat.blt pc 144 then (bif Nat.blt pc 140 then (bif Nat.beq pc 139 then some (.dup, 0, 0) else none) else (bif Nat.blt pc 143 then (bif Nat.beq pc 140 then some (.getfield 27, 0, 0) else none) else (bif Nat.beq pc 143 then some (.iconst 1, 0, 1) else none))) else (bif Nat.blt pc 145 then (bif Nat.beq pc 144 then some (.iadd, 0, 0) else none) else (bif Nat.blt pc 148 then (bif Nat.beq pc 145 then some (.putfield 27, 0, 0) else none) else (bif Nat.beq pc 148 then some (.return_, 0, 0) else none)))))))
def z_c17 (pc : Nat) : Option (Instr × Nat × Int32) := bif Nat.blt pc 30 then (bif Nat.blt pc 14 then (bif Nat.blt pc 8 then (bif Nat.blt pc 2 then (bif Nat.blt pc 1 then (bif Nat.beq pc 0 then some (.aload_n 0, 0, 0) else none) else (bif Nat.beq pc 1 then some (.aload_n 0, 0, 0) else none)) else (bif Nat.blt pc 5 then (bif Nat.beq pc 2 then some (.getfield 38, 0, 0) else none) else (bif Nat.beq pc 5 then some (.ifCond .eq 12, 17, 0) else none))) else (bif Nat.blt pc 12 then (bif Nat.blt pc 9 then (bif Nat.beq pc 8 then some (.aload_n 0, 0, 0) else none) else (bif Nat.beq pc 9 then some (.getfield 31, 0, 0) else none)) else (bif Nat.blt pc 13 then (bif Nat.beq pc 12 then some (.iconst 1, 0, 1) else none) else (bif Nat.beq pc 13 then some (.iadd, 0, 0) else none)))) else (bif Nat.blt pc 22 then (bif Nat.blt pc 18 then (bif Nat.blt pc 17 then (bif Nat.beq pc 14 then some (.goto 13, 27, 0) else none) else (bif Nat.beq pc 17 then some (.aload_n 0, 0, 0) else none)) else (bif Nat.blt pc 21 then (bif Nat.beq pc 18 then some (.getfield 31, 0, 0) else none) else (bif Nat.beq pc 21 then some (.iconst 1, 0, 1) else none))) else (bif Nat.blt pc 24 then (bif Nat.blt pc 23 then (bif Nat.beq pc 22 then some (.isub, 0, 0) else none) else (bif Nat.beq pc 23 then some (.iconst 0, 0, 0) else none)) else (bif Nat.blt pc 27 then (bif Nat.beq pc 24 then some (.invokestatic 109, 0, 0) else none) else (bif Nat.beq pc 27 then some (.putfield 31, 0, 0) else none))))) else (bif Nat.blt pc 46 then (bif Nat.blt pc 38 then (bif Nat.blt pc 32 then (bif Nat.blt pc 31 then (bif Nat.beq pc 30 then some (.aload_n 0, 0, 0) else none) else (bif Nat.beq pc 31 then some (.aload_n 0, 0, 0) else none)) else (bif Nat.blt pc 35 then (bif Nat.beq pc 32 then some (.getfield 34, 0, 0) else none) else (bif Nat.beq pc 35 then some (.ifCond .ne 16, 51, 0) else none))) else (bif Nat.blt pc 42 then (bif Nat.blt pc 39 then (bif Nat.beq pc 38 then some (.aload_n 0, 0, 0) else none) else (bif Nat.beq pc 39 then some (.getfield 31, 0, 0) else none)) else (bif Nat.blt pc 43 then (bif Nat.beq pc 42 then some (.aload_n 0, 0, 0) else none) else (bif Nat.beq pc 43 then some (.getfield 23, 0, 0) else none)))) else (bif Nat.blt pc 52 then (bif Nat.blt pc 48 then (bif Nat.blt pc 47 then (bif Nat.beq pc 46 then some (.iconst 1, 0, 1) else none) else (bif Nat.beq pc 47 then some (.iaload, 0, 0) else none)) else (bif Nat.blt pc 51 then (bif Nat.beq pc 48 then some (.if_icmp .le 7, 55, 0) else none) else (bif Nat.beq pc 51 then some (.iconst 1, 0, 1) else none))) else (bif Nat.blt pc 56 then (bif Nat.blt pc 55 then (bif Nat.beq pc 52 then some (.goto 4, 56, 0) else none) else (bif Nat.beq pc 55 then some (.iconst 0, 0, 0) else none)) else (bif Nat.blt pc 59 then (bif Nat.beq pc 56 then some (.putfield 34, 0, 0) else none) else (bif Nat.beq pc 59 then some (.return_, 0, 0) else none)))))
def z_c18 (pc : Nat) : Option (Instr × Nat × Int32) := bif Nat.blt pc 23 then (bif Nat.blt pc 9 then (bif Nat.blt pc 3 then (bif Nat.blt pc 1 then (bif Nat.beq pc 0 then some (.iconst 0, 0, 0) else none) else (bif Nat.blt pc 2 then (bif Nat.beq pc 1 then some (.istore_n 1, 0, 0) else none) else (bif Nat.beq pc 2 then some (.iconst 0, 0, 0) else none))) else (bif Nat.blt pc 5 then (bif Nat.blt pc 4 then (bif Nat.beq pc 3 then some (.istore_n 2, 0, 0) else none) else (bif Nat.beq pc 4 then some (.iload_n 2, 0, 0) else none)) else (bif Nat.blt pc 6 then (bif Nat.beq pc 5 then some (.aload_n 0, 0, 0) else none) else (bif Nat.beq pc 6 then some (.getfield 27, 0, 0) else none)))) else (bif Nat.blt pc 15 then (bif Nat.blt pc 12 then (bif Nat.beq pc 9 then some (.if_icmp .ge 37, 46, 0) else none) else (bif Nat.blt pc 13 then (bif Nat.beq pc 12 then some (.iload_n 2, 0, 0) else none) else (bif Nat.beq pc 13 then some (.bipush 48, 0, 48) else none))) else (bif Nat.blt pc 19 then (bif Nat.blt pc 18 then (bif Nat.beq pc 15 then some (.if_icmp .ge 31, 46, 0) else none) else (bif Nat.beq pc 18 then some (.iload_n 1, 0, 0) else none)) else (bif Nat.blt pc 20 then (bif Nat.beq pc 19 then some (.aload_n 0, 0, 0) else none) else (bif Nat.beq pc 20 then some (.getfield 20, 0, 0) else none))))) else (bif Nat.blt pc 34 then (bif Nat.blt pc 26 then (bif Nat.blt pc 24 then (bif Nat.beq pc 23 then some (.iconst 2, 0, 2) else none) else (bif Nat.blt pc 25 then (bif Nat.beq pc 24 then some (.aaload, 0, 0) else none) else (bif Nat.beq pc 25 then some (.iload_n 2, 0, 0) else none))) else (bif Nat.blt pc 30 then (bif Nat.blt pc 27 then (bif Nat.beq pc 26 then some (.iaload, 0, 0) else none) else (bif Nat.beq pc 27 then some (.ifCond .le 7, 34, 0) else none)) else (bif Nat.blt pc 31 then (bif Nat.beq pc 30 then some (.iconst 1, 0, 1) else none) else (bif Nat.beq pc 31 then some (.goto 4, 35, 0) else none)))) else (bif Nat.blt pc 40 then (bif Nat.blt pc 38 then (bif Nat.blt pc 35 then (bif Nat.beq pc 34 then some (.iconst 0, 0, 0) else none) else (bif Nat.beq pc 35 then some (.invokestatic 95, 0, 0) else none)) else (bif Nat.blt pc 39 then (bif Nat.beq pc 38 then some (.iadd, 0, 0) else none) else (bif Nat.beq pc 39 then some (.istore_n 1, 0, 0) else none))) else (bif Nat.blt pc 46 then (bif Nat.blt pc 43 then (bif Nat.beq pc 40 then some (.iinc 2 1, 0, 1) else none) else (bif Nat.beq pc 43 then some (.goto (-39), 4, 0) else none)) else (bif Nat.blt pc 47 then (bif Nat.beq pc 46 then some (.iload_n 1, 0, 0) else none) else (bif Nat.beq pc 47 then some (.ireturn, 0, 0) else none)))))
def z_c19 (pc : Nat) : Option (Instr × Nat × Int32) := bif Nat.blt pc 19 then (bif Nat.blt pc 6 then (bif Nat.blt pc 3 then (bif Nat.blt pc 1 then (bif Nat.beq pc 0 then some (.iconst 0, 0, 0) else none) else (bif Nat.blt pc 2 then (bif Nat.beq pc 1 then some (.istore_n 1, 0, 0) else none) else (bif Nat.beq pc 2 then some (.iconst 0, 0, 0) else none))) else (bif Nat.blt pc 4 then (bif Nat.beq pc 3 then some (.istore_n 2, 0, 0) else none) else (bif Nat.blt pc 5 then (bif Nat.beq pc 4 then some (.iload_n 2, 0, 0) else none) else (bif Nat.beq pc 5 then some (.aload_n 0, 0, 0) else none)))) else (bif Nat.blt pc 13 then (bif Nat.blt pc 9 then (bif Nat.beq pc 6 then some (.getfield 27, 0, 0) else none) else (bif Nat.blt pc 12 then (bif Nat.beq pc 9 then some (.if_icmp .ge 26, 35, 0) else none) else (bif Nat.beq pc 12 then some (.iload_n 2, 0, 0) else none))) else (bif Nat.blt pc 15 then (bif Nat.beq pc 13 then some (.bipush 48, 0, 48) else none) else (bif Nat.blt pc 18 then (bif Nat.beq pc 15 then some (.if_icmp .ge 20, 35, 0) else none) else (bif Nat.beq pc 18 then some (.iload_n 1, 0, 0) else none))))) else (bif Nat.blt pc 27 then (bif Nat.blt pc 24 then (bif Nat.blt pc 20 then (bif Nat.beq pc 19 then some (.aload_n 0, 0, 0) else none) else (bif Nat.blt pc 23 then (bif Nat.beq pc 20 then some (.getfield 20, 0, 0) else none) else (bif Nat.beq pc 23 then some (.iconst 5, 0, 5) else none))) else (bif Nat.blt pc 25 then (bif Nat.beq pc 24 then some (.aaload, 0, 0) else none) else (bif Nat.blt pc 26 then (bif Nat.beq pc 25 then some (.iload_n 2, 0, 0) else none) else (bif Nat.beq pc 26 then some (.iaload, 0, 0) else none)))) else (bif Nat.blt pc 32 then (bif Nat.blt pc 28 then (bif Nat.beq pc 27 then some (.iadd, 0, 0) else none) else (bif Nat.blt pc 29 then (bif Nat.beq pc 28 then some (.istore_n 1, 0, 0) else none) else (bif Nat.beq pc 29 then some (.iinc 2 1, 0, 1) else none))) else (bif Nat.blt pc 35 then (bif Nat.beq pc 32 then some (.goto (-28), 4, 0) else none) else (bif Nat.blt pc 36 then (bif Nat.beq pc 35 then some (.iload_n 1, 0, 0) else none) else (bif Nat.beq pc 36 then some (.ireturn, 0, 0) else none)))))
def z_c20 (pc : Nat) : Option (Instr × Nat × Int32) := bif Nat.blt pc 82 then (bif Nat.blt pc 37 then (bif Nat.blt pc 19 then (bif Nat.blt pc 9 then (bif Nat.blt pc 4 then (bif Nat.blt pc 1 then (bif Nat.beq pc 0 then some (.iconst 0, 0, 0) else none) else (bif Nat.blt pc 3 then (bif Nat.beq pc 1 then some (.istore 4, 0, 0) else none) else (bif Nat.beq pc 3 then some (.iconst 0, 0, 0) else none))) else (bif Nat.blt pc 6 then (bif Nat.beq pc 4 then some (.istore 5, 0, 0) else none) else (bif Nat.blt pc 7 then (bif Nat.beq pc 6 then some (.iconst 0, 0, 0) else none) else (bif Nat.beq pc 7 then some (.istore 6, 0, 0) else none)))) else (bif Nat.blt pc 14 then (bif Nat.blt pc 10 then (bif Nat.beq pc 9 then some (.iconst 0, 0, 0) else none) else (bif Nat.blt pc 12 then (bif Nat.beq pc 10 then some (.istore 7, 0, 0) else none) else (bif Nat.beq pc 12 then some (.iload 7, 0, 0) else none))) else (bif Nat.blt pc 15 then (bif Nat.beq pc 14 then some (.iconst 4, 0, 4) else none) else (bif Nat.blt pc 18 then (bif Nat.beq pc 15 then some (.if_icmp .ge 79, 94, 0) else none) else (bif Nat.beq pc 18 then some (.aload_n 0, 0, 0) else none))))) else (bif Nat.blt pc 29 then (bif Nat.blt pc 25 then (bif Nat.blt pc 22 then (bif Nat.beq pc 19 then some (.getfield 9, 0, 0) else none) else (bif Nat.blt pc 24 then (bif Nat.beq pc 22 then some (.iload 7, 0, 0) else none) else (bif Nat.beq pc 24 then some (.iconst 0, 0, 0) else none))) else (bif Nat.blt pc 26 then (bif Nat.beq pc 25 then some (.iastore, 0, 0) else none) else (bif Nat.blt pc 27 then (bif Nat.beq pc 26 then some (.iload_n 2, 0, 0) else none) else (bif Nat.beq pc 27 then some (.iload 7, 0, 0) else none)))) else (bif Nat.blt pc 32 then (bif Nat.blt pc 30 then (bif Nat.beq pc 29 then some (.ishr, 0, 0) else none) else (bif Nat.blt pc 31 then (bif Nat.beq pc 30 then some (.iconst 1, 0, 1) else none) else (bif Nat.beq pc 31 then some (.iand, 0, 0) else none))) else (bif Nat.blt pc 33 then (bif Nat.beq pc 32 then some (.iconst 1, 0, 1) else none) else (bif Nat.blt pc 36 then (bif Nat.beq pc 33 then some (.if_icmp .ne 55, 88, 0) else none) else (bif Nat.beq pc 36 then some (.aload_n 0, 0, 0) else none)))))) else (bif Nat.blt pc 59 then (bif Nat.blt pc 49 then (bif Nat.blt pc 43 then (bif Nat.blt pc 40 then (bif Nat.beq pc 37 then some (.getfield 9, 0, 0) else none) else (bif Nat.blt pc 42 then (bif Nat.beq pc 40 then some (.iload 7, 0, 0) else none) else (bif Nat.beq pc 42 then some (.aload_n 1, 0, 0) else none))) else (bif Nat.blt pc 46 then (bif Nat.beq pc 43 then some (.getfield 29, 0, 0) else none) else (bif Nat.blt pc 48 then (bif Nat.beq pc 46 then some (.iload 7, 0, 0) else none) else (bif Nat.beq pc 48 then some (.iaload, 0, 0) else none)))) else (bif Nat.blt pc 53 then (bif Nat.blt pc 50 then (bif Nat.beq pc 49 then some (.iastore, 0, 0) else none) else (bif Nat.blt pc 52 then (bif Nat.beq pc 50 then some (.iload 4, 0, 0) else none) else (bif Nat.beq pc 52 then some (.aload_n 1, 0, 0) else none))) else (bif Nat.blt pc 56 then (bif Nat.beq pc 53 then some (.getfield 29, 0, 0) else none) else (bif Nat.blt pc 58 then (bif Nat.beq pc 56 then some (.iload 7, 0, 0) else none) else (bif Nat.beq pc 58 then some (.iaload, 0, 0) else none))))) else (bif Nat.blt pc 70 then (bif Nat.blt pc 64 then (bif Nat.blt pc 60 then (bif Nat.beq pc 59 then some (.iadd, 0, 0) else none) else (bif Nat.blt pc 62 then (bif Nat.beq pc 60 then some (.istore 4, 0, 0) else none) else (bif Nat.beq pc 62 then some (.iload 5, 0, 0) else none))) else (bif Nat.blt pc 65 then (bif Nat.beq pc 64 then some (.aload_n 1, 0, 0) else none) else (bif Nat.blt pc 68 then (bif Nat.beq pc 65 then some (.getfield 34, 0, 0) else none) else (bif Nat.beq pc 68 then some (.iload 7, 0, 0) else none)))) else (bif Nat.blt pc 74 then (bif Nat.blt pc 71 then (bif Nat.beq pc 70 then some (.iaload, 0, 0) else none) else (bif Nat.blt pc 72 then (bif Nat.beq pc 71 then some (.iadd, 0, 0) else none) else (bif Nat.beq pc 72 then some (.istore 5, 0, 0) else none))) else (bif Nat.blt pc 77 then (bif Nat.blt pc 76 then (bif Nat.beq pc 74 then some (.iload 6, 0, 0) else none) else (bif Nat.beq pc 76 then some (.aload_n 1, 0, 0) else none)) else (bif Nat.blt pc 80 then (bif Nat.beq pc 77 then some (.getfield 34, 0, 0) else none) else (bif Nat.beq pc 80 then some (.iload 7, 0, 0) else none))))))) else (bif Nat.blt pc 125 then (bif Nat.blt pc 105 then (bif Nat.blt pc 95 then (bif Nat.blt pc 88 then (bif Nat.blt pc 83 then (bif Nat.beq pc 82 then some (.iaload, 0, 0) else none) else (bif Nat.blt pc 86 then (bif Nat.beq pc 83 then some (.invokestatic 37, 0, 0) else none) else (bif Nat.beq pc 86 then some (.istore 6, 0, 0) else none))) else (bif Nat.blt pc 91 then (bif Nat.beq pc 88 then some (.iinc 7 1, 0, 1) else none) else (bif Nat.blt pc 94 then (bif Nat.beq pc 91 then some (.goto (-79), 12, 0) else none) else (bif Nat.beq pc 94 then some (.iload_n 3, 0, 0) else none)))) else (bif Nat.blt pc 99 then (bif Nat.blt pc 97 then (bif Nat.beq pc 95 then some (.iload 4, 0, 0) else none) else (bif Nat.blt pc 98 then (bif Nat.beq pc 97 then some (.isub, 0, 0) else none) else (bif Nat.beq pc 98 then some (.iconst 0, 0, 0) else none))) else (bif Nat.blt pc 102 then (bif Nat.beq pc 99 then some (.invokestatic 37, 0, 0) else none) else (bif Nat.blt pc 104 then (bif Nat.beq pc 102 then some (.istore 7, 0, 0) else none) else (bif Nat.beq pc 104 then some (.aload_n 0, 0, 0) else none))))) else (bif Nat.blt pc 116 then (bif Nat.blt pc 109 then (bif Nat.blt pc 107 then (bif Nat.beq pc 105 then some (.iload 4, 0, 0) else none) else (bif Nat.blt pc 108 then (bif Nat.beq pc 107 then some (.iload_n 3, 0, 0) else none) else (bif Nat.beq pc 108 then some (.isub, 0, 0) else none))) else (bif Nat.blt pc 110 then (bif Nat.beq pc 109 then some (.iconst 0, 0, 0) else none) else (bif Nat.blt pc 113 then (bif Nat.beq pc 110 then some (.invokestatic 37, 0, 0) else none) else (bif Nat.beq pc 113 then some (.putfield 19, 0, 0) else none)))) else (bif Nat.blt pc 119 then (bif Nat.blt pc 117 then (bif Nat.beq pc 116 then some (.aload_n 0, 0, 0) else none) else (bif Nat.blt pc 118 then (bif Nat.beq pc 117 then some (.aload_n 0, 0, 0) else none) else (bif Nat.beq pc 118 then some (.aload_n 1, 0, 0) else none))) else (bif Nat.blt pc 120 then (bif Nat.beq pc 119 then some (.iload_n 2, 0, 0) else none) else (bif Nat.blt pc 122 then (bif Nat.beq pc 120 then some (.iload 7, 0, 0) else none) else (bif Nat.beq pc 122 then some (.invokevirtual 43, 0, 0) else none)))))) else (bif Nat.blt pc 146 then (bif Nat.blt pc 136 then (bif Nat.blt pc 131 then (bif Nat.blt pc 128 then (bif Nat.beq pc 125 then some (.putfield 15, 0, 0) else none) else (bif Nat.blt pc 129 then (bif Nat.beq pc 128 then some (.aload_n 0, 0, 0) else none) else (bif Nat.beq pc 129 then some (.iload 5, 0, 0) else none))) else (bif Nat.blt pc 133 then (bif Nat.beq pc 131 then some (.iload 4, 0, 0) else none) else (bif Nat.blt pc 134 then (bif Nat.beq pc 133 then some (.isub, 0, 0) else none) else (bif Nat.beq pc 134 then some (.iload 7, 0, 0) else none)))) else (bif Nat.blt pc 141 then (bif Nat.blt pc 137 then (bif Nat.beq pc 136 then some (.aload_n 0, 0, 0) else none) else (bif Nat.blt pc 140 then (bif Nat.beq pc 137 then some (.getfield 15, 0, 0) else none) else (bif Nat.beq pc 140 then some (.isub, 0, 0) else none))) else (bif Nat.blt pc 142 then (bif Nat.beq pc 141 then some (.isub, 0, 0) else none) else (bif Nat.blt pc 145 then (bif Nat.beq pc 142 then some (.putfield 22, 0, 0) else none) else (bif Nat.beq pc 145 then some (.aload_n 0, 0, 0) else none))))) else (bif Nat.blt pc 158 then (bif Nat.blt pc 153 then (bif Nat.blt pc 147 then (bif Nat.beq pc 146 then some (.aload_n 0, 0, 0) else none) else (bif Nat.blt pc 150 then (bif Nat.beq pc 147 then some (.getfield 15, 0, 0) else none) else (bif Nat.beq pc 150 then some (.ifCond .ne 16, 166, 0) else none))) else (bif Nat.blt pc 155 then (bif Nat.beq pc 153 then some (.iload 5, 0, 0) else none) else (bif Nat.blt pc 157 then (bif Nat.beq pc 155 then some (.iload 6, 0, 0) else none) else (bif Nat.beq pc 157 then some (.isub, 0, 0) else none)))) else (bif Nat.blt pc 163 then (bif Nat.blt pc 159 then (bif Nat.beq pc 158 then some (.iload_n 3, 0, 0) else none) else (bif Nat.blt pc 162 then (bif Nat.beq pc 159 then some (.if_icmp .lt 7, 166, 0) else none) else (bif Nat.beq pc 162 then some (.iconst 1, 0, 1) else none))) else (bif Nat.blt pc 167 then (bif Nat.blt pc 166 then (bif Nat.beq pc 163 then some (.goto 4, 167, 0) else none) else (bif Nat.beq pc 166 then some (.iconst 0, 0, 0) else none)) else (bif Nat.blt pc 170 then (bif Nat.beq pc 167 then some (.putfield 25, 0, 0) else none) else (bif Nat.beq pc 170 then some (.return_, 0, 0) else none)))))))
def z_c21 (pc : Nat) : Option (Instr × Nat × Int32) := bif Nat.blt pc 52 then (bif Nat.blt pc 23 then (bif Nat.blt pc 9 then (bif Nat.blt pc 4 then (bif Nat.blt pc 1 then (bif Nat.beq pc 0 then some (.iload_n 3, 0, 0) else none) else (bif Nat.blt pc 3 then (bif Nat.beq pc 1 then some (.istore 4, 0, 0) else none) else (bif Nat.beq pc 3 then some (.iload_n 2, 0, 0) else none))) else (bif Nat.blt pc 6 then (bif Nat.beq pc 4 then some (.istore 5, 0, 0) else none) else (bif Nat.blt pc 7 then (bif Nat.beq pc 6 then some (.iconst 0, 0, 0) else none) else (bif Nat.beq pc 7 then some (.istore 6, 0, 0) else none)))) else (bif Nat.blt pc 15 then (bif Nat.blt pc 11 then (bif Nat.beq pc 9 then some (.iload 6, 0, 0) else none) else (bif Nat.blt pc 12 then (bif Nat.beq pc 11 then some (.iconst 4, 0, 4) else none) else (bif Nat.beq pc 12 then some (.if_icmp .ge 83, 95, 0) else none))) else (bif Nat.blt pc 20 then (bif Nat.blt pc 17 then (bif Nat.beq pc 15 then some (.iload 4, 0, 0) else none) else (bif Nat.beq pc 17 then some (.ifCond .le 78, 95, 0) else none)) else (bif Nat.blt pc 21 then (bif Nat.beq pc 20 then some (.aload_n 1, 0, 0) else none) else (bif Nat.beq pc 21 then some (.iload 5, 0, 0) else none))))) else (bif Nat.blt pc 39 then (bif Nat.blt pc 30 then (bif Nat.blt pc 26 then (bif Nat.beq pc 23 then some (.invokevirtual 47, 0, 0) else none) else (bif Nat.blt pc 28 then (bif Nat.beq pc 26 then some (.istore 7, 0, 0) else none) else (bif Nat.beq pc 28 then some (.iload 7, 0, 0) else none))) else (bif Nat.blt pc 34 then (bif Nat.blt pc 31 then (bif Nat.beq pc 30 then some (.iconst (-1), 0, (-1)) else none) else (bif Nat.beq pc 31 then some (.if_icmp .ne 6, 37, 0) else none)) else (bif Nat.blt pc 37 then (bif Nat.beq pc 34 then some (.goto 61, 95, 0) else none) else (bif Nat.beq pc 37 then some (.iload 4, 0, 0) else none)))) else (bif Nat.blt pc 45 then (bif Nat.blt pc 40 then (bif Nat.beq pc 39 then some (.aload_n 1, 0, 0) else none) else (bif Nat.blt pc 43 then (bif Nat.beq pc 40 then some (.getfield 34, 0, 0) else none) else (bif Nat.beq pc 43 then some (.iload 7, 0, 0) else none))) else (bif Nat.blt pc 47 then (bif Nat.blt pc 46 then (bif Nat.beq pc 45 then some (.iaload, 0, 0) else none) else (bif Nat.beq pc 46 then some (.aload_n 1, 0, 0) else none)) else (bif Nat.blt pc 50 then (bif Nat.beq pc 47 then some (.getfield 29, 0, 0) else none) else (bif Nat.beq pc 50 then some (.iload 7, 0, 0) else none)))))) else (bif Nat.blt pc 75 then (bif Nat.blt pc 65 then (bif Nat.blt pc 57 then (bif Nat.blt pc 53 then (bif Nat.beq pc 52 then some (.iaload, 0, 0) else none) else (bif Nat.blt pc 54 then (bif Nat.beq pc 53 then some (.isub, 0, 0) else none) else (bif Nat.beq pc 54 then some (.invokestatic 51, 0, 0) else none))) else (bif Nat.blt pc 60 then (bif Nat.blt pc 59 then (bif Nat.beq pc 57 then some (.istore 8, 0, 0) else none) else (bif Nat.beq pc 59 then some (.aload_n 0, 0, 0) else none)) else (bif Nat.blt pc 63 then (bif Nat.beq pc 60 then some (.getfield 9, 0, 0) else none) else (bif Nat.beq pc 63 then some (.iload 7, 0, 0) else none)))) else (bif Nat.blt pc 69 then (bif Nat.blt pc 66 then (bif Nat.beq pc 65 then some (.dup2, 0, 0) else none) else (bif Nat.blt pc 67 then (bif Nat.beq pc 66 then some (.iaload, 0, 0) else none) else (bif Nat.beq pc 67 then some (.iload 8, 0, 0) else none))) else (bif Nat.blt pc 71 then (bif Nat.blt pc 70 then (bif Nat.beq pc 69 then some (.iadd, 0, 0) else none) else (bif Nat.beq pc 70 then some (.iastore, 0, 0) else none)) else (bif Nat.blt pc 73 then (bif Nat.beq pc 71 then some (.iload 4, 0, 0) else none) else (bif Nat.beq pc 73 then some (.iload 8, 0, 0) else none))))) else (bif Nat.blt pc 85 then (bif Nat.blt pc 80 then (bif Nat.blt pc 76 then (bif Nat.beq pc 75 then some (.isub, 0, 0) else none) else (bif Nat.blt pc 78 then (bif Nat.beq pc 76 then some (.istore 4, 0, 0) else none) else (bif Nat.beq pc 78 then some (.iload 5, 0, 0) else none))) else (bif Nat.blt pc 83 then (bif Nat.blt pc 81 then (bif Nat.beq pc 80 then some (.iconst 1, 0, 1) else none) else (bif Nat.beq pc 81 then some (.iload 7, 0, 0) else none)) else (bif Nat.blt pc 84 then (bif Nat.beq pc 83 then some (.ishl, 0, 0) else none) else (bif Nat.beq pc 84 then some (.iconst (-1), 0, (-1)) else none)))) else (bif Nat.blt pc 89 then (bif Nat.blt pc 86 then (bif Nat.beq pc 85 then some (.ixor, 0, 0) else none) else (bif Nat.blt pc 87 then (bif Nat.beq pc 86 then some (.iand, 0, 0) else none) else (bif Nat.beq pc 87 then some (.istore 5, 0, 0) else none))) else (bif Nat.blt pc 95 then (bif Nat.blt pc 92 then (bif Nat.beq pc 89 then some (.iinc 6 1, 0, 1) else none) else (bif Nat.beq pc 92 then some (.goto (-83), 9, 0) else none)) else (bif Nat.blt pc 97 then (bif Nat.beq pc 95 then some (.iload 4, 0, 0) else none) else (bif Nat.beq pc 97 then some (.ireturn, 0, 0) else none))))))
def z_c22 (pc : Nat) : Option (Instr × Nat × Int32) := bif Nat.blt pc 84 then (bif Nat.blt pc 41 then (bif Nat.blt pc 21 then (bif Nat.blt pc 12 then (bif Nat.blt pc 4 then (bif Nat.blt pc 1 then (bif Nat.beq pc 0 then some (.iload_n 1, 0, 0) else none) else (bif Nat.beq pc 1 then some (.invokestatic 51, 0, 0) else none)) else (bif Nat.blt pc 7 then (bif Nat.beq pc 4 then some (.ifCond .eq 28, 32, 0) else none) else (bif Nat.blt pc 9 then (bif Nat.beq pc 7 then some (.bipush 50, 0, 50) else none) else (bif Nat.beq pc 9 then some (.sipush 500, 0, 500) else none)))) else (bif Nat.blt pc 16 then (bif Nat.blt pc 13 then (bif Nat.beq pc 12 then some (.iload_n 2, 0, 0) else none) else (bif Nat.beq pc 13 then some (.invokestatic 55, 0, 0) else none)) else (bif Nat.blt pc 19 then (bif Nat.beq pc 16 then some (.ifCond .eq 16, 32, 0) else none) else (bif Nat.blt pc 20 then (bif Nat.beq pc 19 then some (.iconst 0, 0, 0) else none) else (bif Nat.beq pc 20 then some (.iload_n 2, 0, 0) else none))))) else (bif Nat.blt pc 32 then (bif Nat.blt pc 25 then (bif Nat.blt pc 22 then (bif Nat.beq pc 21 then some (.iload_n 3, 0, 0) else none) else (bif Nat.beq pc 22 then some (.invokestatic 55, 0, 0) else none)) else (bif Nat.blt pc 28 then (bif Nat.beq pc 25 then some (.ifCond .eq 7, 32, 0) else none) else (bif Nat.blt pc 29 then (bif Nat.beq pc 28 then some (.iconst 1, 0, 1) else none) else (bif Nat.beq pc 29 then some (.goto 4, 33, 0) else none)))) else (bif Nat.blt pc 36 then (bif Nat.blt pc 33 then (bif Nat.beq pc 32 then some (.iconst 0, 0, 0) else none) else (bif Nat.beq pc 33 then some (.invokestatic 59, 0, 0) else none)) else (bif Nat.blt pc 37 then (bif Nat.beq pc 36 then some (.iconst 1, 0, 1) else none) else (bif Nat.blt pc 39 then (bif Nat.beq pc 37 then some (.bipush 99, 0, 99) else none) else (bif Nat.beq pc 39 then some (.iload 4, 0, 0) else none)))))) else (bif Nat.blt pc 62 then (bif Nat.blt pc 51 then (bif Nat.blt pc 47 then (bif Nat.blt pc 44 then (bif Nat.beq pc 41 then some (.invokestatic 55, 0, 0) else none) else (bif Nat.beq pc 44 then some (.ifCond .eq 17, 61, 0) else none)) else (bif Nat.blt pc 48 then (bif Nat.beq pc 47 then some (.iconst 0, 0, 0) else none) else (bif Nat.blt pc 49 then (bif Nat.beq pc 48 then some (.iconst 4, 0, 4) else none) else (bif Nat.beq pc 49 then some (.iload 5, 0, 0) else none)))) else (bif Nat.blt pc 57 then (bif Nat.blt pc 54 then (bif Nat.beq pc 51 then some (.invokestatic 55, 0, 0) else none) else (bif Nat.beq pc 54 then some (.ifCond .eq 7, 61, 0) else none)) else (bif Nat.blt pc 58 then (bif Nat.beq pc 57 then some (.iconst 1, 0, 1) else none) else (bif Nat.blt pc 61 then (bif Nat.beq pc 58 then some (.goto 4, 62, 0) else none) else (bif Nat.beq pc 61 then some (.iconst 0, 0, 0) else none))))) else (bif Nat.blt pc 75 then (bif Nat.blt pc 66 then (bif Nat.blt pc 65 then (bif Nat.beq pc 62 then some (.invokestatic 59, 0, 0) else none) else (bif Nat.beq pc 65 then some (.aload_n 0, 0, 0) else none)) else (bif Nat.blt pc 69 then (bif Nat.beq pc 66 then some (.getfield 12, 0, 0) else none) else (bif Nat.blt pc 72 then (bif Nat.beq pc 69 then some (.getfield 63, 0, 0) else none) else (bif Nat.beq pc 72 then some (.getfield 67, 0, 0) else none)))) else (bif Nat.blt pc 77 then (bif Nat.blt pc 76 then (bif Nat.beq pc 75 then some (.iload_n 1, 0, 0) else none) else (bif Nat.beq pc 76 then some (.iaload, 0, 0) else none)) else (bif Nat.blt pc 80 then (bif Nat.beq pc 77 then some (.ifCond .ne 7, 84, 0) else none) else (bif Nat.blt pc 81 then (bif Nat.beq pc 80 then some (.iconst 1, 0, 1) else none) else (bif Nat.beq pc 81 then some (.goto 4, 85, 0) else none))))))) else (bif Nat.blt pc 123 then (bif Nat.blt pc 104 then (bif Nat.blt pc 93 then (bif Nat.blt pc 88 then (bif Nat.blt pc 85 then (bif Nat.beq pc 84 then some (.iconst 0, 0, 0) else none) else (bif Nat.beq pc 85 then some (.invokestatic 72, 0, 0) else none)) else (bif Nat.blt pc 89 then (bif Nat.beq pc 88 then some (.aload_n 0, 0, 0) else none) else (bif Nat.blt pc 92 then (bif Nat.beq pc 89 then some (.invokevirtual 75, 0, 0) else none) else (bif Nat.beq pc 92 then some (.aload_n 0, 0, 0) else none)))) else (bif Nat.blt pc 99 then (bif Nat.blt pc 96 then (bif Nat.beq pc 93 then some (.getfield 12, 0, 0) else none) else (bif Nat.beq pc 96 then some (.getfield 63, 0, 0) else none)) else (bif Nat.blt pc 102 then (bif Nat.beq pc 99 then some (.getfield 78, 0, 0) else none) else (bif Nat.blt pc 103 then (bif Nat.beq pc 102 then some (.iload_n 1, 0, 0) else none) else (bif Nat.beq pc 103 then some (.iaload, 0, 0) else none))))) else (bif Nat.blt pc 116 then (bif Nat.blt pc 107 then (bif Nat.blt pc 106 then (bif Nat.beq pc 104 then some (.istore 6, 0, 0) else none) else (bif Nat.beq pc 106 then some (.aload_n 0, 0, 0) else none)) else (bif Nat.blt pc 110 then (bif Nat.beq pc 107 then some (.getfield 12, 0, 0) else none) else (bif Nat.blt pc 113 then (bif Nat.beq pc 110 then some (.getfield 63, 0, 0) else none) else (bif Nat.beq pc 113 then some (.getfield 78, 0, 0) else none)))) else (bif Nat.blt pc 118 then (bif Nat.blt pc 117 then (bif Nat.beq pc 116 then some (.iload_n 1, 0, 0) else none) else (bif Nat.beq pc 117 then some (.iload_n 2, 0, 0) else none)) else (bif Nat.blt pc 119 then (bif Nat.beq pc 118 then some (.iastore, 0, 0) else none) else (bif Nat.blt pc 120 then (bif Nat.beq pc 119 then some (.aload_n 0, 0, 0) else none) else (bif Nat.beq pc 120 then some (.getfield 12, 0, 0) else none)))))) else (bif Nat.blt pc 143 then (bif Nat.blt pc 132 then (bif Nat.blt pc 129 then (bif Nat.blt pc 126 then (bif Nat.beq pc 123 then some (.getfield 63, 0, 0) else none) else (bif Nat.beq pc 126 then some (.getfield 81, 0, 0) else none)) else (bif Nat.blt pc 130 then (bif Nat.beq pc 129 then some (.iload_n 1, 0, 0) else none) else (bif Nat.blt pc 131 then (bif Nat.beq pc 130 then some (.iload_n 3, 0, 0) else none) else (bif Nat.beq pc 131 then some (.iastore, 0, 0) else none)))) else (bif Nat.blt pc 136 then (bif Nat.blt pc 133 then (bif Nat.beq pc 132 then some (.aload_n 0, 0, 0) else none) else (bif Nat.beq pc 133 then some (.getfield 12, 0, 0) else none)) else (bif Nat.blt pc 139 then (bif Nat.beq pc 136 then some (.getfield 63, 0, 0) else none) else (bif Nat.blt pc 142 then (bif Nat.beq pc 139 then some (.getfield 84, 0, 0) else none) else (bif Nat.beq pc 142 then some (.iload_n 1, 0, 0) else none))))) else (bif Nat.blt pc 153 then (bif Nat.blt pc 146 then (bif Nat.blt pc 145 then (bif Nat.beq pc 143 then some (.iload 4, 0, 0) else none) else (bif Nat.beq pc 145 then some (.iastore, 0, 0) else none)) else (bif Nat.blt pc 147 then (bif Nat.beq pc 146 then some (.aload_n 0, 0, 0) else none) else (bif Nat.blt pc 150 then (bif Nat.beq pc 147 then some (.getfield 12, 0, 0) else none) else (bif Nat.beq pc 150 then some (.getfield 63, 0, 0) else none)))) else (bif Nat.blt pc 159 then (bif Nat.blt pc 156 then (bif Nat.beq pc 153 then some (.getfield 87, 0, 0) else none) else (bif Nat.blt pc 157 then (bif Nat.beq pc 156 then some (.iload_n 1, 0, 0) else none) else (bif Nat.beq pc 157 then some (.iload 5, 0, 0) else none))) else (bif Nat.blt pc 160 then (bif Nat.beq pc 159 then some (.iastore, 0, 0) else none) else (bif Nat.blt pc 162 then (bif Nat.beq pc 160 then some (.iload 6, 0, 0) else none) else (bif Nat.beq pc 162 then some (.ireturn, 0, 0) else none)))))))
def z_c23 (pc : Nat) : Option (Instr × Nat × Int32) := bif Nat.blt pc 30 then (bif Nat.blt pc 17 then (bif Nat.blt pc 7 then (bif Nat.blt pc 1 then (bif Nat.beq pc 0 then some (.iload_n 1, 0, 0) else none) else (bif Nat.blt pc 4 then (bif Nat.beq pc 1 then some (.invokestatic 51, 0, 0) else none) else (bif Nat.beq pc 4 then some (.invokestatic 59, 0, 0) else none))) else (bif Nat.blt pc 11 then (bif Nat.blt pc 8 then (bif Nat.beq pc 7 then some (.aload_n 0, 0, 0) else none) else (bif Nat.beq pc 8 then some (.getfield 12, 0, 0) else none)) else (bif Nat.blt pc 14 then (bif Nat.beq pc 11 then some (.getfield 63, 0, 0) else none) else (bif Nat.beq pc 14 then some (.getfield 67, 0, 0) else none)))) else (bif Nat.blt pc 22 then (bif Nat.blt pc 18 then (bif Nat.beq pc 17 then some (.iload_n 1, 0, 0) else none) else (bif Nat.blt pc 19 then (bif Nat.beq pc 18 then some (.iaload, 0, 0) else none) else (bif Nat.beq pc 19 then some (.ifCond .ne 7, 26, 0) else none))) else (bif Nat.blt pc 26 then (bif Nat.blt pc 23 then (bif Nat.beq pc 22 then some (.iconst 1, 0, 1) else none) else (bif Nat.beq pc 23 then some (.goto 4, 27, 0) else none)) else (bif Nat.blt pc 27 then (bif Nat.beq pc 26 then some (.iconst 0, 0, 0) else none) else (bif Nat.beq pc 27 then some (.invokestatic 72, 0, 0) else none))))) else (bif Nat.blt pc 45 then (bif Nat.blt pc 35 then (bif Nat.blt pc 31 then (bif Nat.beq pc 30 then some (.aload_n 0, 0, 0) else none) else (bif Nat.blt pc 34 then (bif Nat.beq pc 31 then some (.invokevirtual 75, 0, 0) else none) else (bif Nat.beq pc 34 then some (.aload_n 0, 0, 0) else none))) else (bif Nat.blt pc 41 then (bif Nat.blt pc 38 then (bif Nat.beq pc 35 then some (.getfield 12, 0, 0) else none) else (bif Nat.beq pc 38 then some (.getfield 63, 0, 0) else none)) else (bif Nat.blt pc 42 then (bif Nat.beq pc 41 then some (.iload_n 1, 0, 0) else none) else (bif Nat.beq pc 42 then some (.invokevirtual 90, 0, 0) else none)))) else (bif Nat.blt pc 52 then (bif Nat.blt pc 46 then (bif Nat.beq pc 45 then some (.aload_n 0, 0, 0) else none) else (bif Nat.blt pc 49 then (bif Nat.beq pc 46 then some (.getfield 12, 0, 0) else none) else (bif Nat.beq pc 49 then some (.getfield 63, 0, 0) else none))) else (bif Nat.blt pc 56 then (bif Nat.blt pc 55 then (bif Nat.beq pc 52 then some (.getfield 94, 0, 0) else none) else (bif Nat.beq pc 55 then some (.iload_n 1, 0, 0) else none)) else (bif Nat.blt pc 57 then (bif Nat.beq pc 56 then some (.iaload, 0, 0) else none) else (bif Nat.beq pc 57 then some (.ireturn, 0, 0) else none)))))
def z_c24 (pc : Nat) : Option (Instr × Nat × Int32) := bif Nat.blt pc 25 then (bif Nat.blt pc 11 then (bif Nat.blt pc 4 then (bif Nat.blt pc 1 then (bif Nat.beq pc 0 then some (.iload_n 1, 0, 0) else none) else (bif Nat.beq pc 1 then some (.invokestatic 51, 0, 0) else none)) else (bif Nat.blt pc 7 then (bif Nat.beq pc 4 then some (.invokestatic 59, 0, 0) else none) else (bif Nat.blt pc 8 then (bif Nat.beq pc 7 then some (.aload_n 0, 0, 0) else none) else (bif Nat.beq pc 8 then some (.getfield 12, 0, 0) else none)))) else (bif Nat.blt pc 18 then (bif Nat.blt pc 14 then (bif Nat.beq pc 11 then some (.getfield 63, 0, 0) else none) else (bif Nat.blt pc 15 then (bif Nat.beq pc 14 then some (.iload_n 1, 0, 0) else none) else (bif Nat.beq pc 15 then some (.invokevirtual 97, 0, 0) else none))) else (bif Nat.blt pc 21 then (bif Nat.beq pc 18 then some (.invokestatic 72, 0, 0) else none) else (bif Nat.blt pc 22 then (bif Nat.beq pc 21 then some (.aload_n 0, 0, 0) else none) else (bif Nat.beq pc 22 then some (.invokevirtual 75, 0, 0) else none))))) else (bif Nat.blt pc 37 then (bif Nat.blt pc 32 then (bif Nat.blt pc 26 then (bif Nat.beq pc 25 then some (.aload_n 0, 0, 0) else none) else (bif Nat.blt pc 29 then (bif Nat.beq pc 26 then some (.getfield 12, 0, 0) else none) else (bif Nat.beq pc 29 then some (.getfield 63, 0, 0) else none))) else (bif Nat.blt pc 33 then (bif Nat.beq pc 32 then some (.iload_n 1, 0, 0) else none) else (bif Nat.blt pc 34 then (bif Nat.beq pc 33 then some (.iconst 0, 0, 0) else none) else (bif Nat.beq pc 34 then some (.invokevirtual 100, 0, 0) else none)))) else (bif Nat.blt pc 44 then (bif Nat.blt pc 38 then (bif Nat.beq pc 37 then some (.aload_n 0, 0, 0) else none) else (bif Nat.blt pc 41 then (bif Nat.beq pc 38 then some (.getfield 12, 0, 0) else none) else (bif Nat.beq pc 41 then some (.getfield 63, 0, 0) else none))) else (bif Nat.blt pc 45 then (bif Nat.beq pc 44 then some (.iconst 2, 0, 2) else none) else (bif Nat.blt pc 48 then (bif Nat.beq pc 45 then some (.invokevirtual 104, 0, 0) else none) else (bif Nat.beq pc 48 then some (.ireturn, 0, 0) else none)))))
def z_c25 (pc : Nat) : Option (Instr × Nat × Int32) := bif Nat.blt pc 32 then (bif Nat.blt pc 18 then (bif Nat.blt pc 8 then (bif Nat.blt pc 4 then (bif Nat.blt pc 1 then (bif Nat.beq pc 0 then some (.iload_n 1, 0, 0) else none) else (bif Nat.beq pc 1 then some (.invokestatic 51, 0, 0) else none)) else (bif Nat.blt pc 7 then (bif Nat.beq pc 4 then some (.invokestatic 59, 0, 0) else none) else (bif Nat.beq pc 7 then some (.aload_n 0, 0, 0) else none))) else (bif Nat.blt pc 12 then (bif Nat.blt pc 11 then (bif Nat.beq pc 8 then some (.invokevirtual 75, 0, 0) else none) else (bif Nat.beq pc 11 then some (.aload_n 0, 0, 0) else none)) else (bif Nat.blt pc 15 then (bif Nat.beq pc 12 then some (.getfield 12, 0, 0) else none) else (bif Nat.beq pc 15 then some (.getfield 63, 0, 0) else none)))) else (bif Nat.blt pc 24 then (bif Nat.blt pc 22 then (bif Nat.blt pc 21 then (bif Nat.beq pc 18 then some (.getfield 67, 0, 0) else none) else (bif Nat.beq pc 21 then some (.iload_n 1, 0, 0) else none)) else (bif Nat.blt pc 23 then (bif Nat.beq pc 22 then some (.iaload, 0, 0) else none) else (bif Nat.beq pc 23 then some (.iconst 3, 0, 3) else none))) else (bif Nat.blt pc 28 then (bif Nat.blt pc 27 then (bif Nat.beq pc 24 then some (.if_icmp .ne 7, 31, 0) else none) else (bif Nat.beq pc 27 then some (.iconst 1, 0, 1) else none)) else (bif Nat.blt pc 31 then (bif Nat.beq pc 28 then some (.goto 4, 32, 0) else none) else (bif Nat.beq pc 31 then some (.iconst 0, 0, 0) else none))))) else (bif Nat.blt pc 46 then (bif Nat.blt pc 40 then (bif Nat.blt pc 34 then (bif Nat.blt pc 33 then (bif Nat.beq pc 32 then some (.istore_n 2, 0, 0) else none) else (bif Nat.beq pc 33 then some (.aload_n 0, 0, 0) else none)) else (bif Nat.blt pc 37 then (bif Nat.beq pc 34 then some (.getfield 12, 0, 0) else none) else (bif Nat.beq pc 37 then some (.getfield 63, 0, 0) else none))) else (bif Nat.blt pc 42 then (bif Nat.blt pc 41 then (bif Nat.beq pc 40 then some (.iload_n 1, 0, 0) else none) else (bif Nat.beq pc 41 then some (.iload_n 2, 0, 0) else none)) else (bif Nat.blt pc 45 then (bif Nat.beq pc 42 then some (.ifCond .eq 7, 49, 0) else none) else (bif Nat.beq pc 45 then some (.iconst 0, 0, 0) else none)))) else (bif Nat.blt pc 54 then (bif Nat.blt pc 50 then (bif Nat.blt pc 49 then (bif Nat.beq pc 46 then some (.goto 4, 50, 0) else none) else (bif Nat.beq pc 49 then some (.iconst 3, 0, 3) else none)) else (bif Nat.blt pc 53 then (bif Nat.beq pc 50 then some (.invokevirtual 100, 0, 0) else none) else (bif Nat.beq pc 53 then some (.iload_n 2, 0, 0) else none))) else (bif Nat.blt pc 58 then (bif Nat.blt pc 57 then (bif Nat.beq pc 54 then some (.ifCond .eq 7, 61, 0) else none) else (bif Nat.beq pc 57 then some (.iconst 0, 0, 0) else none)) else (bif Nat.blt pc 61 then (bif Nat.beq pc 58 then some (.goto 4, 62, 0) else none) else (bif Nat.blt pc 62 then (bif Nat.beq pc 61 then some (.iconst 1, 0, 1) else none) else (bif Nat.beq pc 62 then some (.ireturn, 0, 0) else none))))))
def z_c26 (pc : Nat) : Option (Instr × Nat × Int32) := bif Nat.blt pc 18 then (bif Nat.blt pc 8 then (bif Nat.blt pc 4 then (bif Nat.blt pc 1 then (bif Nat.beq pc 0 then some (.aload_n 0, 0, 0) else none) else (bif Nat.beq pc 1 then some (.invokevirtual 75, 0, 0) else none)) else (bif Nat.blt pc 5 then (bif Nat.beq pc 4 then some (.aload_n 0, 0, 0) else none) else (bif Nat.beq pc 5 then some (.getfield 12, 0, 0) else none))) else (bif Nat.blt pc 12 then (bif Nat.blt pc 9 then (bif Nat.beq pc 8 then some (.aload_n 0, 0, 0) else none) else (bif Nat.beq pc 9 then some (.getfield 12, 0, 0) else none)) else (bif Nat.blt pc 15 then (bif Nat.beq pc 12 then some (.getfield 108, 0, 0) else none) else (bif Nat.beq pc 15 then some (.ifCond .ne 7, 22, 0) else none)))) else (bif Nat.blt pc 26 then (bif Nat.blt pc 22 then (bif Nat.blt pc 19 then (bif Nat.beq pc 18 then some (.iconst 1, 0, 1) else none) else (bif Nat.beq pc 19 then some (.goto 4, 23, 0) else none)) else (bif Nat.blt pc 23 then (bif Nat.beq pc 22 then some (.iconst 0, 0, 0) else none) else (bif Nat.beq pc 23 then some (.putfield 108, 0, 0) else none))) else (bif Nat.blt pc 30 then (bif Nat.blt pc 27 then (bif Nat.beq pc 26 then some (.aload_n 0, 0, 0) else none) else (bif Nat.beq pc 27 then some (.getfield 12, 0, 0) else none)) else (bif Nat.blt pc 33 then (bif Nat.beq pc 30 then some (.getfield 108, 0, 0) else none) else (bif Nat.blt pc 36 then (bif Nat.beq pc 33 then some (.invokestatic 112, 0, 0) else none) else (bif Nat.beq pc 36 then some (.ireturn, 0, 0) else none)))))
def z_c27 (pc : Nat) : Option (Instr × Nat × Int32) := bif Nat.blt pc 34 then (bif Nat.blt pc 18 then (bif Nat.blt pc 8 then (bif Nat.blt pc 4 then (bif Nat.blt pc 1 then (bif Nat.beq pc 0 then some (.iload_n 1, 0, 0) else none) else (bif Nat.beq pc 1 then some (.invokestatic 116, 0, 0) else none)) else (bif Nat.blt pc 7 then (bif Nat.beq pc 4 then some (.ifCond .eq 18, 22, 0) else none) else (bif Nat.beq pc 7 then some (.iconst 0, 0, 0) else none))) else (bif Nat.blt pc 12 then (bif Nat.blt pc 11 then (bif Nat.beq pc 8 then some (.sipush 1500, 0, 1500) else none) else (bif Nat.beq pc 11 then some (.iload_n 2, 0, 0) else none)) else (bif Nat.blt pc 15 then (bif Nat.beq pc 12 then some (.invokestatic 55, 0, 0) else none) else (bif Nat.beq pc 15 then some (.ifCond .eq 7, 22, 0) else none)))) else (bif Nat.blt pc 26 then (bif Nat.blt pc 22 then (bif Nat.blt pc 19 then (bif Nat.beq pc 18 then some (.iconst 1, 0, 1) else none) else (bif Nat.beq pc 19 then some (.goto 4, 23, 0) else none)) else (bif Nat.blt pc 23 then (bif Nat.beq pc 22 then some (.iconst 0, 0, 0) else none) else (bif Nat.beq pc 23 then some (.invokestatic 59, 0, 0) else none))) else (bif Nat.blt pc 30 then (bif Nat.blt pc 27 then (bif Nat.beq pc 26 then some (.aload_n 0, 0, 0) else none) else (bif Nat.beq pc 27 then some (.invokevirtual 75, 0, 0) else none)) else (bif Nat.blt pc 31 then (bif Nat.beq pc 30 then some (.aload_n 0, 0, 0) else none) else (bif Nat.beq pc 31 then some (.getfield 12, 0, 0) else none))))) else (bif Nat.blt pc 46 then (bif Nat.blt pc 40 then (bif Nat.blt pc 38 then (bif Nat.blt pc 37 then (bif Nat.beq pc 34 then some (.getfield 119, 0, 0) else none) else (bif Nat.beq pc 37 then some (.iconst 0, 0, 0) else none)) else (bif Nat.blt pc 39 then (bif Nat.beq pc 38 then some (.aaload, 0, 0) else none) else (bif Nat.beq pc 39 then some (.iload_n 1, 0, 0) else none))) else (bif Nat.blt pc 42 then (bif Nat.blt pc 41 then (bif Nat.beq pc 40 then some (.iaload, 0, 0) else none) else (bif Nat.beq pc 41 then some (.istore_n 3, 0, 0) else none)) else (bif Nat.blt pc 43 then (bif Nat.beq pc 42 then some (.aload_n 0, 0, 0) else none) else (bif Nat.beq pc 43 then some (.getfield 12, 0, 0) else none)))) else (bif Nat.blt pc 52 then (bif Nat.blt pc 50 then (bif Nat.blt pc 49 then (bif Nat.beq pc 46 then some (.getfield 119, 0, 0) else none) else (bif Nat.beq pc 49 then some (.iconst 0, 0, 0) else none)) else (bif Nat.blt pc 51 then (bif Nat.beq pc 50 then some (.aaload, 0, 0) else none) else (bif Nat.beq pc 51 then some (.iload_n 1, 0, 0) else none))) else (bif Nat.blt pc 54 then (bif Nat.blt pc 53 then (bif Nat.beq pc 52 then some (.iload_n 2, 0, 0) else none) else (bif Nat.beq pc 53 then some (.iastore, 0, 0) else none)) else (bif Nat.blt pc 55 then (bif Nat.beq pc 54 then some (.iload_n 3, 0, 0) else none) else (bif Nat.beq pc 55 then some (.ireturn, 0, 0) else none)))))
def z_c28 (pc : Nat) : Option (Instr × Nat × Int32) := bif Nat.blt pc 29 then (bif Nat.blt pc 14 then (bif Nat.blt pc 4 then (bif Nat.blt pc 1 then (bif Nat.beq pc 0 then some (.iconst 1, 0, 1) else none) else (bif Nat.blt pc 3 then (bif Nat.beq pc 1 then some (.bipush 48, 0, 48) else none) else (bif Nat.beq pc 3 then some (.iload_n 1, 0, 0) else none))) else (bif Nat.blt pc 10 then (bif Nat.blt pc 7 then (bif Nat.beq pc 4 then some (.invokestatic 55, 0, 0) else none) else (bif Nat.beq pc 7 then some (.invokestatic 59, 0, 0) else none)) else (bif Nat.blt pc 11 then (bif Nat.beq pc 10 then some (.aload_n 0, 0, 0) else none) else (bif Nat.beq pc 11 then some (.getfield 12, 0, 0) else none)))) else (bif Nat.blt pc 21 then (bif Nat.blt pc 15 then (bif Nat.beq pc 14 then some (.iload_n 1, 0, 0) else none) else (bif Nat.blt pc 18 then (bif Nat.beq pc 15 then some (.invokevirtual 123, 0, 0) else none) else (bif Nat.beq pc 18 then some (.invokestatic 72, 0, 0) else none))) else (bif Nat.blt pc 25 then (bif Nat.blt pc 22 then (bif Nat.beq pc 21 then some (.aload_n 0, 0, 0) else none) else (bif Nat.beq pc 22 then some (.invokevirtual 75, 0, 0) else none)) else (bif Nat.blt pc 26 then (bif Nat.beq pc 25 then some (.aload_n 0, 0, 0) else none) else (bif Nat.beq pc 26 then some (.getfield 12, 0, 0) else none))))) else (bif Nat.blt pc 42 then (bif Nat.blt pc 34 then (bif Nat.blt pc 32 then (bif Nat.beq pc 29 then some (.invokevirtual 126, 0, 0) else none) else (bif Nat.blt pc 33 then (bif Nat.beq pc 32 then some (.istore_n 2, 0, 0) else none) else (bif Nat.beq pc 33 then some (.aload_n 0, 0, 0) else none))) else (bif Nat.blt pc 38 then (bif Nat.blt pc 37 then (bif Nat.beq pc 34 then some (.getfield 12, 0, 0) else none) else (bif Nat.beq pc 37 then some (.iload_n 1, 0, 0) else none)) else (bif Nat.blt pc 39 then (bif Nat.beq pc 38 then some (.aload_n 0, 0, 0) else none) else (bif Nat.beq pc 39 then some (.getfield 47, 0, 0) else none)))) else (bif Nat.blt pc 49 then (bif Nat.blt pc 45 then (bif Nat.beq pc 42 then some (.invokevirtual 130, 0, 0) else none) else (bif Nat.blt pc 46 then (bif Nat.beq pc 45 then some (.aload_n 0, 0, 0) else none) else (bif Nat.beq pc 46 then some (.getfield 12, 0, 0) else none))) else (bif Nat.blt pc 53 then (bif Nat.blt pc 52 then (bif Nat.beq pc 49 then some (.invokevirtual 126, 0, 0) else none) else (bif Nat.beq pc 52 then some (.iload_n 2, 0, 0) else none)) else (bif Nat.blt pc 54 then (bif Nat.beq pc 53 then some (.isub, 0, 0) else none) else (bif Nat.beq pc 54 then some (.ireturn, 0, 0) else none)))))
def z_c29 (pc : Nat) : Option (Instr × Nat × Int32) := bif Nat.blt pc 27 then (bif Nat.blt pc 16 then (bif Nat.blt pc 5 then (bif Nat.blt pc 1 then (bif Nat.beq pc 0 then some (.iload_n 1, 0, 0) else none) else (bif Nat.blt pc 4 then (bif Nat.beq pc 1 then some (.invokestatic 134, 0, 0) else none) else (bif Nat.beq pc 4 then some (.iload_n 1, 0, 0) else none))) else (bif Nat.blt pc 11 then (bif Nat.blt pc 8 then (bif Nat.beq pc 5 then some (.ifCond .ne 9, 14, 0) else none) else (bif Nat.beq pc 8 then some (.sipush 300, 0, 300) else none)) else (bif Nat.blt pc 14 then (bif Nat.beq pc 11 then some (.goto 5, 16, 0) else none) else (bif Nat.beq pc 14 then some (.bipush 48, 0, 48) else none)))) else (bif Nat.blt pc 19 then (bif Nat.blt pc 17 then (bif Nat.beq pc 16 then some (.istore_n 3, 0, 0) else none) else (bif Nat.blt pc 18 then (bif Nat.beq pc 17 then some (.iconst 0, 0, 0) else none) else (bif Nat.beq pc 18 then some (.iload_n 3, 0, 0) else none))) else (bif Nat.blt pc 23 then (bif Nat.blt pc 20 then (bif Nat.beq pc 19 then some (.iload_n 2, 0, 0) else none) else (bif Nat.beq pc 20 then some (.invokestatic 55, 0, 0) else none)) else (bif Nat.blt pc 26 then (bif Nat.beq pc 23 then some (.invokestatic 59, 0, 0) else none) else (bif Nat.beq pc 26 then some (.aload_n 0, 0, 0) else none))))) else (bif Nat.blt pc 41 then (bif Nat.blt pc 34 then (bif Nat.blt pc 30 then (bif Nat.beq pc 27 then some (.invokevirtual 75, 0, 0) else none) else (bif Nat.blt pc 31 then (bif Nat.beq pc 30 then some (.aload_n 0, 0, 0) else none) else (bif Nat.beq pc 31 then some (.getfield 12, 0, 0) else none))) else (bif Nat.blt pc 38 then (bif Nat.blt pc 37 then (bif Nat.beq pc 34 then some (.getfield 137, 0, 0) else none) else (bif Nat.beq pc 37 then some (.iload_n 1, 0, 0) else none)) else (bif Nat.blt pc 39 then (bif Nat.beq pc 38 then some (.iaload, 0, 0) else none) else (bif Nat.beq pc 39 then some (.istore 4, 0, 0) else none)))) else (bif Nat.blt pc 49 then (bif Nat.blt pc 45 then (bif Nat.blt pc 42 then (bif Nat.beq pc 41 then some (.aload_n 0, 0, 0) else none) else (bif Nat.beq pc 42 then some (.getfield 12, 0, 0) else none)) else (bif Nat.blt pc 48 then (bif Nat.beq pc 45 then some (.getfield 137, 0, 0) else none) else (bif Nat.beq pc 48 then some (.iload_n 1, 0, 0) else none))) else (bif Nat.blt pc 51 then (bif Nat.blt pc 50 then (bif Nat.beq pc 49 then some (.iload_n 2, 0, 0) else none) else (bif Nat.beq pc 50 then some (.iastore, 0, 0) else none)) else (bif Nat.blt pc 53 then (bif Nat.beq pc 51 then some (.iload 4, 0, 0) else none) else (bif Nat.beq pc 53 then some (.ireturn, 0, 0) else none)))))
def z_c30 (pc : Nat) : Option (Instr × Nat × Int32) := bif Nat.blt pc 26 then (bif Nat.blt pc 15 then (bif Nat.blt pc 7 then (bif Nat.blt pc 1 then (bif Nat.beq pc 0 then some (.aload_n 0, 0, 0) else none) else (bif Nat.blt pc 4 then (bif Nat.beq pc 1 then some (.getfield 27, 0, 0) else none) else (bif Nat.beq pc 4 then some (.ifCond .le 7, 11, 0) else none))) else (bif Nat.blt pc 11 then (bif Nat.blt pc 8 then (bif Nat.beq pc 7 then some (.iconst 1, 0, 1) else none) else (bif Nat.beq pc 8 then some (.goto 4, 12, 0) else none)) else (bif Nat.blt pc 12 then (bif Nat.beq pc 11 then some (.iconst 0, 0, 0) else none) else (bif Nat.beq pc 12 then some (.invokestatic 72, 0, 0) else none)))) else (bif Nat.blt pc 20 then (bif Nat.blt pc 16 then (bif Nat.beq pc 15 then some (.aload_n 0, 0, 0) else none) else (bif Nat.blt pc 17 then (bif Nat.beq pc 16 then some (.dup, 0, 0) else none) else (bif Nat.beq pc 17 then some (.getfield 27, 0, 0) else none))) else (bif Nat.blt pc 22 then (bif Nat.blt pc 21 then (bif Nat.beq pc 20 then some (.iconst 1, 0, 1) else none) else (bif Nat.beq pc 21 then some (.isub, 0, 0) else none)) else (bif Nat.blt pc 25 then (bif Nat.beq pc 22 then some (.putfield 27, 0, 0) else none) else (bif Nat.beq pc 25 then some (.aload_n 0, 0, 0) else none))))) else (bif Nat.blt pc 41 then (bif Nat.blt pc 33 then (bif Nat.blt pc 29 then (bif Nat.beq pc 26 then some (.getfield 12, 0, 0) else none) else (bif Nat.blt pc 30 then (bif Nat.beq pc 29 then some (.aload_n 0, 0, 0) else none) else (bif Nat.beq pc 30 then some (.getfield 19, 0, 0) else none))) else (bif Nat.blt pc 37 then (bif Nat.blt pc 34 then (bif Nat.beq pc 33 then some (.aload_n 0, 0, 0) else none) else (bif Nat.beq pc 34 then some (.getfield 23, 0, 0) else none)) else (bif Nat.blt pc 38 then (bif Nat.beq pc 37 then some (.aload_n 0, 0, 0) else none) else (bif Nat.beq pc 38 then some (.getfield 27, 0, 0) else none)))) else (bif Nat.blt pc 46 then (bif Nat.blt pc 44 then (bif Nat.blt pc 42 then (bif Nat.beq pc 41 then some (.iadd, 0, 0) else none) else (bif Nat.beq pc 42 then some (.bipush 6, 0, 6) else none)) else (bif Nat.blt pc 45 then (bif Nat.beq pc 44 then some (.irem, 0, 0) else none) else (bif Nat.beq pc 45 then some (.aaload, 0, 0) else none))) else (bif Nat.blt pc 50 then (bif Nat.blt pc 49 then (bif Nat.beq pc 46 then some (.invokevirtual 168, 0, 0) else none) else (bif Nat.beq pc 49 then some (.aload_n 0, 0, 0) else none)) else (bif Nat.blt pc 53 then (bif Nat.beq pc 50 then some (.getfield 27, 0, 0) else none) else (bif Nat.beq pc 53 then some (.ireturn, 0, 0) else none)))))
def z_c31 (pc : Nat) : Option (Instr × Nat × Int32) := bif Nat.blt pc 101 then (bif Nat.blt pc 33 then (bif Nat.blt pc 17 then (bif Nat.blt pc 8 then (bif Nat.blt pc 4 then (bif Nat.blt pc 1 then (bif Nat.beq pc 0 then some (.iload_n 1, 0, 0) else none) else (bif Nat.beq pc 1 then some (.invokestatic 51, 0, 0) else none)) else (bif Nat.blt pc 7 then (bif Nat.beq pc 4 then some (.ifCond .eq 17, 21, 0) else none) else (bif Nat.beq pc 7 then some (.iconst 0, 0, 0) else none))) else (bif Nat.blt pc 11 then (bif Nat.blt pc 10 then (bif Nat.beq pc 8 then some (.bipush 8, 0, 8) else none) else (bif Nat.beq pc 10 then some (.iload_n 2, 0, 0) else none)) else (bif Nat.blt pc 14 then (bif Nat.beq pc 11 then some (.invokestatic 55, 0, 0) else none) else (bif Nat.beq pc 14 then some (.ifCond .eq 7, 21, 0) else none)))) else (bif Nat.blt pc 25 then (bif Nat.blt pc 21 then (bif Nat.blt pc 18 then (bif Nat.beq pc 17 then some (.iconst 1, 0, 1) else none) else (bif Nat.beq pc 18 then some (.goto 4, 22, 0) else none)) else (bif Nat.blt pc 22 then (bif Nat.beq pc 21 then some (.iconst 0, 0, 0) else none) else (bif Nat.beq pc 22 then some (.invokestatic 59, 0, 0) else none))) else (bif Nat.blt pc 29 then (bif Nat.blt pc 26 then (bif Nat.beq pc 25 then some (.aload_n 0, 0, 0) else none) else (bif Nat.beq pc 26 then some (.getfield 12, 0, 0) else none)) else (bif Nat.blt pc 32 then (bif Nat.beq pc 29 then some (.getfield 63, 0, 0) else none) else (bif Nat.beq pc 32 then some (.astore_n 3, 0, 0) else none))))) else (bif Nat.blt pc 88 then (bif Nat.blt pc 84 then (bif Nat.blt pc 80 then (bif Nat.blt pc 34 then (bif Nat.beq pc 33 then some (.iload_n 2, 0, 0) else none) else (bif Nat.beq pc 34 then some (.tableswitch 109 0 7 #[46, 53, 60, 67, 74, 81, 88, 102], 0, 0) else none)) else (bif Nat.blt pc 81 then (bif Nat.beq pc 80 then some (.aload_n 3, 0, 0) else none) else (bif Nat.beq pc 81 then some (.getfield 78, 0, 0) else none))) else (bif Nat.blt pc 86 then (bif Nat.blt pc 85 then (bif Nat.beq pc 84 then some (.iload_n 1, 0, 0) else none) else (bif Nat.beq pc 85 then some (.iaload, 0, 0) else none)) else (bif Nat.blt pc 87 then (bif Nat.beq pc 86 then some (.ireturn, 0, 0) else none) else (bif Nat.beq pc 87 then some (.aload_n 3, 0, 0) else none)))) else (bif Nat.blt pc 94 then (bif Nat.blt pc 92 then (bif Nat.blt pc 91 then (bif Nat.beq pc 88 then some (.getfield 81, 0, 0) else none) else (bif Nat.beq pc 91 then some (.iload_n 1, 0, 0) else none)) else (bif Nat.blt pc 93 then (bif Nat.beq pc 92 then some (.iaload, 0, 0) else none) else (bif Nat.beq pc 93 then some (.ireturn, 0, 0) else none))) else (bif Nat.blt pc 98 then (bif Nat.blt pc 95 then (bif Nat.beq pc 94 then some (.aload_n 3, 0, 0) else none) else (bif Nat.beq pc 95 then some (.getfield 84, 0, 0) else none)) else (bif Nat.blt pc 99 then (bif Nat.beq pc 98 then some (.iload_n 1, 0, 0) else none) else (bif Nat.blt pc 100 then (bif Nat.beq pc 99 then some (.iaload, 0, 0) else none) else (bif Nat.beq pc 100 then some (.ireturn, 0, 0) else none))))))) else (bif Nat.blt pc 123 then (bif Nat.blt pc 113 then (bif Nat.blt pc 107 then (bif Nat.blt pc 105 then (bif Nat.blt pc 102 then (bif Nat.beq pc 101 then some (.aload_n 3, 0, 0) else none) else (bif Nat.beq pc 102 then some (.getfield 87, 0, 0) else none)) else (bif Nat.blt pc 106 then (bif Nat.beq pc 105 then some (.iload_n 1, 0, 0) else none) else (bif Nat.beq pc 106 then some (.iaload, 0, 0) else none))) else (bif Nat.blt pc 109 then (bif Nat.blt pc 108 then (bif Nat.beq pc 107 then some (.ireturn, 0, 0) else none) else (bif Nat.beq pc 108 then some (.aload_n 3, 0, 0) else none)) else (bif Nat.blt pc 112 then (bif Nat.beq pc 109 then some (.getfield 67, 0, 0) else none) else (bif Nat.beq pc 112 then some (.iload_n 1, 0, 0) else none)))) else (bif Nat.blt pc 119 then (bif Nat.blt pc 115 then (bif Nat.blt pc 114 then (bif Nat.beq pc 113 then some (.iaload, 0, 0) else none) else (bif Nat.beq pc 114 then some (.ireturn, 0, 0) else none)) else (bif Nat.blt pc 116 then (bif Nat.beq pc 115 then some (.aload_n 3, 0, 0) else none) else (bif Nat.beq pc 116 then some (.getfield 94, 0, 0) else none))) else (bif Nat.blt pc 121 then (bif Nat.blt pc 120 then (bif Nat.beq pc 119 then some (.iload_n 1, 0, 0) else none) else (bif Nat.beq pc 120 then some (.iaload, 0, 0) else none)) else (bif Nat.blt pc 122 then (bif Nat.beq pc 121 then some (.ireturn, 0, 0) else none) else (bif Nat.beq pc 122 then some (.aload_n 0, 0, 0) else none))))) else (bif Nat.blt pc 137 then (bif Nat.blt pc 133 then (bif Nat.blt pc 127 then (bif Nat.blt pc 126 then (bif Nat.beq pc 123 then some (.invokevirtual 172, 0, 0) else none) else (bif Nat.beq pc 126 then some (.aload_n 0, 0, 0) else none)) else (bif Nat.blt pc 130 then (bif Nat.beq pc 127 then some (.getfield 47, 0, 0) else none) else (bif Nat.beq pc 130 then some (.getfield 175, 0, 0) else none))) else (bif Nat.blt pc 135 then (bif Nat.blt pc 134 then (bif Nat.beq pc 133 then some (.iload_n 1, 0, 0) else none) else (bif Nat.beq pc 134 then some (.iaload, 0, 0) else none)) else (bif Nat.blt pc 136 then (bif Nat.beq pc 135 then some (.ireturn, 0, 0) else none) else (bif Nat.beq pc 136 then some (.aload_n 3, 0, 0) else none)))) else (bif Nat.blt pc 143 then (bif Nat.blt pc 141 then (bif Nat.blt pc 140 then (bif Nat.beq pc 137 then some (.getfield 178, 0, 0) else none) else (bif Nat.beq pc 140 then some (.iload_n 1, 0, 0) else none)) else (bif Nat.blt pc 142 then (bif Nat.beq pc 141 then some (.iaload, 0, 0) else none) else (bif Nat.beq pc 142 then some (.ireturn, 0, 0) else none))) else (bif Nat.blt pc 147 then (bif Nat.blt pc 144 then (bif Nat.beq pc 143 then some (.aload_n 3, 0, 0) else none) else (bif Nat.beq pc 144 then some (.getfield 181, 0, 0) else none)) else (bif Nat.blt pc 148 then (bif Nat.beq pc 147 then some (.iload_n 1, 0, 0) else none) else (bif Nat.blt pc 149 then (bif Nat.beq pc 148 then some (.iaload, 0, 0) else none) else (bif Nat.beq pc 149 then some (.ireturn, 0, 0) else none)))))))
def z_c32 (pc : Nat) : Option (Instr × Nat × Int32) := bif Nat.blt pc 29 then (bif Nat.blt pc 14 then (bif Nat.blt pc 7 then (bif Nat.blt pc 1 then (bif Nat.beq pc 0 then some (.iload_n 1, 0, 0) else none) else (bif Nat.blt pc 4 then (bif Nat.beq pc 1 then some (.invokestatic 116, 0, 0) else none) else (bif Nat.beq pc 4 then some (.ifCond .eq 17, 21, 0) else none))) else (bif Nat.blt pc 10 then (bif Nat.blt pc 8 then (bif Nat.beq pc 7 then some (.iconst 0, 0, 0) else none) else (bif Nat.beq pc 8 then some (.bipush 6, 0, 6) else none)) else (bif Nat.blt pc 11 then (bif Nat.beq pc 10 then some (.iload_n 2, 0, 0) else none) else (bif Nat.beq pc 11 then some (.invokestatic 55, 0, 0) else none)))) else (bif Nat.blt pc 21 then (bif Nat.blt pc 17 then (bif Nat.beq pc 14 then some (.ifCond .eq 7, 21, 0) else none) else (bif Nat.blt pc 18 then (bif Nat.beq pc 17 then some (.iconst 1, 0, 1) else none) else (bif Nat.beq pc 18 then some (.goto 4, 22, 0) else none))) else (bif Nat.blt pc 25 then (bif Nat.blt pc 22 then (bif Nat.beq pc 21 then some (.iconst 0, 0, 0) else none) else (bif Nat.beq pc 22 then some (.invokestatic 59, 0, 0) else none)) else (bif Nat.blt pc 26 then (bif Nat.beq pc 25 then some (.iload_n 2, 0, 0) else none) else (bif Nat.beq pc 26 then some (.ifCond .eq 14, 40, 0) else none))))) else (bif Nat.blt pc 44 then (bif Nat.blt pc 34 then (bif Nat.blt pc 30 then (bif Nat.beq pc 29 then some (.iload_n 1, 0, 0) else none) else (bif Nat.blt pc 31 then (bif Nat.beq pc 30 then some (.aload_n 0, 0, 0) else none) else (bif Nat.beq pc 31 then some (.getfield 12, 0, 0) else none))) else (bif Nat.blt pc 40 then (bif Nat.blt pc 37 then (bif Nat.beq pc 34 then some (.getfield 184, 0, 0) else none) else (bif Nat.beq pc 37 then some (.if_icmp .ge 17, 54, 0) else none)) else (bif Nat.blt pc 41 then (bif Nat.beq pc 40 then some (.aload_n 0, 0, 0) else none) else (bif Nat.beq pc 41 then some (.getfield 12, 0, 0) else none)))) else (bif Nat.blt pc 50 then (bif Nat.blt pc 48 then (bif Nat.blt pc 47 then (bif Nat.beq pc 44 then some (.getfield 119, 0, 0) else none) else (bif Nat.beq pc 47 then some (.iload_n 2, 0, 0) else none)) else (bif Nat.blt pc 49 then (bif Nat.beq pc 48 then some (.aaload, 0, 0) else none) else (bif Nat.beq pc 49 then some (.iload_n 1, 0, 0) else none))) else (bif Nat.blt pc 54 then (bif Nat.blt pc 51 then (bif Nat.beq pc 50 then some (.iaload, 0, 0) else none) else (bif Nat.beq pc 51 then some (.goto 4, 55, 0) else none)) else (bif Nat.blt pc 55 then (bif Nat.beq pc 54 then some (.iconst (-1), 0, (-1)) else none) else (bif Nat.beq pc 55 then some (.ireturn, 0, 0) else none)))))
def z_c33 (pc : Nat) : Option (Instr × Nat × Int32) := bif Nat.blt pc 155 then (bif Nat.blt pc 111 then (bif Nat.blt pc 88 then (bif Nat.blt pc 10 then (bif Nat.blt pc 3 then (bif Nat.blt pc 1 then (bif Nat.beq pc 0 then some (.iconst 0, 0, 0) else none) else (bif Nat.beq pc 1 then some (.bipush 14, 0, 14) else none)) else (bif Nat.blt pc 4 then (bif Nat.beq pc 3 then some (.iload_n 1, 0, 0) else none) else (bif Nat.blt pc 7 then (bif Nat.beq pc 4 then some (.invokestatic 55, 0, 0) else none) else (bif Nat.beq pc 7 then some (.invokestatic 59, 0, 0) else none)))) else (bif Nat.blt pc 81 then (bif Nat.blt pc 11 then (bif Nat.beq pc 10 then some (.iload_n 1, 0, 0) else none) else (bif Nat.blt pc 80 then (bif Nat.beq pc 11 then some (.tableswitch 232 0 13 #[69, 77, 89, 101, 116, 128, 140, 152, 167, 175, 186, 197, 205, 221], 0, 0) else none) else (bif Nat.beq pc 80 then some (.aload_n 0, 0, 0) else none))) else (bif Nat.blt pc 84 then (bif Nat.beq pc 81 then some (.getfield 12, 0, 0) else none) else (bif Nat.blt pc 87 then (bif Nat.beq pc 84 then some (.getfield 184, 0, 0) else none) else (bif Nat.beq pc 87 then some (.ireturn, 0, 0) else none))))) else (bif Nat.blt pc 99 then (bif Nat.blt pc 92 then (bif Nat.blt pc 89 then (bif Nat.beq pc 88 then some (.aload_n 0, 0, 0) else none) else (bif Nat.beq pc 89 then some (.getfield 12, 0, 0) else none)) else (bif Nat.blt pc 95 then (bif Nat.beq pc 92 then some (.getfield 63, 0, 0) else none) else (bif Nat.blt pc 96 then (bif Nat.beq pc 95 then some (.iconst 2, 0, 2) else none) else (bif Nat.beq pc 96 then some (.invokevirtual 104, 0, 0) else none)))) else (bif Nat.blt pc 104 then (bif Nat.blt pc 100 then (bif Nat.beq pc 99 then some (.ireturn, 0, 0) else none) else (bif Nat.blt pc 101 then (bif Nat.beq pc 100 then some (.aload_n 0, 0, 0) else none) else (bif Nat.beq pc 101 then some (.getfield 12, 0, 0) else none))) else (bif Nat.blt pc 107 then (bif Nat.beq pc 104 then some (.getfield 63, 0, 0) else none) else (bif Nat.blt pc 108 then (bif Nat.beq pc 107 then some (.iconst 1, 0, 1) else none) else (bif Nat.beq pc 108 then some (.invokevirtual 104, 0, 0) else none)))))) else (bif Nat.blt pc 132 then (bif Nat.blt pc 120 then (bif Nat.blt pc 113 then (bif Nat.blt pc 112 then (bif Nat.beq pc 111 then some (.ireturn, 0, 0) else none) else (bif Nat.beq pc 112 then some (.aload_n 0, 0, 0) else none)) else (bif Nat.blt pc 116 then (bif Nat.beq pc 113 then some (.getfield 12, 0, 0) else none) else (bif Nat.blt pc 117 then (bif Nat.beq pc 116 then some (.aload_n 0, 0, 0) else none) else (bif Nat.beq pc 117 then some (.getfield 12, 0, 0) else none)))) else (bif Nat.blt pc 127 then (bif Nat.blt pc 123 then (bif Nat.beq pc 120 then some (.invokevirtual 187, 0, 0) else none) else (bif Nat.blt pc 126 then (bif Nat.beq pc 123 then some (.invokevirtual 190, 0, 0) else none) else (bif Nat.beq pc 126 then some (.ireturn, 0, 0) else none))) else (bif Nat.blt pc 128 then (bif Nat.beq pc 127 then some (.aload_n 0, 0, 0) else none) else (bif Nat.blt pc 131 then (bif Nat.beq pc 128 then some (.invokevirtual 172, 0, 0) else none) else (bif Nat.beq pc 131 then some (.aload_n 0, 0, 0) else none))))) else (bif Nat.blt pc 143 then (bif Nat.blt pc 138 then (bif Nat.blt pc 135 then (bif Nat.beq pc 132 then some (.getfield 47, 0, 0) else none) else (bif Nat.beq pc 135 then some (.getfield 193, 0, 0) else none)) else (bif Nat.blt pc 139 then (bif Nat.beq pc 138 then some (.ireturn, 0, 0) else none) else (bif Nat.blt pc 140 then (bif Nat.beq pc 139 then some (.aload_n 0, 0, 0) else none) else (bif Nat.beq pc 140 then some (.invokevirtual 172, 0, 0) else none)))) else (bif Nat.blt pc 150 then (bif Nat.blt pc 144 then (bif Nat.beq pc 143 then some (.aload_n 0, 0, 0) else none) else (bif Nat.blt pc 147 then (bif Nat.beq pc 144 then some (.getfield 47, 0, 0) else none) else (bif Nat.beq pc 147 then some (.getfield 196, 0, 0) else none))) else (bif Nat.blt pc 151 then (bif Nat.beq pc 150 then some (.ireturn, 0, 0) else none) else (bif Nat.blt pc 152 then (bif Nat.beq pc 151 then some (.aload_n 0, 0, 0) else none) else (bif Nat.beq pc 152 then some (.invokevirtual 172, 0, 0) else none))))))) else (bif Nat.blt pc 201 then (bif Nat.blt pc 178 then (bif Nat.blt pc 164 then (bif Nat.blt pc 159 then (bif Nat.blt pc 156 then (bif Nat.beq pc 155 then some (.aload_n 0, 0, 0) else none) else (bif Nat.beq pc 156 then some (.getfield 47, 0, 0) else none)) else (bif Nat.blt pc 162 then (bif Nat.beq pc 159 then some (.getfield 199, 0, 0) else none) else (bif Nat.blt pc 163 then (bif Nat.beq pc 162 then some (.ireturn, 0, 0) else none) else (bif Nat.beq pc 163 then some (.aload_n 0, 0, 0) else none)))) else (bif Nat.blt pc 171 then (bif Nat.blt pc 167 then (bif Nat.beq pc 164 then some (.invokevirtual 172, 0, 0) else none) else (bif Nat.blt pc 168 then (bif Nat.beq pc 167 then some (.aload_n 0, 0, 0) else none) else (bif Nat.beq pc 168 then some (.getfield 47, 0, 0) else none))) else (bif Nat.blt pc 174 then (bif Nat.beq pc 171 then some (.getfield 202, 0, 0) else none) else (bif Nat.blt pc 177 then (bif Nat.beq pc 174 then some (.invokestatic 112, 0, 0) else none) else (bif Nat.beq pc 177 then some (.ireturn, 0, 0) else none))))) else (bif Nat.blt pc 187 then (bif Nat.blt pc 182 then (bif Nat.blt pc 179 then (bif Nat.beq pc 178 then some (.aload_n 0, 0, 0) else none) else (bif Nat.beq pc 179 then some (.getfield 12, 0, 0) else none)) else (bif Nat.blt pc 185 then (bif Nat.beq pc 182 then some (.getfield 205, 0, 0) else none) else (bif Nat.blt pc 186 then (bif Nat.beq pc 185 then some (.ireturn, 0, 0) else none) else (bif Nat.beq pc 186 then some (.aload_n 0, 0, 0) else none)))) else (bif Nat.blt pc 196 then (bif Nat.blt pc 190 then (bif Nat.beq pc 187 then some (.getfield 12, 0, 0) else none) else (bif Nat.blt pc 193 then (bif Nat.beq pc 190 then some (.getfield 208, 0, 0) else none) else (bif Nat.beq pc 193 then some (.invokestatic 112, 0, 0) else none))) else (bif Nat.blt pc 197 then (bif Nat.beq pc 196 then some (.ireturn, 0, 0) else none) else (bif Nat.blt pc 198 then (bif Nat.beq pc 197 then some (.aload_n 0, 0, 0) else none) else (bif Nat.beq pc 198 then some (.getfield 12, 0, 0) else none)))))) else (bif Nat.blt pc 224 then (bif Nat.blt pc 212 then (bif Nat.blt pc 207 then (bif Nat.blt pc 204 then (bif Nat.beq pc 201 then some (.getfield 108, 0, 0) else none) else (bif Nat.beq pc 204 then some (.invokestatic 112, 0, 0) else none)) else (bif Nat.blt pc 208 then (bif Nat.beq pc 207 then some (.ireturn, 0, 0) else none) else (bif Nat.blt pc 209 then (bif Nat.beq pc 208 then some (.aload_n 0, 0, 0) else none) else (bif Nat.beq pc 209 then some (.getfield 12, 0, 0) else none)))) else (bif Nat.blt pc 217 then (bif Nat.blt pc 215 then (bif Nat.beq pc 212 then some (.invokevirtual 126, 0, 0) else none) else (bif Nat.blt pc 216 then (bif Nat.beq pc 215 then some (.ireturn, 0, 0) else none) else (bif Nat.beq pc 216 then some (.aload_n 0, 0, 0) else none))) else (bif Nat.blt pc 220 then (bif Nat.beq pc 217 then some (.getfield 12, 0, 0) else none) else (bif Nat.blt pc 223 then (bif Nat.beq pc 220 then some (.getfield 184, 0, 0) else none) else (bif Nat.beq pc 223 then some (.aload_n 0, 0, 0) else none))))) else (bif Nat.blt pc 236 then (bif Nat.blt pc 231 then (bif Nat.blt pc 227 then (bif Nat.beq pc 224 then some (.getfield 12, 0, 0) else none) else (bif Nat.blt pc 230 then (bif Nat.beq pc 227 then some (.invokevirtual 211, 0, 0) else none) else (bif Nat.beq pc 230 then some (.isub, 0, 0) else none))) else (bif Nat.blt pc 232 then (bif Nat.beq pc 231 then some (.ireturn, 0, 0) else none) else (bif Nat.blt pc 233 then (bif Nat.beq pc 232 then some (.aload_n 0, 0, 0) else none) else (bif Nat.beq pc 233 then some (.getfield 12, 0, 0) else none)))) else (bif Nat.blt pc 243 then (bif Nat.blt pc 239 then (bif Nat.beq pc 236 then some (.getfield 63, 0, 0) else none) else (bif Nat.blt pc 242 then (bif Nat.beq pc 239 then some (.invokevirtual 214, 0, 0) else none) else (bif Nat.beq pc 242 then some (.ireturn, 0, 0) else none))) else (bif Nat.blt pc 244 then (bif Nat.beq pc 243 then some (.aload_n 0, 0, 0) else none) else (bif Nat.blt pc 247 then (bif Nat.beq pc 244 then some (.getfield 27, 0, 0) else none) else (bif Nat.beq pc 247 then some (.ireturn, 0, 0) else none)))))))
def z_c34 (pc : Nat) : Option (Instr × Nat × Int32) := bif Nat.blt pc 26 then (bif Nat.blt pc 18 then (bif Nat.blt pc 8 then (bif Nat.blt pc 4 then (bif Nat.blt pc 1 then (bif Nat.beq pc 0 then some (.iload_n 1, 0, 0) else none) else (bif Nat.beq pc 1 then some (.invokestatic 51, 0, 0) else none)) else (bif Nat.blt pc 7 then (bif Nat.beq pc 4 then some (.invokestatic 59, 0, 0) else none) else (bif Nat.beq pc 7 then some (.aload_n 0, 0, 0) else none))) else (bif Nat.blt pc 14 then (bif Nat.blt pc 11 then (bif Nat.beq pc 8 then some (.getfield 12, 0, 0) else none) else (bif Nat.beq pc 11 then some (.getfield 63, 0, 0) else none)) else (bif Nat.blt pc 15 then (bif Nat.beq pc 14 then some (.iconst 2, 0, 2) else none) else (bif Nat.beq pc 15 then some (.invokevirtual 217, 0, 0) else none)))) else (bif Nat.blt pc 22 then (bif Nat.blt pc 20 then (bif Nat.blt pc 19 then (bif Nat.beq pc 18 then some (.iconst 1, 0, 1) else none) else (bif Nat.beq pc 19 then some (.iload_n 1, 0, 0) else none)) else (bif Nat.blt pc 21 then (bif Nat.beq pc 20 then some (.ishl, 0, 0) else none) else (bif Nat.beq pc 21 then some (.iconst (-1), 0, (-1)) else none))) else (bif Nat.blt pc 24 then (bif Nat.blt pc 23 then (bif Nat.beq pc 22 then some (.ixor, 0, 0) else none) else (bif Nat.beq pc 23 then some (.iand, 0, 0) else none)) else (bif Nat.blt pc 25 then (bif Nat.beq pc 24 then some (.istore_n 2, 0, 0) else none) else (bif Nat.beq pc 25 then some (.aload_n 0, 0, 0) else none))))) else (bif Nat.blt pc 42 then (bif Nat.blt pc 36 then (bif Nat.blt pc 30 then (bif Nat.blt pc 29 then (bif Nat.beq pc 26 then some (.getfield 47, 0, 0) else none) else (bif Nat.beq pc 29 then some (.aload_n 0, 0, 0) else none)) else (bif Nat.blt pc 33 then (bif Nat.beq pc 30 then some (.getfield 12, 0, 0) else none) else (bif Nat.beq pc 33 then some (.getfield 63, 0, 0) else none))) else (bif Nat.blt pc 38 then (bif Nat.blt pc 37 then (bif Nat.beq pc 36 then some (.iload_n 2, 0, 0) else none) else (bif Nat.beq pc 37 then some (.aload_n 0, 0, 0) else none)) else (bif Nat.blt pc 41 then (bif Nat.beq pc 38 then some (.getfield 12, 0, 0) else none) else (bif Nat.beq pc 41 then some (.aload_n 0, 0, 0) else none)))) else (bif Nat.blt pc 54 then (bif Nat.blt pc 48 then (bif Nat.blt pc 45 then (bif Nat.beq pc 42 then some (.getfield 12, 0, 0) else none) else (bif Nat.beq pc 45 then some (.invokevirtual 187, 0, 0) else none)) else (bif Nat.blt pc 51 then (bif Nat.beq pc 48 then some (.invokevirtual 190, 0, 0) else none) else (bif Nat.beq pc 51 then some (.invokevirtual 220, 0, 0) else none))) else (bif Nat.blt pc 58 then (bif Nat.blt pc 55 then (bif Nat.beq pc 54 then some (.aload_n 0, 0, 0) else none) else (bif Nat.beq pc 55 then some (.getfield 47, 0, 0) else none)) else (bif Nat.blt pc 61 then (bif Nat.beq pc 58 then some (.getfield 193, 0, 0) else none) else (bif Nat.beq pc 61 then some (.ireturn, 0, 0) else none)))))
def z_c35 (pc : Nat) : Option (Instr × Nat × Int32) := bif Nat.blt pc 72 then (bif Nat.blt pc 36 then (bif Nat.blt pc 17 then (bif Nat.blt pc 8 then (bif Nat.blt pc 4 then (bif Nat.blt pc 1 then (bif Nat.beq pc 0 then some (.iload_n 1, 0, 0) else none) else (bif Nat.beq pc 1 then some (.invokestatic 116, 0, 0) else none)) else (bif Nat.blt pc 7 then (bif Nat.beq pc 4 then some (.ifCond .eq 16, 20, 0) else none) else (bif Nat.beq pc 7 then some (.iconst 0, 0, 0) else none))) else (bif Nat.blt pc 10 then (bif Nat.blt pc 9 then (bif Nat.beq pc 8 then some (.iconst 1, 0, 1) else none) else (bif Nat.beq pc 9 then some (.iload_n 2, 0, 0) else none)) else (bif Nat.blt pc 13 then (bif Nat.beq pc 10 then some (.invokestatic 55, 0, 0) else none) else (bif Nat.blt pc 16 then (bif Nat.beq pc 13 then some (.ifCond .eq 7, 20, 0) else none) else (bif Nat.beq pc 16 then some (.iconst 1, 0, 1) else none))))) else (bif Nat.blt pc 25 then (bif Nat.blt pc 21 then (bif Nat.blt pc 20 then (bif Nat.beq pc 17 then some (.goto 4, 21, 0) else none) else (bif Nat.beq pc 20 then some (.iconst 0, 0, 0) else none)) else (bif Nat.blt pc 24 then (bif Nat.beq pc 21 then some (.invokestatic 59, 0, 0) else none) else (bif Nat.beq pc 24 then some (.aload_n 0, 0, 0) else none))) else (bif Nat.blt pc 31 then (bif Nat.blt pc 28 then (bif Nat.beq pc 25 then some (.getfield 12, 0, 0) else none) else (bif Nat.beq pc 28 then some (.getfield 63, 0, 0) else none)) else (bif Nat.blt pc 32 then (bif Nat.beq pc 31 then some (.iconst 3, 0, 3) else none) else (bif Nat.blt pc 35 then (bif Nat.beq pc 32 then some (.invokevirtual 217, 0, 0) else none) else (bif Nat.beq pc 35 then some (.istore_n 3, 0, 0) else none)))))) else (bif Nat.blt pc 52 then (bif Nat.blt pc 44 then (bif Nat.blt pc 40 then (bif Nat.blt pc 37 then (bif Nat.beq pc 36 then some (.aload_n 0, 0, 0) else none) else (bif Nat.beq pc 37 then some (.getfield 12, 0, 0) else none)) else (bif Nat.blt pc 41 then (bif Nat.beq pc 40 then some (.iload_n 1, 0, 0) else none) else (bif Nat.beq pc 41 then some (.invokevirtual 190, 0, 0) else none))) else (bif Nat.blt pc 47 then (bif Nat.blt pc 46 then (bif Nat.beq pc 44 then some (.istore 4, 0, 0) else none) else (bif Nat.beq pc 46 then some (.iconst (-1), 0, (-1)) else none)) else (bif Nat.blt pc 49 then (bif Nat.beq pc 47 then some (.istore 5, 0, 0) else none) else (bif Nat.blt pc 50 then (bif Nat.beq pc 49 then some (.iconst (-1), 0, (-1)) else none) else (bif Nat.beq pc 50 then some (.istore 6, 0, 0) else none))))) else (bif Nat.blt pc 62 then (bif Nat.blt pc 55 then (bif Nat.blt pc 53 then (bif Nat.beq pc 52 then some (.iconst 0, 0, 0) else none) else (bif Nat.beq pc 53 then some (.istore 7, 0, 0) else none)) else (bif Nat.blt pc 57 then (bif Nat.beq pc 55 then some (.iload 7, 0, 0) else none) else (bif Nat.blt pc 59 then (bif Nat.beq pc 57 then some (.bipush 16, 0, 16) else none) else (bif Nat.beq pc 59 then some (.if_icmp .ge 87, 146, 0) else none)))) else (bif Nat.blt pc 65 then (bif Nat.blt pc 64 then (bif Nat.beq pc 62 then some (.iload 7, 0, 0) else none) else (bif Nat.beq pc 64 then some (.iload_n 3, 0, 0) else none)) else (bif Nat.blt pc 66 then (bif Nat.beq pc 65 then some (.iand, 0, 0) else none) else (bif Nat.blt pc 69 then (bif Nat.beq pc 66 then some (.ifCond .eq 6, 72, 0) else none) else (bif Nat.beq pc 69 then some (.goto 71, 140, 0) else none))))))) else (bif Nat.blt pc 116 then (bif Nat.blt pc 91 then (bif Nat.blt pc 80 then (bif Nat.blt pc 76 then (bif Nat.blt pc 73 then (bif Nat.beq pc 72 then some (.aload_n 0, 0, 0) else none) else (bif Nat.beq pc 73 then some (.getfield 47, 0, 0) else none)) else (bif Nat.blt pc 77 then (bif Nat.beq pc 76 then some (.aload_n 0, 0, 0) else none) else (bif Nat.beq pc 77 then some (.getfield 12, 0, 0) else none))) else (bif Nat.blt pc 85 then (bif Nat.blt pc 83 then (bif Nat.beq pc 80 then some (.getfield 63, 0, 0) else none) else (bif Nat.beq pc 83 then some (.iload 7, 0, 0) else none)) else (bif Nat.blt pc 87 then (bif Nat.beq pc 85 then some (.iload 4, 0, 0) else none) else (bif Nat.blt pc 90 then (bif Nat.beq pc 87 then some (.invokevirtual 220, 0, 0) else none) else (bif Nat.beq pc 90 then some (.aload_n 0, 0, 0) else none))))) else (bif Nat.blt pc 104 then (bif Nat.blt pc 97 then (bif Nat.blt pc 94 then (bif Nat.beq pc 91 then some (.getfield 12, 0, 0) else none) else (bif Nat.beq pc 94 then some (.getfield 63, 0, 0) else none)) else (bif Nat.blt pc 98 then (bif Nat.beq pc 97 then some (.aload_n 0, 0, 0) else none) else (bif Nat.blt pc 101 then (bif Nat.beq pc 98 then some (.getfield 47, 0, 0) else none) else (bif Nat.beq pc 101 then some (.getfield 175, 0, 0) else none)))) else (bif Nat.blt pc 109 then (bif Nat.blt pc 107 then (bif Nat.beq pc 104 then some (.invokevirtual 224, 0, 0) else none) else (bif Nat.beq pc 107 then some (.istore 8, 0, 0) else none)) else (bif Nat.blt pc 110 then (bif Nat.beq pc 109 then some (.aload_n 0, 0, 0) else none) else (bif Nat.blt pc 113 then (bif Nat.beq pc 110 then some (.getfield 47, 0, 0) else none) else (bif Nat.beq pc 113 then some (.getfield 202, 0, 0) else none)))))) else (bif Nat.blt pc 136 then (bif Nat.blt pc 125 then (bif Nat.blt pc 121 then (bif Nat.blt pc 119 then (bif Nat.beq pc 116 then some (.ifCond .eq 24, 140, 0) else none) else (bif Nat.beq pc 119 then some (.iload 5, 0, 0) else none)) else (bif Nat.blt pc 122 then (bif Nat.beq pc 121 then some (.iconst (-1), 0, (-1)) else none) else (bif Nat.beq pc 122 then some (.if_icmp .eq 10, 132, 0) else none))) else (bif Nat.blt pc 129 then (bif Nat.blt pc 127 then (bif Nat.beq pc 125 then some (.iload 8, 0, 0) else none) else (bif Nat.beq pc 127 then some (.iload 6, 0, 0) else none)) else (bif Nat.blt pc 132 then (bif Nat.beq pc 129 then some (.if_icmp .ge 11, 140, 0) else none) else (bif Nat.blt pc 134 then (bif Nat.beq pc 132 then some (.iload 7, 0, 0) else none) else (bif Nat.beq pc 134 then some (.istore 5, 0, 0) else none))))) else (bif Nat.blt pc 147 then (bif Nat.blt pc 140 then (bif Nat.blt pc 138 then (bif Nat.beq pc 136 then some (.iload 8, 0, 0) else none) else (bif Nat.beq pc 138 then some (.istore 6, 0, 0) else none)) else (bif Nat.blt pc 143 then (bif Nat.beq pc 140 then some (.iinc 7 1, 0, 1) else none) else (bif Nat.blt pc 146 then (bif Nat.beq pc 143 then some (.goto (-88), 55, 0) else none) else (bif Nat.beq pc 146 then some (.iload_n 2, 0, 0) else none)))) else (bif Nat.blt pc 152 then (bif Nat.blt pc 150 then (bif Nat.beq pc 147 then some (.ifCond .ne 8, 155, 0) else none) else (bif Nat.beq pc 150 then some (.iload 5, 0, 0) else none)) else (bif Nat.blt pc 155 then (bif Nat.beq pc 152 then some (.goto 5, 157, 0) else none) else (bif Nat.blt pc 157 then (bif Nat.beq pc 155 then some (.iload 6, 0, 0) else none) else (bif Nat.beq pc 157 then some (.ireturn, 0, 0) else none)))))))
def z_c36 (pc : Nat) : Option (Instr × Nat × Int32) := bif Nat.blt pc 33 then (bif Nat.blt pc 17 then (bif Nat.blt pc 8 then (bif Nat.blt pc 4 then (bif Nat.blt pc 1 then (bif Nat.beq pc 0 then some (.aload_n 0, 0, 0) else none) else (bif Nat.beq pc 1 then some (.getfield 16, 0, 0) else none)) else (bif Nat.blt pc 5 then (bif Nat.beq pc 4 then some (.aload_n 0, 0, 0) else none) else (bif Nat.beq pc 5 then some (.getfield 12, 0, 0) else none))) else (bif Nat.blt pc 12 then (bif Nat.blt pc 11 then (bif Nat.beq pc 8 then some (.invokevirtual 168, 0, 0) else none) else (bif Nat.beq pc 11 then some (.aload_n 0, 0, 0) else none)) else (bif Nat.blt pc 15 then (bif Nat.beq pc 12 then some (.getfield 16, 0, 0) else none) else (bif Nat.beq pc 15 then some (.bipush 48, 0, 48) else none)))) else (bif Nat.blt pc 25 then (bif Nat.blt pc 21 then (bif Nat.blt pc 18 then (bif Nat.beq pc 17 then some (.aload_n 0, 0, 0) else none) else (bif Nat.beq pc 18 then some (.getfield 47, 0, 0) else none)) else (bif Nat.blt pc 24 then (bif Nat.beq pc 21 then some (.invokevirtual 130, 0, 0) else none) else (bif Nat.beq pc 24 then some (.aload_n 0, 0, 0) else none))) else (bif Nat.blt pc 31 then (bif Nat.blt pc 28 then (bif Nat.beq pc 25 then some (.getfield 12, 0, 0) else none) else (bif Nat.beq pc 28 then some (.getfield 184, 0, 0) else none)) else (bif Nat.blt pc 32 then (bif Nat.beq pc 31 then some (.istore_n 1, 0, 0) else none) else (bif Nat.beq pc 32 then some (.iload_n 1, 0, 0) else none))))) else (bif Nat.blt pc 48 then (bif Nat.blt pc 42 then (bif Nat.blt pc 38 then (bif Nat.blt pc 35 then (bif Nat.beq pc 33 then some (.bipush 48, 0, 48) else none) else (bif Nat.beq pc 35 then some (.if_icmp .ge 25, 60, 0) else none)) else (bif Nat.blt pc 39 then (bif Nat.beq pc 38 then some (.aload_n 0, 0, 0) else none) else (bif Nat.beq pc 39 then some (.getfield 16, 0, 0) else none))) else (bif Nat.blt pc 46 then (bif Nat.blt pc 45 then (bif Nat.beq pc 42 then some (.getfield 119, 0, 0) else none) else (bif Nat.beq pc 45 then some (.iconst 2, 0, 2) else none)) else (bif Nat.blt pc 47 then (bif Nat.beq pc 46 then some (.aaload, 0, 0) else none) else (bif Nat.beq pc 47 then some (.iload_n 1, 0, 0) else none)))) else (bif Nat.blt pc 54 then (bif Nat.blt pc 52 then (bif Nat.blt pc 49 then (bif Nat.beq pc 48 then some (.iaload, 0, 0) else none) else (bif Nat.beq pc 49 then some (.ifCond .le 5, 54, 0) else none)) else (bif Nat.blt pc 53 then (bif Nat.beq pc 52 then some (.iload_n 1, 0, 0) else none) else (bif Nat.beq pc 53 then some (.ireturn, 0, 0) else none))) else (bif Nat.blt pc 60 then (bif Nat.blt pc 57 then (bif Nat.beq pc 54 then some (.iinc 1 1, 0, 1) else none) else (bif Nat.beq pc 57 then some (.goto (-25), 32, 0) else none)) else (bif Nat.blt pc 61 then (bif Nat.beq pc 60 then some (.iconst (-1), 0, (-1)) else none) else (bif Nat.beq pc 61 then some (.ireturn, 0, 0) else none)))))
def z_c37 (pc : Nat) : Option (Instr × Nat × Int32) := bif Nat.blt pc 47 then (bif Nat.blt pc 24 then (bif Nat.blt pc 11 then (bif Nat.blt pc 4 then (bif Nat.blt pc 1 then (bif Nat.beq pc 0 then some (.aload_n 0, 0, 0) else none) else (bif Nat.beq pc 1 then some (.getfield 16, 0, 0) else none)) else (bif Nat.blt pc 5 then (bif Nat.beq pc 4 then some (.aload_n 0, 0, 0) else none) else (bif Nat.blt pc 8 then (bif Nat.beq pc 5 then some (.getfield 12, 0, 0) else none) else (bif Nat.beq pc 8 then some (.invokevirtual 168, 0, 0) else none)))) else (bif Nat.blt pc 17 then (bif Nat.blt pc 12 then (bif Nat.beq pc 11 then some (.aload_n 0, 0, 0) else none) else (bif Nat.blt pc 15 then (bif Nat.beq pc 12 then some (.getfield 16, 0, 0) else none) else (bif Nat.beq pc 15 then some (.bipush 48, 0, 48) else none))) else (bif Nat.blt pc 18 then (bif Nat.beq pc 17 then some (.aload_n 0, 0, 0) else none) else (bif Nat.blt pc 21 then (bif Nat.beq pc 18 then some (.getfield 47, 0, 0) else none) else (bif Nat.beq pc 21 then some (.invokevirtual 130, 0, 0) else none))))) else (bif Nat.blt pc 33 then (bif Nat.blt pc 28 then (bif Nat.blt pc 25 then (bif Nat.beq pc 24 then some (.aload_n 0, 0, 0) else none) else (bif Nat.beq pc 25 then some (.getfield 16, 0, 0) else none)) else (bif Nat.blt pc 31 then (bif Nat.beq pc 28 then some (.invokevirtual 126, 0, 0) else none) else (bif Nat.blt pc 32 then (bif Nat.beq pc 31 then some (.istore_n 1, 0, 0) else none) else (bif Nat.beq pc 32 then some (.aload_n 0, 0, 0) else none)))) else (bif Nat.blt pc 40 then (bif Nat.blt pc 36 then (bif Nat.beq pc 33 then some (.getfield 16, 0, 0) else none) else (bif Nat.blt pc 37 then (bif Nat.beq pc 36 then some (.aload_n 0, 0, 0) else none) else (bif Nat.beq pc 37 then some (.getfield 12, 0, 0) else none))) else (bif Nat.blt pc 43 then (bif Nat.beq pc 40 then some (.invokevirtual 168, 0, 0) else none) else (bif Nat.blt pc 44 then (bif Nat.beq pc 43 then some (.aload_n 0, 0, 0) else none) else (bif Nat.beq pc 44 then some (.getfield 16, 0, 0) else none)))))) else (bif Nat.blt pc 71 then (bif Nat.blt pc 58 then (bif Nat.blt pc 51 then (bif Nat.blt pc 48 then (bif Nat.beq pc 47 then some (.aload_n 0, 0, 0) else none) else (bif Nat.beq pc 48 then some (.getfield 12, 0, 0) else none)) else (bif Nat.blt pc 54 then (bif Nat.beq pc 51 then some (.getfield 108, 0, 0) else none) else (bif Nat.blt pc 57 then (bif Nat.beq pc 54 then some (.ifCond .ne 7, 61, 0) else none) else (bif Nat.beq pc 57 then some (.iconst 1, 0, 1) else none)))) else (bif Nat.blt pc 65 then (bif Nat.blt pc 61 then (bif Nat.beq pc 58 then some (.goto 4, 62, 0) else none) else (bif Nat.blt pc 62 then (bif Nat.beq pc 61 then some (.iconst 0, 0, 0) else none) else (bif Nat.beq pc 62 then some (.putfield 108, 0, 0) else none))) else (bif Nat.blt pc 66 then (bif Nat.beq pc 65 then some (.aload_n 0, 0, 0) else none) else (bif Nat.blt pc 69 then (bif Nat.beq pc 66 then some (.getfield 16, 0, 0) else none) else (bif Nat.beq pc 69 then some (.bipush 48, 0, 48) else none))))) else (bif Nat.blt pc 80 then (bif Nat.blt pc 75 then (bif Nat.blt pc 72 then (bif Nat.beq pc 71 then some (.aload_n 0, 0, 0) else none) else (bif Nat.beq pc 72 then some (.getfield 47, 0, 0) else none)) else (bif Nat.blt pc 78 then (bif Nat.beq pc 75 then some (.invokevirtual 130, 0, 0) else none) else (bif Nat.blt pc 79 then (bif Nat.beq pc 78 then some (.iload_n 1, 0, 0) else none) else (bif Nat.beq pc 79 then some (.aload_n 0, 0, 0) else none)))) else (bif Nat.blt pc 87 then (bif Nat.blt pc 83 then (bif Nat.beq pc 80 then some (.getfield 16, 0, 0) else none) else (bif Nat.blt pc 86 then (bif Nat.beq pc 83 then some (.invokevirtual 126, 0, 0) else none) else (bif Nat.beq pc 86 then some (.isub, 0, 0) else none))) else (bif Nat.blt pc 89 then (bif Nat.beq pc 87 then some (.bipush 100, 0, 100) else none) else (bif Nat.blt pc 90 then (bif Nat.beq pc 89 then some (.iadd, 0, 0) else none) else (bif Nat.beq pc 90 then some (.ireturn, 0, 0) else none))))))
def z_c38 (pc : Nat) : Option (Instr × Nat × Int32) := bif Nat.blt pc 87 then (bif Nat.blt pc 39 then (bif Nat.blt pc 21 then (bif Nat.blt pc 11 then (bif Nat.blt pc 4 then (bif Nat.blt pc 1 then (bif Nat.beq pc 0 then some (.aload_n 0, 0, 0) else none) else (bif Nat.beq pc 1 then some (.getfield 16, 0, 0) else none)) else (bif Nat.blt pc 5 then (bif Nat.beq pc 4 then some (.aload_n 0, 0, 0) else none) else (bif Nat.blt pc 8 then (bif Nat.beq pc 5 then some (.getfield 12, 0, 0) else none) else (bif Nat.beq pc 8 then some (.invokevirtual 168, 0, 0) else none)))) else (bif Nat.blt pc 15 then (bif Nat.blt pc 12 then (bif Nat.beq pc 11 then some (.aload_n 0, 0, 0) else none) else (bif Nat.beq pc 12 then some (.getfield 16, 0, 0) else none)) else (bif Nat.blt pc 17 then (bif Nat.beq pc 15 then some (.bipush 48, 0, 48) else none) else (bif Nat.blt pc 18 then (bif Nat.beq pc 17 then some (.aload_n 0, 0, 0) else none) else (bif Nat.beq pc 18 then some (.getfield 47, 0, 0) else none))))) else (bif Nat.blt pc 32 then (bif Nat.blt pc 25 then (bif Nat.blt pc 24 then (bif Nat.beq pc 21 then some (.invokevirtual 130, 0, 0) else none) else (bif Nat.beq pc 24 then some (.aload_n 0, 0, 0) else none)) else (bif Nat.blt pc 28 then (bif Nat.beq pc 25 then some (.getfield 16, 0, 0) else none) else (bif Nat.blt pc 31 then (bif Nat.beq pc 28 then some (.invokevirtual 126, 0, 0) else none) else (bif Nat.beq pc 31 then some (.istore_n 1, 0, 0) else none)))) else (bif Nat.blt pc 35 then (bif Nat.blt pc 33 then (bif Nat.beq pc 32 then some (.iconst 0, 0, 0) else none) else (bif Nat.blt pc 34 then (bif Nat.beq pc 33 then some (.istore_n 2, 0, 0) else none) else (bif Nat.beq pc 34 then some (.iconst (-1), 0, (-1)) else none))) else (bif Nat.blt pc 36 then (bif Nat.beq pc 35 then some (.istore_n 3, 0, 0) else none) else (bif Nat.blt pc 37 then (bif Nat.beq pc 36 then some (.iconst 0, 0, 0) else none) else (bif Nat.beq pc 37 then some (.istore 4, 0, 0) else none)))))) else (bif Nat.blt pc 61 then (bif Nat.blt pc 49 then (bif Nat.blt pc 42 then (bif Nat.blt pc 41 then (bif Nat.beq pc 39 then some (.iload 4, 0, 0) else none) else (bif Nat.beq pc 41 then some (.iconst 4, 0, 4) else none)) else (bif Nat.blt pc 45 then (bif Nat.beq pc 42 then some (.if_icmp .ge 129, 171, 0) else none) else (bif Nat.blt pc 46 then (bif Nat.beq pc 45 then some (.aload_n 0, 0, 0) else none) else (bif Nat.beq pc 46 then some (.getfield 12, 0, 0) else none)))) else (bif Nat.blt pc 55 then (bif Nat.blt pc 52 then (bif Nat.beq pc 49 then some (.getfield 63, 0, 0) else none) else (bif Nat.beq pc 52 then some (.getfield 67, 0, 0) else none)) else (bif Nat.blt pc 57 then (bif Nat.beq pc 55 then some (.iload 4, 0, 0) else none) else (bif Nat.blt pc 58 then (bif Nat.beq pc 57 then some (.iaload, 0, 0) else none) else (bif Nat.beq pc 58 then some (.ifCond .eq 6, 64, 0) else none))))) else (bif Nat.blt pc 72 then (bif Nat.blt pc 65 then (bif Nat.blt pc 64 then (bif Nat.beq pc 61 then some (.goto 104, 165, 0) else none) else (bif Nat.beq pc 64 then some (.aload_n 0, 0, 0) else none)) else (bif Nat.blt pc 68 then (bif Nat.beq pc 65 then some (.getfield 16, 0, 0) else none) else (bif Nat.blt pc 69 then (bif Nat.beq pc 68 then some (.aload_n 0, 0, 0) else none) else (bif Nat.beq pc 69 then some (.getfield 12, 0, 0) else none)))) else (bif Nat.blt pc 79 then (bif Nat.blt pc 75 then (bif Nat.beq pc 72 then some (.invokevirtual 168, 0, 0) else none) else (bif Nat.blt pc 76 then (bif Nat.beq pc 75 then some (.aload_n 0, 0, 0) else none) else (bif Nat.beq pc 76 then some (.getfield 16, 0, 0) else none))) else (bif Nat.blt pc 82 then (bif Nat.beq pc 79 then some (.getfield 63, 0, 0) else none) else (bif Nat.blt pc 84 then (bif Nat.beq pc 82 then some (.iload 4, 0, 0) else none) else (bif Nat.beq pc 84 then some (.invokevirtual 90, 0, 0) else none))))))) else (bif Nat.blt pc 132 then (bif Nat.blt pc 109 then (bif Nat.blt pc 97 then (bif Nat.blt pc 91 then (bif Nat.blt pc 88 then (bif Nat.beq pc 87 then some (.aload_n 0, 0, 0) else none) else (bif Nat.beq pc 88 then some (.getfield 16, 0, 0) else none)) else (bif Nat.blt pc 93 then (bif Nat.beq pc 91 then some (.bipush 48, 0, 48) else none) else (bif Nat.blt pc 94 then (bif Nat.beq pc 93 then some (.aload_n 0, 0, 0) else none) else (bif Nat.beq pc 94 then some (.getfield 47, 0, 0) else none)))) else (bif Nat.blt pc 101 then (bif Nat.blt pc 100 then (bif Nat.beq pc 97 then some (.invokevirtual 130, 0, 0) else none) else (bif Nat.beq pc 100 then some (.aload_n 0, 0, 0) else none)) else (bif Nat.blt pc 104 then (bif Nat.beq pc 101 then some (.getfield 16, 0, 0) else none) else (bif Nat.blt pc 107 then (bif Nat.beq pc 104 then some (.invokevirtual 126, 0, 0) else none) else (bif Nat.beq pc 107 then some (.istore 5, 0, 0) else none))))) else (bif Nat.blt pc 121 then (bif Nat.blt pc 113 then (bif Nat.blt pc 110 then (bif Nat.beq pc 109 then some (.aload_n 0, 0, 0) else none) else (bif Nat.beq pc 110 then some (.getfield 16, 0, 0) else none)) else (bif Nat.blt pc 116 then (bif Nat.beq pc 113 then some (.getfield 63, 0, 0) else none) else (bif Nat.blt pc 119 then (bif Nat.beq pc 116 then some (.invokevirtual 214, 0, 0) else none) else (bif Nat.beq pc 119 then some (.istore 6, 0, 0) else none)))) else (bif Nat.blt pc 126 then (bif Nat.blt pc 122 then (bif Nat.beq pc 121 then some (.iload_n 3, 0, 0) else none) else (bif Nat.blt pc 123 then (bif Nat.beq pc 122 then some (.iconst (-1), 0, (-1)) else none) else (bif Nat.beq pc 123 then some (.if_icmp .eq 19, 142, 0) else none))) else (bif Nat.blt pc 128 then (bif Nat.beq pc 126 then some (.iload 5, 0, 0) else none) else (bif Nat.blt pc 129 then (bif Nat.beq pc 128 then some (.iload_n 1, 0, 0) else none) else (bif Nat.beq pc 129 then some (.if_icmp .ne 13, 142, 0) else none)))))) else (bif Nat.blt pc 153 then (bif Nat.blt pc 142 then (bif Nat.blt pc 135 then (bif Nat.blt pc 134 then (bif Nat.beq pc 132 then some (.iload 6, 0, 0) else none) else (bif Nat.beq pc 134 then some (.iload_n 2, 0, 0) else none)) else (bif Nat.blt pc 138 then (bif Nat.beq pc 135 then some (.if_icmp .ge 7, 142, 0) else none) else (bif Nat.blt pc 139 then (bif Nat.beq pc 138 then some (.iconst 1, 0, 1) else none) else (bif Nat.beq pc 139 then some (.goto 4, 143, 0) else none)))) else (bif Nat.blt pc 147 then (bif Nat.blt pc 143 then (bif Nat.beq pc 142 then some (.iconst 0, 0, 0) else none) else (bif Nat.blt pc 145 then (bif Nat.beq pc 143 then some (.istore 7, 0, 0) else none) else (bif Nat.beq pc 145 then some (.iload 5, 0, 0) else none))) else (bif Nat.blt pc 148 then (bif Nat.beq pc 147 then some (.iload_n 1, 0, 0) else none) else (bif Nat.blt pc 151 then (bif Nat.beq pc 148 then some (.if_icmp .lt 8, 156, 0) else none) else (bif Nat.beq pc 151 then some (.iload 7, 0, 0) else none))))) else (bif Nat.blt pc 162 then (bif Nat.blt pc 158 then (bif Nat.blt pc 156 then (bif Nat.beq pc 153 then some (.ifCond .eq 12, 165, 0) else none) else (bif Nat.beq pc 156 then some (.iload 5, 0, 0) else none)) else (bif Nat.blt pc 159 then (bif Nat.beq pc 158 then some (.istore_n 1, 0, 0) else none) else (bif Nat.blt pc 161 then (bif Nat.beq pc 159 then some (.iload 6, 0, 0) else none) else (bif Nat.beq pc 161 then some (.istore_n 2, 0, 0) else none)))) else (bif Nat.blt pc 168 then (bif Nat.blt pc 164 then (bif Nat.beq pc 162 then some (.iload 4, 0, 0) else none) else (bif Nat.blt pc 165 then (bif Nat.beq pc 164 then some (.istore_n 3, 0, 0) else none) else (bif Nat.beq pc 165 then some (.iinc 4 1, 0, 1) else none))) else (bif Nat.blt pc 171 then (bif Nat.beq pc 168 then some (.goto (-129), 39, 0) else none) else (bif Nat.blt pc 172 then (bif Nat.beq pc 171 then some (.iload_n 3, 0, 0) else none) else (bif Nat.beq pc 172 then some (.ireturn, 0, 0) else none)))))))
def z_c39 (pc : Nat) : Option (Instr × Nat × Int32) := bif Nat.blt pc 16 then (bif Nat.blt pc 10 then (bif Nat.blt pc 4 then (bif Nat.blt pc 1 then (bif Nat.beq pc 0 then some (.aload_n 0, 0, 0) else none) else (bif Nat.beq pc 1 then some (.getfield 12, 0, 0) else none)) else (bif Nat.blt pc 7 then (bif Nat.beq pc 4 then some (.getfield 184, 0, 0) else none) else (bif Nat.beq pc 7 then some (.ifCond .gt 5, 12, 0) else none))) else (bif Nat.blt pc 12 then (bif Nat.blt pc 11 then (bif Nat.beq pc 10 then some (.dconst 1, 0, 0) else none) else (bif Nat.beq pc 11 then some (.dreturn, 0, 0) else none)) else (bif Nat.blt pc 13 then (bif Nat.beq pc 12 then some (.aload_n 0, 0, 0) else none) else (bif Nat.beq pc 13 then some (.getfield 12, 0, 0) else none)))) else (bif Nat.blt pc 24 then (bif Nat.blt pc 20 then (bif Nat.blt pc 19 then (bif Nat.beq pc 16 then some (.invokevirtual 211, 0, 0) else none) else (bif Nat.beq pc 19 then some (.i2d, 0, 0) else none)) else (bif Nat.blt pc 21 then (bif Nat.beq pc 20 then some (.aload_n 0, 0, 0) else none) else (bif Nat.beq pc 21 then some (.getfield 12, 0, 0) else none))) else (bif Nat.blt pc 28 then (bif Nat.blt pc 27 then (bif Nat.beq pc 24 then some (.getfield 184, 0, 0) else none) else (bif Nat.beq pc 27 then some (.i2d, 0, 0) else none)) else (bif Nat.blt pc 29 then (bif Nat.beq pc 28 then some (.ddiv, 0, 0) else none) else (bif Nat.beq pc 29 then some (.dreturn, 0, 0) else none))))
def z_c40 (pc : Nat) : Option (Instr × Nat × Int32) := bif Nat.blt pc 33 then (bif Nat.blt pc 16 then (bif Nat.blt pc 9 then (bif Nat.blt pc 4 then (bif Nat.blt pc 1 then (bif Nat.beq pc 0 then some (.aload_n 0, 0, 0) else none) else (bif Nat.beq pc 1 then some (.getfield 27, 0, 0) else none)) else (bif Nat.blt pc 6 then (bif Nat.beq pc 4 then some (.bipush 6, 0, 6) else none) else (bif Nat.beq pc 6 then some (.if_icmp .ne 26, 32, 0) else none))) else (bif Nat.blt pc 11 then (bif Nat.blt pc 10 then (bif Nat.beq pc 9 then some (.aload_n 0, 0, 0) else none) else (bif Nat.beq pc 10 then some (.aload_n 0, 0, 0) else none)) else (bif Nat.blt pc 14 then (bif Nat.beq pc 11 then some (.getfield 23, 0, 0) else none) else (bif Nat.blt pc 15 then (bif Nat.beq pc 14 then some (.iconst 1, 0, 1) else none) else (bif Nat.beq pc 15 then some (.iadd, 0, 0) else none))))) else (bif Nat.blt pc 24 then (bif Nat.blt pc 19 then (bif Nat.blt pc 18 then (bif Nat.beq pc 16 then some (.bipush 6, 0, 6) else none) else (bif Nat.beq pc 18 then some (.irem, 0, 0) else none)) else (bif Nat.blt pc 22 then (bif Nat.beq pc 19 then some (.putfield 23, 0, 0) else none) else (bif Nat.blt pc 23 then (bif Nat.beq pc 22 then some (.aload_n 0, 0, 0) else none) else (bif Nat.beq pc 23 then some (.dup, 0, 0) else none)))) else (bif Nat.blt pc 28 then (bif Nat.blt pc 27 then (bif Nat.beq pc 24 then some (.getfield 27, 0, 0) else none) else (bif Nat.beq pc 27 then some (.iconst 1, 0, 1) else none)) else (bif Nat.blt pc 29 then (bif Nat.beq pc 28 then some (.isub, 0, 0) else none) else (bif Nat.blt pc 32 then (bif Nat.beq pc 29 then some (.putfield 27, 0, 0) else none) else (bif Nat.beq pc 32 then some (.aload_n 0, 0, 0) else none)))))) else (bif Nat.blt pc 49 then (bif Nat.blt pc 41 then (bif Nat.blt pc 37 then (bif Nat.blt pc 36 then (bif Nat.beq pc 33 then some (.getfield 19, 0, 0) else none) else (bif Nat.beq pc 36 then some (.aload_n 0, 0, 0) else none)) else (bif Nat.blt pc 40 then (bif Nat.beq pc 37 then some (.getfield 23, 0, 0) else none) else (bif Nat.beq pc 40 then some (.aload_n 0, 0, 0) else none))) else (bif Nat.blt pc 45 then (bif Nat.blt pc 44 then (bif Nat.beq pc 41 then some (.getfield 27, 0, 0) else none) else (bif Nat.beq pc 44 then some (.iadd, 0, 0) else none)) else (bif Nat.blt pc 47 then (bif Nat.beq pc 45 then some (.bipush 6, 0, 6) else none) else (bif Nat.blt pc 48 then (bif Nat.beq pc 47 then some (.irem, 0, 0) else none) else (bif Nat.beq pc 48 then some (.aaload, 0, 0) else none))))) else (bif Nat.blt pc 58 then (bif Nat.blt pc 53 then (bif Nat.blt pc 50 then (bif Nat.beq pc 49 then some (.aload_n 0, 0, 0) else none) else (bif Nat.beq pc 50 then some (.getfield 12, 0, 0) else none)) else (bif Nat.blt pc 56 then (bif Nat.beq pc 53 then some (.invokevirtual 168, 0, 0) else none) else (bif Nat.blt pc 57 then (bif Nat.beq pc 56 then some (.aload_n 0, 0, 0) else none) else (bif Nat.beq pc 57 then some (.dup, 0, 0) else none)))) else (bif Nat.blt pc 62 then (bif Nat.blt pc 61 then (bif Nat.beq pc 58 then some (.getfield 27, 0, 0) else none) else (bif Nat.beq pc 61 then some (.iconst 1, 0, 1) else none)) else (bif Nat.blt pc 63 then (bif Nat.beq pc 62 then some (.iadd, 0, 0) else none) else (bif Nat.blt pc 66 then (bif Nat.beq pc 63 then some (.putfield 27, 0, 0) else none) else (bif Nat.beq pc 66 then some (.return_, 0, 0) else none))))))
def z_c41 (pc : Nat) : Option (Instr × Nat × Int32) := bif Nat.blt pc 19 then (bif Nat.blt pc 8 then (bif Nat.blt pc 4 then (bif Nat.blt pc 1 then (bif Nat.beq pc 0 then some (.aload_n 0, 0, 0) else none) else (bif Nat.beq pc 1 then some (.getfield 47, 0, 0) else none)) else (bif Nat.blt pc 5 then (bif Nat.beq pc 4 then some (.aload_n 0, 0, 0) else none) else (bif Nat.beq pc 5 then some (.getfield 12, 0, 0) else none))) else (bif Nat.blt pc 12 then (bif Nat.blt pc 11 then (bif Nat.beq pc 8 then some (.getfield 63, 0, 0) else none) else (bif Nat.beq pc 11 then some (.aload_n 0, 0, 0) else none)) else (bif Nat.blt pc 15 then (bif Nat.beq pc 12 then some (.getfield 12, 0, 0) else none) else (bif Nat.blt pc 18 then (bif Nat.beq pc 15 then some (.getfield 63, 0, 0) else none) else (bif Nat.beq pc 18 then some (.iconst 2, 0, 2) else none))))) else (bif Nat.blt pc 27 then (bif Nat.blt pc 23 then (bif Nat.blt pc 22 then (bif Nat.beq pc 19 then some (.invokevirtual 217, 0, 0) else none) else (bif Nat.beq pc 22 then some (.aload_n 0, 0, 0) else none)) else (bif Nat.blt pc 26 then (bif Nat.beq pc 23 then some (.getfield 12, 0, 0) else none) else (bif Nat.beq pc 26 then some (.aload_n 0, 0, 0) else none))) else (bif Nat.blt pc 33 then (bif Nat.blt pc 30 then (bif Nat.beq pc 27 then some (.getfield 12, 0, 0) else none) else (bif Nat.beq pc 30 then some (.invokevirtual 187, 0, 0) else none)) else (bif Nat.blt pc 36 then (bif Nat.beq pc 33 then some (.invokevirtual 190, 0, 0) else none) else (bif Nat.blt pc 39 then (bif Nat.beq pc 36 then some (.invokevirtual 220, 0, 0) else none) else (bif Nat.beq pc 39 then some (.return_, 0, 0) else none)))))
def z_c42 (pc : Nat) : Option (Instr × Nat × Int32) := bif Nat.blt pc 1 then (bif Nat.beq pc 0 then some (.iload_n 0, 0, 0) else none) else (bif Nat.blt pc 15 then (bif Nat.beq pc 1 then some (.ifCond .ne 14, 15, 0) else none) else (bif Nat.beq pc 15 then some (.return_, 0, 0) else none))
def z_c43 (pc : Nat) : Option (Instr × Nat × Int32) := bif Nat.blt pc 1 then (bif Nat.beq pc 0 then some (.iload_n 0, 0, 0) else none) else (bif Nat.blt pc 15 then (bif Nat.beq pc 1 then some (.ifCond .ne 14, 15, 0) else none) else (bif Nat.beq pc 15 then some (.return_, 0, 0) else none))
def z_c44 (pc : Nat) : Option (Instr × Nat × Int32) := bif Nat.blt pc 3 then (bif Nat.blt pc 1 then (bif Nat.beq pc 0 then some (.iconst 0, 0, 0) else none) else (bif Nat.blt pc 2 then (bif Nat.beq pc 1 then some (.iconst 1, 0, 1) else none) else (bif Nat.beq pc 2 then some (.iload_n 0, 0, 0) else none))) else (bif Nat.blt pc 6 then (bif Nat.beq pc 3 then some (.invokestatic 55, 0, 0) else none) else (bif Nat.blt pc 20 then (bif Nat.beq pc 6 then some (.ifCond .ne 14, 20, 0) else none) else (bif Nat.beq pc 20 then some (.return_, 0, 0) else none)))
def z_c45 (pc : Nat) : Option (Instr × Nat × Int32) := bif Nat.blt pc 7 then (bif Nat.blt pc 2 then (bif Nat.blt pc 1 then (bif Nat.beq pc 0 then some (.iload_n 2, 0, 0) else none) else (bif Nat.beq pc 1 then some (.iload_n 0, 0, 0) else none)) else (bif Nat.blt pc 5 then (bif Nat.beq pc 2 then some (.if_icmp .lt 12, 14, 0) else none) else (bif Nat.blt pc 6 then (bif Nat.beq pc 5 then some (.iload_n 2, 0, 0) else none) else (bif Nat.beq pc 6 then some (.iload_n 1, 0, 0) else none)))) else (bif Nat.blt pc 11 then (bif Nat.blt pc 10 then (bif Nat.beq pc 7 then some (.if_icmp .gt 7, 14, 0) else none) else (bif Nat.beq pc 10 then some (.iconst 1, 0, 1) else none)) else (bif Nat.blt pc 14 then (bif Nat.beq pc 11 then some (.goto 4, 15, 0) else none) else (bif Nat.blt pc 15 then (bif Nat.beq pc 14 then some (.iconst 0, 0, 0) else none) else (bif Nat.beq pc 15 then some (.ireturn, 0, 0) else none))))
def z_c46 (pc : Nat) : Option (Instr × Nat × Int32) := bif Nat.blt pc 2 then (bif Nat.blt pc 1 then (bif Nat.beq pc 0 then some (.iconst 0, 0, 0) else none) else (bif Nat.beq pc 1 then some (.iconst 3, 0, 3) else none)) else (bif Nat.blt pc 3 then (bif Nat.beq pc 2 then some (.iload_n 0, 0, 0) else none) else (bif Nat.blt pc 6 then (bif Nat.beq pc 3 then some (.invokestatic 55, 0, 0) else none) else (bif Nat.beq pc 6 then some (.ireturn, 0, 0) else none)))
def z_c47 (pc : Nat) : Option (Instr × Nat × Int32) := bif Nat.blt pc 3 then (bif Nat.blt pc 1 then (bif Nat.beq pc 0 then some (.iconst 0, 0, 0) else none) else (bif Nat.beq pc 1 then some (.bipush 47, 0, 47) else none)) else (bif Nat.blt pc 4 then (bif Nat.beq pc 3 then some (.iload_n 0, 0, 0) else none) else (bif Nat.blt pc 7 then (bif Nat.beq pc 4 then some (.invokestatic 55, 0, 0) else none) else (bif Nat.beq pc 7 then some (.ireturn, 0, 0) else none)))
def z_c48 (pc : Nat) : Option (Instr × Nat × Int32) := bif Nat.blt pc 5 then (bif Nat.blt pc 1 then (bif Nat.beq pc 0 then some (.iload_n 0, 0, 0) else none) else (bif Nat.blt pc 4 then (bif Nat.beq pc 1 then some (.ifCond .eq 7, 8, 0) else none) else (bif Nat.beq pc 4 then some (.iconst 1, 0, 1) else none))) else (bif Nat.blt pc 8 then (bif Nat.beq pc 5 then some (.goto 4, 9, 0) else none) else (bif Nat.blt pc 9 then (bif Nat.beq pc 8 then some (.iconst 0, 0, 0) else none) else (bif Nat.beq pc 9 then some (.ireturn, 0, 0) else none)))
def z_c49 (pc : Nat) : Option (Instr × Nat × Int32) := bif Nat.blt pc 27 then (bif Nat.blt pc 14 then (bif Nat.blt pc 7 then (bif Nat.blt pc 2 then (bif Nat.blt pc 1 then (bif Nat.beq pc 0 then some (.iload_n 0, 0, 0) else none) else (bif Nat.beq pc 1 then some (.iload_n 0, 0, 0) else none)) else (bif Nat.blt pc 3 then (bif Nat.beq pc 2 then some (.iconst 1, 0, 1) else none) else (bif Nat.blt pc 4 then (bif Nat.beq pc 3 then some (.iushr, 0, 0) else none) else (bif Nat.beq pc 4 then some (.ldc_w 265, 0, 1431655765) else none)))) else (bif Nat.blt pc 9 then (bif Nat.blt pc 8 then (bif Nat.beq pc 7 then some (.iand, 0, 0) else none) else (bif Nat.beq pc 8 then some (.isub, 0, 0) else none)) else (bif Nat.blt pc 10 then (bif Nat.beq pc 9 then some (.istore_n 0, 0, 0) else none) else (bif Nat.blt pc 11 then (bif Nat.beq pc 10 then some (.iload_n 0, 0, 0) else none) else (bif Nat.beq pc 11 then some (.ldc_w 266, 0, 858993459) else none))))) else (bif Nat.blt pc 21 then (bif Nat.blt pc 16 then (bif Nat.blt pc 15 then (bif Nat.beq pc 14 then some (.iand, 0, 0) else none) else (bif Nat.beq pc 15 then some (.iload_n 0, 0, 0) else none)) else (bif Nat.blt pc 17 then (bif Nat.beq pc 16 then some (.iconst 2, 0, 2) else none) else (bif Nat.blt pc 18 then (bif Nat.beq pc 17 then some (.iushr, 0, 0) else none) else (bif Nat.beq pc 18 then some (.ldc_w 266, 0, 858993459) else none)))) else (bif Nat.blt pc 24 then (bif Nat.blt pc 22 then (bif Nat.beq pc 21 then some (.iand, 0, 0) else none) else (bif Nat.blt pc 23 then (bif Nat.beq pc 22 then some (.iadd, 0, 0) else none) else (bif Nat.beq pc 23 then some (.istore_n 0, 0, 0) else none))) else (bif Nat.blt pc 25 then (bif Nat.beq pc 24 then some (.iload_n 0, 0, 0) else none) else (bif Nat.blt pc 26 then (bif Nat.beq pc 25 then some (.iload_n 0, 0, 0) else none) else (bif Nat.beq pc 26 then some (.iconst 4, 0, 4) else none)))))) else (bif Nat.blt pc 40 then (bif Nat.blt pc 34 then (bif Nat.blt pc 29 then (bif Nat.blt pc 28 then (bif Nat.beq pc 27 then some (.iushr, 0, 0) else none) else (bif Nat.beq pc 28 then some (.iadd, 0, 0) else none)) else (bif Nat.blt pc 32 then (bif Nat.beq pc 29 then some (.ldc_w 267, 0, 252645135) else none) else (bif Nat.blt pc 33 then (bif Nat.beq pc 32 then some (.iand, 0, 0) else none) else (bif Nat.beq pc 33 then some (.istore_n 0, 0, 0) else none)))) else (bif Nat.blt pc 36 then (bif Nat.blt pc 35 then (bif Nat.beq pc 34 then some (.iload_n 0, 0, 0) else none) else (bif Nat.beq pc 35 then some (.iload_n 0, 0, 0) else none)) else (bif Nat.blt pc 38 then (bif Nat.beq pc 36 then some (.bipush 8, 0, 8) else none) else (bif Nat.blt pc 39 then (bif Nat.beq pc 38 then some (.iushr, 0, 0) else none) else (bif Nat.beq pc 39 then some (.iadd, 0, 0) else none))))) else (bif Nat.blt pc 46 then (bif Nat.blt pc 42 then (bif Nat.blt pc 41 then (bif Nat.beq pc 40 then some (.istore_n 0, 0, 0) else none) else (bif Nat.beq pc 41 then some (.iload_n 0, 0, 0) else none)) else (bif Nat.blt pc 43 then (bif Nat.beq pc 42 then some (.iload_n 0, 0, 0) else none) else (bif Nat.blt pc 45 then (bif Nat.beq pc 43 then some (.bipush 16, 0, 16) else none) else (bif Nat.beq pc 45 then some (.iushr, 0, 0) else none)))) else (bif Nat.blt pc 49 then (bif Nat.blt pc 47 then (bif Nat.beq pc 46 then some (.iadd, 0, 0) else none) else (bif Nat.blt pc 48 then (bif Nat.beq pc 47 then some (.istore_n 0, 0, 0) else none) else (bif Nat.beq pc 48 then some (.iload_n 0, 0, 0) else none))) else (bif Nat.blt pc 51 then (bif Nat.beq pc 49 then some (.bipush 63, 0, 63) else none) else (bif Nat.blt pc 52 then (bif Nat.beq pc 51 then some (.iand, 0, 0) else none) else (bif Nat.beq pc 52 then some (.ireturn, 0, 0) else none))))))
def z_c50 (pc : Nat) : Option (Instr × Nat × Int32) := bif Nat.blt pc 15 then (bif Nat.blt pc 6 then (bif Nat.blt pc 2 then (bif Nat.blt pc 1 then (bif Nat.beq pc 0 then some (.iload_n 1, 0, 0) else none) else (bif Nat.beq pc 1 then some (.aload_n 0, 0, 0) else none)) else (bif Nat.blt pc 3 then (bif Nat.beq pc 2 then some (.arraylength, 0, 0) else none) else (bif Nat.beq pc 3 then some (.if_icmp .ge 9, 12, 0) else none))) else (bif Nat.blt pc 8 then (bif Nat.blt pc 7 then (bif Nat.beq pc 6 then some (.aload_n 0, 0, 0) else none) else (bif Nat.beq pc 7 then some (.iload_n 1, 0, 0) else none)) else (bif Nat.blt pc 9 then (bif Nat.beq pc 8 then some (.iaload, 0, 0) else none) else (bif Nat.blt pc 12 then (bif Nat.beq pc 9 then some (.goto 15, 24, 0) else none) else (bif Nat.beq pc 12 then some (.sipush 7919, 0, 7919) else none))))) else (bif Nat.blt pc 19 then (bif Nat.blt pc 17 then (bif Nat.blt pc 16 then (bif Nat.beq pc 15 then some (.iload_n 1, 0, 0) else none) else (bif Nat.beq pc 16 then some (.iconst 3, 0, 3) else none)) else (bif Nat.blt pc 18 then (bif Nat.beq pc 17 then some (.iadd, 0, 0) else none) else (bif Nat.beq pc 18 then some (.imul, 0, 0) else none))) else (bif Nat.blt pc 22 then (bif Nat.blt pc 20 then (bif Nat.beq pc 19 then some (.iload_n 1, 0, 0) else none) else (bif Nat.beq pc 20 then some (.bipush 11, 0, 11) else none)) else (bif Nat.blt pc 23 then (bif Nat.beq pc 22 then some (.iadd, 0, 0) else none) else (bif Nat.blt pc 24 then (bif Nat.beq pc 23 then some (.imul, 0, 0) else none) else (bif Nat.beq pc 24 then some (.ireturn, 0, 0) else none)))))
def z_c51 (pc : Nat) : Option (Instr × Nat × Int32) := bif Nat.blt pc 4 then (bif Nat.blt pc 1 then (bif Nat.beq pc 0 then some (.iload_n 0, 0, 0) else none) else (bif Nat.blt pc 3 then (bif Nat.beq pc 1 then some (.ldc 7, 0, 2147483647) else none) else (bif Nat.beq pc 3 then some (.iand, 0, 0) else none))) else (bif Nat.blt pc 5 then (bif Nat.beq pc 4 then some (.iload_n 1, 0, 0) else none) else (bif Nat.blt pc 6 then (bif Nat.beq pc 5 then some (.irem, 0, 0) else none) else (bif Nat.beq pc 6 then some (.ireturn, 0, 0) else none)))
def z_c52 (pc : Nat) : Option (Instr × Nat × Int32) := bif Nat.blt pc 185 then (bif Nat.blt pc 121 then (bif Nat.blt pc 89 then (bif Nat.blt pc 11 then (bif Nat.blt pc 4 then (bif Nat.blt pc 2 then (bif Nat.blt pc 1 then (bif Nat.beq pc 0 then some (.iload_n 1, 0, 0) else none) else (bif Nat.beq pc 1 then some (.iconst 4, 0, 4) else none)) else (bif Nat.blt pc 3 then (bif Nat.beq pc 2 then some (.ishr, 0, 0) else none) else (bif Nat.beq pc 3 then some (.iconst 4, 0, 4) else none))) else (bif Nat.blt pc 8 then (bif Nat.blt pc 7 then (bif Nat.beq pc 4 then some (.invokestatic 8, 0, 0) else none) else (bif Nat.beq pc 7 then some (.istore_n 2, 0, 0) else none)) else (bif Nat.blt pc 9 then (bif Nat.beq pc 8 then some (.aload_n 0, 0, 0) else none) else (bif Nat.blt pc 10 then (bif Nat.beq pc 9 then some (.iload_n 2, 0, 0) else none) else (bif Nat.beq pc 10 then some (.iconst 4, 0, 4) else none))))) else (bif Nat.blt pc 18 then (bif Nat.blt pc 15 then (bif Nat.blt pc 14 then (bif Nat.beq pc 11 then some (.invokevirtual 14, 0, 0) else none) else (bif Nat.beq pc 14 then some (.istore_n 3, 0, 0) else none)) else (bif Nat.blt pc 16 then (bif Nat.beq pc 15 then some (.iload_n 1, 0, 0) else none) else (bif Nat.beq pc 16 then some (.bipush 15, 0, 15) else none))) else (bif Nat.blt pc 84 then (bif Nat.blt pc 19 then (bif Nat.beq pc 18 then some (.iand, 0, 0) else none) else (bif Nat.beq pc 19 then some (.tableswitch 267 0 12 #[65, 65, 65, 65, 79, 99, 123, 123, 200, 205, 205, 205, 228], 0, 0) else none)) else (bif Nat.blt pc 85 then (bif Nat.beq pc 84 then some (.iload_n 3, 0, 0) else none) else (bif Nat.blt pc 88 then (bif Nat.beq pc 85 then some (.ifCond .ne 11, 96, 0) else none) else (bif Nat.beq pc 88 then some (.aload_n 0, 0, 0) else none)))))) else (bif Nat.blt pc 104 then (bif Nat.blt pc 97 then (bif Nat.blt pc 93 then (bif Nat.blt pc 90 then (bif Nat.beq pc 89 then some (.iload_n 2, 0, 0) else none) else (bif Nat.beq pc 90 then some (.invokevirtual 19, 0, 0) else none)) else (bif Nat.blt pc 96 then (bif Nat.beq pc 93 then some (.goto 4, 97, 0) else none) else (bif Nat.beq pc 96 then some (.iconst 0, 0, 0) else none))) else (bif Nat.blt pc 99 then (bif Nat.blt pc 98 then (bif Nat.beq pc 97 then some (.ireturn, 0, 0) else none) else (bif Nat.beq pc 98 then some (.iload_n 3, 0, 0) else none)) else (bif Nat.blt pc 100 then (bif Nat.beq pc 99 then some (.iconst 1, 0, 1) else none) else (bif Nat.blt pc 103 then (bif Nat.beq pc 100 then some (.if_icmp .eq 8, 108, 0) else none) else (bif Nat.beq pc 103 then some (.iload_n 3, 0, 0) else none))))) else (bif Nat.blt pc 113 then (bif Nat.blt pc 108 then (bif Nat.blt pc 105 then (bif Nat.beq pc 104 then some (.iconst 2, 0, 2) else none) else (bif Nat.beq pc 105 then some (.if_icmp .ne 11, 116, 0) else none)) else (bif Nat.blt pc 109 then (bif Nat.beq pc 108 then some (.aload_n 0, 0, 0) else none) else (bif Nat.blt pc 110 then (bif Nat.beq pc 109 then some (.iload_n 2, 0, 0) else none) else (bif Nat.beq pc 110 then some (.invokevirtual 23, 0, 0) else none)))) else (bif Nat.blt pc 117 then (bif Nat.blt pc 116 then (bif Nat.beq pc 113 then some (.goto 4, 117, 0) else none) else (bif Nat.beq pc 116 then some (.iconst 0, 0, 0) else none)) else (bif Nat.blt pc 118 then (bif Nat.beq pc 117 then some (.ireturn, 0, 0) else none) else (bif Nat.blt pc 119 then (bif Nat.beq pc 118 then some (.iload_n 1, 0, 0) else none) else (bif Nat.beq pc 119 then some (.bipush 6, 0, 6) else none))))))) else (bif Nat.blt pc 151 then (bif Nat.blt pc 134 then (bif Nat.blt pc 127 then (bif Nat.blt pc 123 then (bif Nat.blt pc 122 then (bif Nat.beq pc 121 then some (.ishr, 0, 0) else none) else (bif Nat.beq pc 122 then some (.iconst 3, 0, 3) else none)) else (bif Nat.blt pc 124 then (bif Nat.beq pc 123 then some (.iand, 0, 0) else none) else (bif Nat.beq pc 124 then some (.ifCond .eq 8, 132, 0) else none))) else (bif Nat.blt pc 129 then (bif Nat.blt pc 128 then (bif Nat.beq pc 127 then some (.iload_n 3, 0, 0) else none) else (bif Nat.beq pc 128 then some (.iconst 3, 0, 3) else none)) else (bif Nat.blt pc 132 then (bif Nat.beq pc 129 then some (.if_icmp .ne 11, 140, 0) else none) else (bif Nat.blt pc 133 then (bif Nat.beq pc 132 then some (.aload_n 0, 0, 0) else none) else (bif Nat.beq pc 133 then some (.iload_n 2, 0, 0) else none))))) else (bif Nat.blt pc 142 then (bif Nat.blt pc 140 then (bif Nat.blt pc 137 then (bif Nat.beq pc 134 then some (.invokevirtual 26, 0, 0) else none) else (bif Nat.beq pc 137 then some (.goto 4, 141, 0) else none)) else (bif Nat.blt pc 141 then (bif Nat.beq pc 140 then some (.iconst 0, 0, 0) else none) else (bif Nat.beq pc 141 then some (.ireturn, 0, 0) else none))) else (bif Nat.blt pc 145 then (bif Nat.blt pc 144 then (bif Nat.beq pc 142 then some (.bipush 50, 0, 50) else none) else (bif Nat.beq pc 144 then some (.iload_n 1, 0, 0) else none)) else (bif Nat.blt pc 147 then (bif Nat.beq pc 145 then some (.bipush 6, 0, 6) else none) else (bif Nat.blt pc 148 then (bif Nat.beq pc 147 then some (.ishr, 0, 0) else none) else (bif Nat.beq pc 148 then some (.sipush 400, 0, 400) else none)))))) else (bif Nat.blt pc 166 then (bif Nat.blt pc 158 then (bif Nat.blt pc 155 then (bif Nat.blt pc 154 then (bif Nat.beq pc 151 then some (.invokestatic 8, 0, 0) else none) else (bif Nat.beq pc 154 then some (.iadd, 0, 0) else none)) else (bif Nat.blt pc 157 then (bif Nat.beq pc 155 then some (.istore 4, 0, 0) else none) else (bif Nat.beq pc 157 then some (.iload_n 3, 0, 0) else none))) else (bif Nat.blt pc 162 then (bif Nat.blt pc 161 then (bif Nat.beq pc 158 then some (.ifCond .ne 59, 217, 0) else none) else (bif Nat.beq pc 161 then some (.aload_n 0, 0, 0) else none)) else (bif Nat.blt pc 163 then (bif Nat.beq pc 162 then some (.iload_n 2, 0, 0) else none) else (bif Nat.blt pc 165 then (bif Nat.beq pc 163 then some (.iload 4, 0, 0) else none) else (bif Nat.beq pc 165 then some (.iload_n 1, 0, 0) else none))))) else (bif Nat.blt pc 176 then (bif Nat.blt pc 169 then (bif Nat.blt pc 168 then (bif Nat.beq pc 166 then some (.bipush 9, 0, 9) else none) else (bif Nat.beq pc 168 then some (.ishr, 0, 0) else none)) else (bif Nat.blt pc 171 then (bif Nat.beq pc 169 then some (.bipush 120, 0, 120) else none) else (bif Nat.blt pc 174 then (bif Nat.beq pc 171 then some (.invokestatic 8, 0, 0) else none) else (bif Nat.beq pc 174 then some (.iload 4, 0, 0) else none)))) else (bif Nat.blt pc 180 then (bif Nat.blt pc 179 then (bif Nat.beq pc 176 then some (.if_icmp .ge 15, 191, 0) else none) else (bif Nat.beq pc 179 then some (.iload_n 1, 0, 0) else none)) else (bif Nat.blt pc 182 then (bif Nat.beq pc 180 then some (.bipush 9, 0, 9) else none) else (bif Nat.blt pc 183 then (bif Nat.beq pc 182 then some (.ishr, 0, 0) else none) else (bif Nat.beq pc 183 then some (.bipush 120, 0, 120) else none)))))))) else (bif Nat.blt pc 249 then (bif Nat.blt pc 218 then (bif Nat.blt pc 202 then (bif Nat.blt pc 193 then (bif Nat.blt pc 191 then (bif Nat.blt pc 188 then (bif Nat.beq pc 185 then some (.invokestatic 8, 0, 0) else none) else (bif Nat.beq pc 188 then some (.goto 4, 192, 0) else none)) else (bif Nat.blt pc 192 then (bif Nat.beq pc 191 then some (.iconst 0, 0, 0) else none) else (bif Nat.beq pc 192 then some (.iconst 1, 0, 1) else none))) else (bif Nat.blt pc 196 then (bif Nat.blt pc 194 then (bif Nat.beq pc 193 then some (.iload_n 1, 0, 0) else none) else (bif Nat.beq pc 194 then some (.bipush 11, 0, 11) else none)) else (bif Nat.blt pc 197 then (bif Nat.beq pc 196 then some (.ishr, 0, 0) else none) else (bif Nat.blt pc 199 then (bif Nat.beq pc 197 then some (.bipush 60, 0, 60) else none) else (bif Nat.beq pc 199 then some (.invokestatic 8, 0, 0) else none))))) else (bif Nat.blt pc 207 then (bif Nat.blt pc 204 then (bif Nat.blt pc 203 then (bif Nat.beq pc 202 then some (.iadd, 0, 0) else none) else (bif Nat.beq pc 203 then some (.iload_n 1, 0, 0) else none)) else (bif Nat.blt pc 206 then (bif Nat.beq pc 204 then some (.bipush 8, 0, 8) else none) else (bif Nat.beq pc 206 then some (.ishr, 0, 0) else none))) else (bif Nat.blt pc 211 then (bif Nat.blt pc 208 then (bif Nat.beq pc 207 then some (.iconst 5, 0, 5) else none) else (bif Nat.beq pc 208 then some (.invokestatic 8, 0, 0) else none)) else (bif Nat.blt pc 214 then (bif Nat.beq pc 211 then some (.invokevirtual 29, 0, 0) else none) else (bif Nat.blt pc 217 then (bif Nat.beq pc 214 then some (.goto 4, 218, 0) else none) else (bif Nat.beq pc 217 then some (.iconst 0, 0, 0) else none)))))) else (bif Nat.blt pc 230 then (bif Nat.blt pc 224 then (bif Nat.blt pc 220 then (bif Nat.blt pc 219 then (bif Nat.beq pc 218 then some (.ireturn, 0, 0) else none) else (bif Nat.beq pc 219 then some (.aload_n 0, 0, 0) else none)) else (bif Nat.blt pc 223 then (bif Nat.beq pc 220 then some (.invokevirtual 33, 0, 0) else none) else (bif Nat.beq pc 223 then some (.ireturn, 0, 0) else none))) else (bif Nat.blt pc 226 then (bif Nat.blt pc 225 then (bif Nat.beq pc 224 then some (.aload_n 0, 0, 0) else none) else (bif Nat.beq pc 225 then some (.iload_n 1, 0, 0) else none)) else (bif Nat.blt pc 227 then (bif Nat.beq pc 226 then some (.iconst 4, 0, 4) else none) else (bif Nat.blt pc 228 then (bif Nat.beq pc 227 then some (.ishr, 0, 0) else none) else (bif Nat.beq pc 228 then some (.bipush 48, 0, 48) else none))))) else (bif Nat.blt pc 240 then (bif Nat.blt pc 234 then (bif Nat.blt pc 233 then (bif Nat.beq pc 230 then some (.invokestatic 8, 0, 0) else none) else (bif Nat.beq pc 233 then some (.iload_n 1, 0, 0) else none)) else (bif Nat.blt pc 236 then (bif Nat.beq pc 234 then some (.bipush 10, 0, 10) else none) else (bif Nat.blt pc 237 then (bif Nat.beq pc 236 then some (.ishr, 0, 0) else none) else (bif Nat.beq pc 237 then some (.sipush 900, 0, 900) else none)))) else (bif Nat.blt pc 246 then (bif Nat.blt pc 243 then (bif Nat.beq pc 240 then some (.invokestatic 8, 0, 0) else none) else (bif Nat.beq pc 243 then some (.invokevirtual 37, 0, 0) else none)) else (bif Nat.blt pc 247 then (bif Nat.beq pc 246 then some (.ireturn, 0, 0) else none) else (bif Nat.blt pc 248 then (bif Nat.beq pc 247 then some (.iload_n 1, 0, 0) else none) else (bif Nat.beq pc 248 then some (.iconst 4, 0, 4) else none))))))) else (bif Nat.blt pc 282 then (bif Nat.blt pc 263 then (bif Nat.blt pc 254 then (bif Nat.blt pc 251 then (bif Nat.blt pc 250 then (bif Nat.beq pc 249 then some (.ishr, 0, 0) else none) else (bif Nat.beq pc 250 then some (.iconst 1, 0, 1) else none)) else (bif Nat.blt pc 252 then (bif Nat.beq pc 251 then some (.iand, 0, 0) else none) else (bif Nat.beq pc 252 then some (.istore 5, 0, 0) else none))) else (bif Nat.blt pc 257 then (bif Nat.blt pc 255 then (bif Nat.beq pc 254 then some (.aload_n 0, 0, 0) else none) else (bif Nat.beq pc 255 then some (.iload 5, 0, 0) else none)) else (bif Nat.blt pc 259 then (bif Nat.beq pc 257 then some (.iload 5, 0, 0) else none) else (bif Nat.blt pc 262 then (bif Nat.beq pc 259 then some (.ifCond .ne 15, 274, 0) else none) else (bif Nat.beq pc 262 then some (.iload_n 1, 0, 0) else none))))) else (bif Nat.blt pc 274 then (bif Nat.blt pc 265 then (bif Nat.blt pc 264 then (bif Nat.beq pc 263 then some (.iconst 5, 0, 5) else none) else (bif Nat.beq pc 264 then some (.ishr, 0, 0) else none)) else (bif Nat.blt pc 268 then (bif Nat.beq pc 265 then some (.sipush 301, 0, 301) else none) else (bif Nat.blt pc 271 then (bif Nat.beq pc 268 then some (.invokestatic 8, 0, 0) else none) else (bif Nat.beq pc 271 then some (.goto 11, 282, 0) else none)))) else (bif Nat.blt pc 276 then (bif Nat.blt pc 275 then (bif Nat.beq pc 274 then some (.iload_n 1, 0, 0) else none) else (bif Nat.beq pc 275 then some (.iconst 5, 0, 5) else none)) else (bif Nat.blt pc 277 then (bif Nat.beq pc 276 then some (.ishr, 0, 0) else none) else (bif Nat.blt pc 279 then (bif Nat.beq pc 277 then some (.bipush 12, 0, 12) else none) else (bif Nat.beq pc 279 then some (.invokestatic 8, 0, 0) else none)))))) else (bif Nat.blt pc 298 then (bif Nat.blt pc 288 then (bif Nat.blt pc 286 then (bif Nat.blt pc 285 then (bif Nat.beq pc 282 then some (.invokevirtual 40, 0, 0) else none) else (bif Nat.beq pc 285 then some (.ireturn, 0, 0) else none)) else (bif Nat.blt pc 287 then (bif Nat.beq pc 286 then some (.aload_n 0, 0, 0) else none) else (bif Nat.beq pc 287 then some (.iconst 0, 0, 0) else none))) else (bif Nat.blt pc 293 then (bif Nat.blt pc 291 then (bif Nat.beq pc 288 then some (.invokevirtual 43, 0, 0) else none) else (bif Nat.beq pc 291 then some (.bipush 44, 0, 44) else none)) else (bif Nat.blt pc 296 then (bif Nat.beq pc 293 then some (.if_icmp .ge 19, 312, 0) else none) else (bif Nat.blt pc 297 then (bif Nat.beq pc 296 then some (.aload_n 0, 0, 0) else none) else (bif Nat.beq pc 297 then some (.iconst 1, 0, 1) else none))))) else (bif Nat.blt pc 305 then (bif Nat.blt pc 300 then (bif Nat.blt pc 299 then (bif Nat.beq pc 298 then some (.iload_n 1, 0, 0) else none) else (bif Nat.beq pc 299 then some (.iconst 4, 0, 4) else none)) else (bif Nat.blt pc 301 then (bif Nat.beq pc 300 then some (.ishr, 0, 0) else none) else (bif Nat.blt pc 302 then (bif Nat.beq pc 301 then some (.iconst 3, 0, 3) else none) else (bif Nat.beq pc 302 then some (.invokestatic 8, 0, 0) else none)))) else (bif Nat.blt pc 309 then (bif Nat.blt pc 306 then (bif Nat.beq pc 305 then some (.iadd, 0, 0) else none) else (bif Nat.beq pc 306 then some (.invokevirtual 46, 0, 0) else none)) else (bif Nat.blt pc 312 then (bif Nat.beq pc 309 then some (.goto 4, 313, 0) else none) else (bif Nat.blt pc 313 then (bif Nat.beq pc 312 then some (.iconst 0, 0, 0) else none) else (bif Nat.beq pc 313 then some (.ireturn, 0, 0) else none))))))))
def z_c53 (pc : Nat) : Option (Instr × Nat × Int32) := bif Nat.blt pc 314 then (bif Nat.blt pc 144 then (bif Nat.blt pc 68 then (bif Nat.blt pc 30 then (bif Nat.blt pc 12 then (bif Nat.blt pc 5 then (bif Nat.blt pc 2 then (bif Nat.blt pc 1 then (bif Nat.beq pc 0 then some (.iconst 0, 0, 0) else none) else (bif Nat.beq pc 1 then some (.istore_n 1, 0, 0) else none)) else (bif Nat.blt pc 3 then (bif Nat.beq pc 2 then some (.iconst 0, 0, 0) else none) else (bif Nat.blt pc 4 then (bif Nat.beq pc 3 then some (.istore_n 2, 0, 0) else none) else (bif Nat.beq pc 4 then some (.iconst 0, 0, 0) else none)))) else (bif Nat.blt pc 7 then (bif Nat.blt pc 6 then (bif Nat.beq pc 5 then some (.istore_n 3, 0, 0) else none) else (bif Nat.beq pc 6 then some (.iconst 0, 0, 0) else none)) else (bif Nat.blt pc 9 then (bif Nat.beq pc 7 then some (.istore 4, 0, 0) else none) else (bif Nat.blt pc 10 then (bif Nat.beq pc 9 then some (.iconst 0, 0, 0) else none) else (bif Nat.beq pc 10 then some (.istore 5, 0, 0) else none))))) else (bif Nat.blt pc 19 then (bif Nat.blt pc 15 then (bif Nat.blt pc 13 then (bif Nat.beq pc 12 then some (.iconst 0, 0, 0) else none) else (bif Nat.beq pc 13 then some (.istore 6, 0, 0) else none)) else (bif Nat.blt pc 16 then (bif Nat.beq pc 15 then some (.iconst 1, 0, 1) else none) else (bif Nat.blt pc 18 then (bif Nat.beq pc 16 then some (.istore 7, 0, 0) else none) else (bif Nat.beq pc 18 then some (.iconst 0, 0, 0) else none)))) else (bif Nat.blt pc 24 then (bif Nat.blt pc 21 then (bif Nat.beq pc 19 then some (.istore 8, 0, 0) else none) else (bif Nat.blt pc 23 then (bif Nat.beq pc 21 then some (.iload 8, 0, 0) else none) else (bif Nat.beq pc 23 then some (.iconst 4, 0, 4) else none))) else (bif Nat.blt pc 27 then (bif Nat.beq pc 24 then some (.if_icmp .ge 233, 257, 0) else none) else (bif Nat.blt pc 28 then (bif Nat.beq pc 27 then some (.aload_n 0, 0, 0) else none) else (bif Nat.beq pc 28 then some (.iload 8, 0, 0) else none)))))) else (bif Nat.blt pc 50 then (bif Nat.blt pc 39 then (bif Nat.blt pc 34 then (bif Nat.blt pc 31 then (bif Nat.beq pc 30 then some (.iconst 4, 0, 4) else none) else (bif Nat.beq pc 31 then some (.invokevirtual 14, 0, 0) else none)) else (bif Nat.blt pc 36 then (bif Nat.beq pc 34 then some (.istore 9, 0, 0) else none) else (bif Nat.blt pc 37 then (bif Nat.beq pc 36 then some (.aload_n 0, 0, 0) else none) else (bif Nat.beq pc 37 then some (.iload 8, 0, 0) else none)))) else (bif Nat.blt pc 46 then (bif Nat.blt pc 41 then (bif Nat.beq pc 39 then some (.bipush 6, 0, 6) else none) else (bif Nat.blt pc 44 then (bif Nat.beq pc 41 then some (.invokevirtual 14, 0, 0) else none) else (bif Nat.beq pc 44 then some (.istore 10, 0, 0) else none))) else (bif Nat.blt pc 47 then (bif Nat.beq pc 46 then some (.iload_n 1, 0, 0) else none) else (bif Nat.blt pc 49 then (bif Nat.beq pc 47 then some (.iload 9, 0, 0) else none) else (bif Nat.beq pc 49 then some (.iconst 2, 0, 2) else none))))) else (bif Nat.blt pc 59 then (bif Nat.blt pc 54 then (bif Nat.blt pc 53 then (bif Nat.beq pc 50 then some (.if_icmp .ne 7, 57, 0) else none) else (bif Nat.beq pc 53 then some (.iconst 1, 0, 1) else none)) else (bif Nat.blt pc 57 then (bif Nat.beq pc 54 then some (.goto 4, 58, 0) else none) else (bif Nat.blt pc 58 then (bif Nat.beq pc 57 then some (.iconst 0, 0, 0) else none) else (bif Nat.beq pc 58 then some (.iadd, 0, 0) else none)))) else (bif Nat.blt pc 63 then (bif Nat.blt pc 60 then (bif Nat.beq pc 59 then some (.istore_n 1, 0, 0) else none) else (bif Nat.blt pc 61 then (bif Nat.beq pc 60 then some (.iload_n 2, 0, 0) else none) else (bif Nat.beq pc 61 then some (.iload 9, 0, 0) else none))) else (bif Nat.blt pc 64 then (bif Nat.beq pc 63 then some (.iconst 1, 0, 1) else none) else (bif Nat.blt pc 67 then (bif Nat.beq pc 64 then some (.if_icmp .ne 7, 71, 0) else none) else (bif Nat.beq pc 67 then some (.iconst 1, 0, 1) else none))))))) else (bif Nat.blt pc 102 then (bif Nat.blt pc 84 then (bif Nat.blt pc 75 then (bif Nat.blt pc 72 then (bif Nat.blt pc 71 then (bif Nat.beq pc 68 then some (.goto 4, 72, 0) else none) else (bif Nat.beq pc 71 then some (.iconst 0, 0, 0) else none)) else (bif Nat.blt pc 73 then (bif Nat.beq pc 72 then some (.iadd, 0, 0) else none) else (bif Nat.blt pc 74 then (bif Nat.beq pc 73 then some (.istore_n 2, 0, 0) else none) else (bif Nat.beq pc 74 then some (.iload_n 3, 0, 0) else none)))) else (bif Nat.blt pc 78 then (bif Nat.blt pc 77 then (bif Nat.beq pc 75 then some (.iload 9, 0, 0) else none) else (bif Nat.beq pc 77 then some (.iconst 2, 0, 2) else none)) else (bif Nat.blt pc 81 then (bif Nat.beq pc 78 then some (.if_icmp .ne 16, 94, 0) else none) else (bif Nat.blt pc 82 then (bif Nat.beq pc 81 then some (.aload_n 0, 0, 0) else none) else (bif Nat.beq pc 82 then some (.iload 8, 0, 0) else none))))) else (bif Nat.blt pc 94 then (bif Nat.blt pc 88 then (bif Nat.blt pc 85 then (bif Nat.beq pc 84 then some (.iconst 0, 0, 0) else none) else (bif Nat.beq pc 85 then some (.invokevirtual 14, 0, 0) else none)) else (bif Nat.blt pc 90 then (bif Nat.beq pc 88 then some (.iload 10, 0, 0) else none) else (bif Nat.blt pc 91 then (bif Nat.beq pc 90 then some (.isub, 0, 0) else none) else (bif Nat.beq pc 91 then some (.goto 4, 95, 0) else none)))) else (bif Nat.blt pc 97 then (bif Nat.blt pc 95 then (bif Nat.beq pc 94 then some (.iconst 0, 0, 0) else none) else (bif Nat.blt pc 96 then (bif Nat.beq pc 95 then some (.iadd, 0, 0) else none) else (bif Nat.beq pc 96 then some (.istore_n 3, 0, 0) else none))) else (bif Nat.blt pc 99 then (bif Nat.beq pc 97 then some (.iload 6, 0, 0) else none) else (bif Nat.blt pc 101 then (bif Nat.beq pc 99 then some (.iload 9, 0, 0) else none) else (bif Nat.beq pc 101 then some (.iconst 2, 0, 2) else none)))))) else (bif Nat.blt pc 123 then (bif Nat.blt pc 112 then (bif Nat.blt pc 106 then (bif Nat.blt pc 105 then (bif Nat.beq pc 102 then some (.if_icmp .ne 13, 115, 0) else none) else (bif Nat.beq pc 105 then some (.aload_n 0, 0, 0) else none)) else (bif Nat.blt pc 108 then (bif Nat.beq pc 106 then some (.iload 8, 0, 0) else none) else (bif Nat.blt pc 109 then (bif Nat.beq pc 108 then some (.iconst 0, 0, 0) else none) else (bif Nat.beq pc 109 then some (.invokevirtual 14, 0, 0) else none)))) else (bif Nat.blt pc 117 then (bif Nat.blt pc 115 then (bif Nat.beq pc 112 then some (.goto 4, 116, 0) else none) else (bif Nat.blt pc 116 then (bif Nat.beq pc 115 then some (.iconst 0, 0, 0) else none) else (bif Nat.beq pc 116 then some (.iadd, 0, 0) else none))) else (bif Nat.blt pc 119 then (bif Nat.beq pc 117 then some (.istore 6, 0, 0) else none) else (bif Nat.blt pc 121 then (bif Nat.beq pc 119 then some (.iload 4, 0, 0) else none) else (bif Nat.beq pc 121 then some (.iload 10, 0, 0) else none))))) else (bif Nat.blt pc 131 then (bif Nat.blt pc 126 then (bif Nat.blt pc 124 then (bif Nat.beq pc 123 then some (.iadd, 0, 0) else none) else (bif Nat.beq pc 124 then some (.istore 4, 0, 0) else none)) else (bif Nat.blt pc 128 then (bif Nat.beq pc 126 then some (.iload 5, 0, 0) else none) else (bif Nat.blt pc 129 then (bif Nat.beq pc 128 then some (.aload_n 0, 0, 0) else none) else (bif Nat.beq pc 129 then some (.iload 8, 0, 0) else none)))) else (bif Nat.blt pc 137 then (bif Nat.blt pc 133 then (bif Nat.beq pc 131 then some (.bipush 7, 0, 7) else none) else (bif Nat.blt pc 136 then (bif Nat.beq pc 133 then some (.invokevirtual 14, 0, 0) else none) else (bif Nat.beq pc 136 then some (.iadd, 0, 0) else none))) else (bif Nat.blt pc 139 then (bif Nat.beq pc 137 then some (.istore 5, 0, 0) else none) else (bif Nat.blt pc 141 then (bif Nat.beq pc 139 then some (.iload 7, 0, 0) else none) else (bif Nat.beq pc 141 then some (.ifCond .eq 107, 248, 0) else none)))))))) else (bif Nat.blt pc 229 then (bif Nat.blt pc 188 then (bif Nat.blt pc 164 then (bif Nat.blt pc 153 then (bif Nat.blt pc 147 then (bif Nat.blt pc 146 then (bif Nat.beq pc 144 then some (.iload 9, 0, 0) else none) else (bif Nat.beq pc 146 then some (.iconst 2, 0, 2) else none)) else (bif Nat.blt pc 150 then (bif Nat.beq pc 147 then some (.if_icmp .ne 30, 177, 0) else none) else (bif Nat.blt pc 152 then (bif Nat.beq pc 150 then some (.iload 10, 0, 0) else none) else (bif Nat.beq pc 152 then some (.aload_n 0, 0, 0) else none)))) else (bif Nat.blt pc 156 then (bif Nat.blt pc 155 then (bif Nat.beq pc 153 then some (.iload 8, 0, 0) else none) else (bif Nat.beq pc 155 then some (.iconst 1, 0, 1) else none)) else (bif Nat.blt pc 159 then (bif Nat.beq pc 156 then some (.invokevirtual 14, 0, 0) else none) else (bif Nat.blt pc 162 then (bif Nat.beq pc 159 then some (.if_icmp .lt 89, 248, 0) else none) else (bif Nat.beq pc 162 then some (.iload 10, 0, 0) else none))))) else (bif Nat.blt pc 174 then (bif Nat.blt pc 167 then (bif Nat.blt pc 165 then (bif Nat.beq pc 164 then some (.aload_n 0, 0, 0) else none) else (bif Nat.beq pc 165 then some (.iload 8, 0, 0) else none)) else (bif Nat.blt pc 168 then (bif Nat.beq pc 167 then some (.iconst 0, 0, 0) else none) else (bif Nat.blt pc 171 then (bif Nat.beq pc 168 then some (.invokevirtual 14, 0, 0) else none) else (bif Nat.beq pc 171 then some (.if_icmp .gt 77, 248, 0) else none)))) else (bif Nat.blt pc 182 then (bif Nat.blt pc 177 then (bif Nat.beq pc 174 then some (.goto 8, 182, 0) else none) else (bif Nat.blt pc 179 then (bif Nat.beq pc 177 then some (.iload 10, 0, 0) else none) else (bif Nat.beq pc 179 then some (.ifCond .ne 69, 248, 0) else none))) else (bif Nat.blt pc 184 then (bif Nat.beq pc 182 then some (.iload 9, 0, 0) else none) else (bif Nat.blt pc 185 then (bif Nat.beq pc 184 then some (.iconst 1, 0, 1) else none) else (bif Nat.beq pc 185 then some (.if_icmp .ne 7, 192, 0) else none)))))) else (bif Nat.blt pc 208 then (bif Nat.blt pc 196 then (bif Nat.blt pc 192 then (bif Nat.blt pc 189 then (bif Nat.beq pc 188 then some (.iconst 1, 0, 1) else none) else (bif Nat.beq pc 189 then some (.goto 4, 193, 0) else none)) else (bif Nat.blt pc 193 then (bif Nat.beq pc 192 then some (.iconst 0, 0, 0) else none) else (bif Nat.blt pc 194 then (bif Nat.beq pc 193 then some (.aload_n 0, 0, 0) else none) else (bif Nat.beq pc 194 then some (.iload 8, 0, 0) else none)))) else (bif Nat.blt pc 203 then (bif Nat.blt pc 197 then (bif Nat.beq pc 196 then some (.iconst 5, 0, 5) else none) else (bif Nat.blt pc 200 then (bif Nat.beq pc 197 then some (.invokevirtual 14, 0, 0) else none) else (bif Nat.beq pc 200 then some (.ifCond .le 7, 207, 0) else none))) else (bif Nat.blt pc 204 then (bif Nat.beq pc 203 then some (.iconst 1, 0, 1) else none) else (bif Nat.blt pc 207 then (bif Nat.beq pc 204 then some (.goto 4, 208, 0) else none) else (bif Nat.beq pc 207 then some (.iconst 0, 0, 0) else none))))) else (bif Nat.blt pc 218 then (bif Nat.blt pc 212 then (bif Nat.blt pc 211 then (bif Nat.beq pc 208 then some (.if_icmp .ne 40, 248, 0) else none) else (bif Nat.beq pc 211 then some (.aload_n 0, 0, 0) else none)) else (bif Nat.blt pc 214 then (bif Nat.beq pc 212 then some (.iload 8, 0, 0) else none) else (bif Nat.blt pc 215 then (bif Nat.beq pc 214 then some (.iconst 5, 0, 5) else none) else (bif Nat.beq pc 215 then some (.invokevirtual 14, 0, 0) else none)))) else (bif Nat.blt pc 222 then (bif Nat.blt pc 219 then (bif Nat.beq pc 218 then some (.aload_n 0, 0, 0) else none) else (bif Nat.blt pc 221 then (bif Nat.beq pc 219 then some (.iload 8, 0, 0) else none) else (bif Nat.beq pc 221 then some (.iconst 3, 0, 3) else none))) else (bif Nat.blt pc 225 then (bif Nat.beq pc 222 then some (.invokevirtual 14, 0, 0) else none) else (bif Nat.blt pc 228 then (bif Nat.beq pc 225 then some (.if_icmp .gt 23, 248, 0) else none) else (bif Nat.beq pc 228 then some (.aload_n 0, 0, 0) else none))))))) else (bif Nat.blt pc 273 then (bif Nat.blt pc 251 then (bif Nat.blt pc 238 then (bif Nat.blt pc 233 then (bif Nat.blt pc 231 then (bif Nat.beq pc 229 then some (.iload 8, 0, 0) else none) else (bif Nat.beq pc 231 then some (.bipush 8, 0, 8) else none)) else (bif Nat.blt pc 236 then (bif Nat.beq pc 233 then some (.invokevirtual 14, 0, 0) else none) else (bif Nat.blt pc 237 then (bif Nat.beq pc 236 then some (.aload_n 0, 0, 0) else none) else (bif Nat.beq pc 237 then some (.iconst 0, 0, 0) else none)))) else (bif Nat.blt pc 245 then (bif Nat.blt pc 241 then (bif Nat.beq pc 238 then some (.invokevirtual 43, 0, 0) else none) else (bif Nat.blt pc 244 then (bif Nat.beq pc 241 then some (.if_icmp .gt 7, 248, 0) else none) else (bif Nat.beq pc 244 then some (.iconst 1, 0, 1) else none))) else (bif Nat.blt pc 248 then (bif Nat.beq pc 245 then some (.goto 4, 249, 0) else none) else (bif Nat.blt pc 249 then (bif Nat.beq pc 248 then some (.iconst 0, 0, 0) else none) else (bif Nat.beq pc 249 then some (.istore 7, 0, 0) else none))))) else (bif Nat.blt pc 262 then (bif Nat.blt pc 257 then (bif Nat.blt pc 254 then (bif Nat.beq pc 251 then some (.iinc 8 1, 0, 1) else none) else (bif Nat.beq pc 254 then some (.goto (-233), 21, 0) else none)) else (bif Nat.blt pc 258 then (bif Nat.beq pc 257 then some (.aload_n 0, 0, 0) else none) else (bif Nat.blt pc 259 then (bif Nat.beq pc 258 then some (.iconst 4, 0, 4) else none) else (bif Nat.beq pc 259 then some (.invokevirtual 43, 0, 0) else none)))) else (bif Nat.blt pc 269 then (bif Nat.blt pc 265 then (bif Nat.beq pc 262 then some (.ifCond .ne 7, 269, 0) else none) else (bif Nat.blt pc 266 then (bif Nat.beq pc 265 then some (.iconst 1, 0, 1) else none) else (bif Nat.beq pc 266 then some (.goto 4, 270, 0) else none))) else (bif Nat.blt pc 270 then (bif Nat.beq pc 269 then some (.iconst 0, 0, 0) else none) else (bif Nat.blt pc 272 then (bif Nat.beq pc 270 then some (.istore 8, 0, 0) else none) else (bif Nat.beq pc 272 then some (.iconst 0, 0, 0) else none)))))) else (bif Nat.blt pc 294 then (bif Nat.blt pc 282 then (bif Nat.blt pc 277 then (bif Nat.blt pc 275 then (bif Nat.beq pc 273 then some (.istore 9, 0, 0) else none) else (bif Nat.beq pc 275 then some (.iload 9, 0, 0) else none)) else (bif Nat.blt pc 278 then (bif Nat.beq pc 277 then some (.iconst 4, 0, 4) else none) else (bif Nat.blt pc 281 then (bif Nat.beq pc 278 then some (.if_icmp .ge 116, 394, 0) else none) else (bif Nat.beq pc 281 then some (.aload_n 0, 0, 0) else none)))) else (bif Nat.blt pc 289 then (bif Nat.blt pc 284 then (bif Nat.beq pc 282 then some (.iload 9, 0, 0) else none) else (bif Nat.blt pc 287 then (bif Nat.beq pc 284 then some (.invokevirtual 49, 0, 0) else none) else (bif Nat.beq pc 287 then some (.istore 10, 0, 0) else none))) else (bif Nat.blt pc 291 then (bif Nat.beq pc 289 then some (.iload 6, 0, 0) else none) else (bif Nat.blt pc 292 then (bif Nat.beq pc 291 then some (.aload_n 0, 0, 0) else none) else (bif Nat.beq pc 292 then some (.iload 9, 0, 0) else none))))) else (bif Nat.blt pc 303 then (bif Nat.blt pc 298 then (bif Nat.blt pc 295 then (bif Nat.beq pc 294 then some (.iconst 4, 0, 4) else none) else (bif Nat.beq pc 295 then some (.invokevirtual 14, 0, 0) else none)) else (bif Nat.blt pc 299 then (bif Nat.beq pc 298 then some (.iconst 2, 0, 2) else none) else (bif Nat.blt pc 302 then (bif Nat.beq pc 299 then some (.if_icmp .ne 13, 312, 0) else none) else (bif Nat.beq pc 302 then some (.aload_n 0, 0, 0) else none)))) else (bif Nat.blt pc 309 then (bif Nat.blt pc 305 then (bif Nat.beq pc 303 then some (.iload 9, 0, 0) else none) else (bif Nat.blt pc 306 then (bif Nat.beq pc 305 then some (.iconst 0, 0, 0) else none) else (bif Nat.beq pc 306 then some (.invokevirtual 14, 0, 0) else none))) else (bif Nat.blt pc 312 then (bif Nat.beq pc 309 then some (.goto 4, 313, 0) else none) else (bif Nat.blt pc 313 then (bif Nat.beq pc 312 then some (.iconst 0, 0, 0) else none) else (bif Nat.beq pc 313 then some (.isub, 0, 0) else none))))))))) else (bif Nat.blt pc 482 then (bif Nat.blt pc 399 then (bif Nat.blt pc 356 then (bif Nat.blt pc 334 then (bif Nat.blt pc 324 then (bif Nat.blt pc 318 then (bif Nat.blt pc 316 then (bif Nat.beq pc 314 then some (.istore 11, 0, 0) else none) else (bif Nat.beq pc 316 then some (.iload 8, 0, 0) else none)) else (bif Nat.blt pc 321 then (bif Nat.beq pc 318 then some (.ifCond .eq 28, 346, 0) else none) else (bif Nat.blt pc 322 then (bif Nat.beq pc 321 then some (.aload_n 0, 0, 0) else none) else (bif Nat.beq pc 322 then some (.iload 9, 0, 0) else none)))) else (bif Nat.blt pc 328 then (bif Nat.blt pc 325 then (bif Nat.beq pc 324 then some (.iconst 4, 0, 4) else none) else (bif Nat.beq pc 325 then some (.invokevirtual 14, 0, 0) else none)) else (bif Nat.blt pc 329 then (bif Nat.beq pc 328 then some (.iconst 2, 0, 2) else none) else (bif Nat.blt pc 332 then (bif Nat.beq pc 329 then some (.if_icmp .ne 13, 342, 0) else none) else (bif Nat.beq pc 332 then some (.iload 11, 0, 0) else none))))) else (bif Nat.blt pc 343 then (bif Nat.blt pc 336 then (bif Nat.blt pc 335 then (bif Nat.beq pc 334 then some (.aload_n 0, 0, 0) else none) else (bif Nat.beq pc 335 then some (.iconst 3, 0, 3) else none)) else (bif Nat.blt pc 339 then (bif Nat.beq pc 336 then some (.invokevirtual 43, 0, 0) else none) else (bif Nat.blt pc 342 then (bif Nat.beq pc 339 then some (.if_icmp .lt 7, 346, 0) else none) else (bif Nat.beq pc 342 then some (.iconst 1, 0, 1) else none)))) else (bif Nat.blt pc 349 then (bif Nat.blt pc 346 then (bif Nat.beq pc 343 then some (.goto 4, 347, 0) else none) else (bif Nat.blt pc 347 then (bif Nat.beq pc 346 then some (.iconst 0, 0, 0) else none) else (bif Nat.beq pc 347 then some (.istore 8, 0, 0) else none))) else (bif Nat.blt pc 351 then (bif Nat.beq pc 349 then some (.iload 7, 0, 0) else none) else (bif Nat.blt pc 354 then (bif Nat.beq pc 351 then some (.ifCond .eq 34, 385, 0) else none) else (bif Nat.beq pc 354 then some (.iload 10, 0, 0) else none)))))) else (bif Nat.blt pc 377 then (bif Nat.blt pc 366 then (bif Nat.blt pc 359 then (bif Nat.blt pc 358 then (bif Nat.beq pc 356 then some (.iload 11, 0, 0) else none) else (bif Nat.beq pc 358 then some (.aload_n 0, 0, 0) else none)) else (bif Nat.blt pc 360 then (bif Nat.beq pc 359 then some (.iconst 3, 0, 3) else none) else (bif Nat.blt pc 363 then (bif Nat.beq pc 360 then some (.invokevirtual 43, 0, 0) else none) else (bif Nat.beq pc 363 then some (.if_icmp .ge 14, 377, 0) else none)))) else (bif Nat.blt pc 371 then (bif Nat.blt pc 367 then (bif Nat.beq pc 366 then some (.aload_n 0, 0, 0) else none) else (bif Nat.blt pc 368 then (bif Nat.beq pc 367 then some (.iconst 3, 0, 3) else none) else (bif Nat.beq pc 368 then some (.invokevirtual 43, 0, 0) else none))) else (bif Nat.blt pc 373 then (bif Nat.beq pc 371 then some (.iload 11, 0, 0) else none) else (bif Nat.blt pc 374 then (bif Nat.beq pc 373 then some (.isub, 0, 0) else none) else (bif Nat.beq pc 374 then some (.goto 4, 378, 0) else none))))) else (bif Nat.blt pc 386 then (bif Nat.blt pc 381 then (bif Nat.blt pc 378 then (bif Nat.beq pc 377 then some (.iconst 0, 0, 0) else none) else (bif Nat.beq pc 378 then some (.if_icmp .ne 7, 385, 0) else none)) else (bif Nat.blt pc 382 then (bif Nat.beq pc 381 then some (.iconst 1, 0, 1) else none) else (bif Nat.blt pc 385 then (bif Nat.beq pc 382 then some (.goto 4, 386, 0) else none) else (bif Nat.beq pc 385 then some (.iconst 0, 0, 0) else none)))) else (bif Nat.blt pc 394 then (bif Nat.blt pc 388 then (bif Nat.beq pc 386 then some (.istore 7, 0, 0) else none) else (bif Nat.blt pc 391 then (bif Nat.beq pc 388 then some (.iinc 9 1, 0, 1) else none) else (bif Nat.beq pc 391 then some (.goto (-116), 275, 0) else none))) else (bif Nat.blt pc 395 then (bif Nat.beq pc 394 then some (.iconst 0, 0, 0) else none) else (bif Nat.blt pc 397 then (bif Nat.beq pc 395 then some (.istore 9, 0, 0) else none) else (bif Nat.beq pc 397 then some (.iload 9, 0, 0) else none))))))) else (bif Nat.blt pc 438 then (bif Nat.blt pc 419 then (bif Nat.blt pc 408 then (bif Nat.blt pc 403 then (bif Nat.blt pc 400 then (bif Nat.beq pc 399 then some (.iconst 4, 0, 4) else none) else (bif Nat.beq pc 400 then some (.if_icmp .ge 147, 547, 0) else none)) else (bif Nat.blt pc 404 then (bif Nat.beq pc 403 then some (.iconst 0, 0, 0) else none) else (bif Nat.blt pc 406 then (bif Nat.beq pc 404 then some (.istore 10, 0, 0) else none) else (bif Nat.beq pc 406 then some (.iload 10, 0, 0) else none)))) else (bif Nat.blt pc 413 then (bif Nat.blt pc 409 then (bif Nat.beq pc 408 then some (.iconst 4, 0, 4) else none) else (bif Nat.blt pc 412 then (bif Nat.beq pc 409 then some (.if_icmp .ge 132, 541, 0) else none) else (bif Nat.beq pc 412 then some (.aload_n 0, 0, 0) else none))) else (bif Nat.blt pc 415 then (bif Nat.beq pc 413 then some (.iload 9, 0, 0) else none) else (bif Nat.blt pc 416 then (bif Nat.beq pc 415 then some (.iconst 4, 0, 4) else none) else (bif Nat.beq pc 416 then some (.invokevirtual 14, 0, 0) else none))))) else (bif Nat.blt pc 427 then (bif Nat.blt pc 423 then (bif Nat.blt pc 420 then (bif Nat.beq pc 419 then some (.iconst 2, 0, 2) else none) else (bif Nat.beq pc 420 then some (.if_icmp .ne 59, 479, 0) else none)) else (bif Nat.blt pc 424 then (bif Nat.beq pc 423 then some (.aload_n 0, 0, 0) else none) else (bif Nat.blt pc 426 then (bif Nat.beq pc 424 then some (.iload 10, 0, 0) else none) else (bif Nat.beq pc 426 then some (.iconst 4, 0, 4) else none)))) else (bif Nat.blt pc 434 then (bif Nat.blt pc 430 then (bif Nat.beq pc 427 then some (.invokevirtual 14, 0, 0) else none) else (bif Nat.blt pc 431 then (bif Nat.beq pc 430 then some (.iconst 2, 0, 2) else none) else (bif Nat.beq pc 431 then some (.if_icmp .ne 48, 479, 0) else none))) else (bif Nat.blt pc 435 then (bif Nat.beq pc 434 then some (.aload_n 0, 0, 0) else none) else (bif Nat.blt pc 437 then (bif Nat.beq pc 435 then some (.iload 9, 0, 0) else none) else (bif Nat.beq pc 437 then some (.iconst 2, 0, 2) else none)))))) else (bif Nat.blt pc 459 then (bif Nat.blt pc 448 then (bif Nat.blt pc 442 then (bif Nat.blt pc 441 then (bif Nat.beq pc 438 then some (.invokevirtual 14, 0, 0) else none) else (bif Nat.beq pc 441 then some (.aload_n 0, 0, 0) else none)) else (bif Nat.blt pc 444 then (bif Nat.beq pc 442 then some (.iload 10, 0, 0) else none) else (bif Nat.blt pc 445 then (bif Nat.beq pc 444 then some (.iconst 2, 0, 2) else none) else (bif Nat.beq pc 445 then some (.invokevirtual 14, 0, 0) else none)))) else (bif Nat.blt pc 454 then (bif Nat.blt pc 451 then (bif Nat.beq pc 448 then some (.if_icmp .lt 27, 475, 0) else none) else (bif Nat.blt pc 452 then (bif Nat.beq pc 451 then some (.aload_n 0, 0, 0) else none) else (bif Nat.beq pc 452 then some (.iload 9, 0, 0) else none))) else (bif Nat.blt pc 455 then (bif Nat.beq pc 454 then some (.iconst 2, 0, 2) else none) else (bif Nat.blt pc 458 then (bif Nat.beq pc 455 then some (.invokevirtual 14, 0, 0) else none) else (bif Nat.beq pc 458 then some (.aload_n 0, 0, 0) else none))))) else (bif Nat.blt pc 470 then (bif Nat.blt pc 462 then (bif Nat.blt pc 461 then (bif Nat.beq pc 459 then some (.iload 10, 0, 0) else none) else (bif Nat.beq pc 461 then some (.iconst 2, 0, 2) else none)) else (bif Nat.blt pc 465 then (bif Nat.beq pc 462 then some (.invokevirtual 14, 0, 0) else none) else (bif Nat.blt pc 468 then (bif Nat.beq pc 465 then some (.if_icmp .ne 14, 479, 0) else none) else (bif Nat.beq pc 468 then some (.iload 9, 0, 0) else none)))) else (bif Nat.blt pc 476 then (bif Nat.blt pc 472 then (bif Nat.beq pc 470 then some (.iload 10, 0, 0) else none) else (bif Nat.blt pc 475 then (bif Nat.beq pc 472 then some (.if_icmp .ge 7, 479, 0) else none) else (bif Nat.beq pc 475 then some (.iconst 1, 0, 1) else none))) else (bif Nat.blt pc 479 then (bif Nat.beq pc 476 then some (.goto 4, 480, 0) else none) else (bif Nat.blt pc 480 then (bif Nat.beq pc 479 then some (.iconst 0, 0, 0) else none) else (bif Nat.beq pc 480 then some (.istore 11, 0, 0) else none)))))))) else (bif Nat.blt pc 571 then (bif Nat.blt pc 525 then (bif Nat.blt pc 503 then (bif Nat.blt pc 493 then (bif Nat.blt pc 487 then (bif Nat.blt pc 484 then (bif Nat.beq pc 482 then some (.iload 7, 0, 0) else none) else (bif Nat.beq pc 484 then some (.ifCond .eq 48, 532, 0) else none)) else (bif Nat.blt pc 489 then (bif Nat.beq pc 487 then some (.iload 11, 0, 0) else none) else (bif Nat.blt pc 492 then (bif Nat.beq pc 489 then some (.ifCond .eq 39, 528, 0) else none) else (bif Nat.beq pc 492 then some (.aload_n 0, 0, 0) else none)))) else (bif Nat.blt pc 497 then (bif Nat.blt pc 495 then (bif Nat.beq pc 493 then some (.iload 10, 0, 0) else none) else (bif Nat.beq pc 495 then some (.bipush 6, 0, 6) else none)) else (bif Nat.blt pc 500 then (bif Nat.beq pc 497 then some (.invokevirtual 14, 0, 0) else none) else (bif Nat.blt pc 501 then (bif Nat.beq pc 500 then some (.aload_n 0, 0, 0) else none) else (bif Nat.beq pc 501 then some (.iload 10, 0, 0) else none))))) else (bif Nat.blt pc 513 then (bif Nat.blt pc 507 then (bif Nat.blt pc 504 then (bif Nat.beq pc 503 then some (.iconst 1, 0, 1) else none) else (bif Nat.beq pc 504 then some (.invokevirtual 14, 0, 0) else none)) else (bif Nat.blt pc 510 then (bif Nat.beq pc 507 then some (.if_icmp .eq 21, 528, 0) else none) else (bif Nat.blt pc 511 then (bif Nat.beq pc 510 then some (.aload_n 0, 0, 0) else none) else (bif Nat.beq pc 511 then some (.iload 9, 0, 0) else none)))) else (bif Nat.blt pc 519 then (bif Nat.blt pc 515 then (bif Nat.beq pc 513 then some (.bipush 6, 0, 6) else none) else (bif Nat.blt pc 518 then (bif Nat.beq pc 515 then some (.invokevirtual 14, 0, 0) else none) else (bif Nat.beq pc 518 then some (.aload_n 0, 0, 0) else none))) else (bif Nat.blt pc 521 then (bif Nat.beq pc 519 then some (.iload 9, 0, 0) else none) else (bif Nat.blt pc 522 then (bif Nat.beq pc 521 then some (.iconst 0, 0, 0) else none) else (bif Nat.beq pc 522 then some (.invokevirtual 14, 0, 0) else none)))))) else (bif Nat.blt pc 552 then (bif Nat.blt pc 535 then (bif Nat.blt pc 529 then (bif Nat.blt pc 528 then (bif Nat.beq pc 525 then some (.if_icmp .ne 7, 532, 0) else none) else (bif Nat.beq pc 528 then some (.iconst 1, 0, 1) else none)) else (bif Nat.blt pc 532 then (bif Nat.beq pc 529 then some (.goto 4, 533, 0) else none) else (bif Nat.blt pc 533 then (bif Nat.beq pc 532 then some (.iconst 0, 0, 0) else none) else (bif Nat.beq pc 533 then some (.istore 7, 0, 0) else none)))) else (bif Nat.blt pc 544 then (bif Nat.blt pc 538 then (bif Nat.beq pc 535 then some (.iinc 10 1, 0, 1) else none) else (bif Nat.blt pc 541 then (bif Nat.beq pc 538 then some (.goto (-132), 406, 0) else none) else (bif Nat.beq pc 541 then some (.iinc 9 1, 0, 1) else none))) else (bif Nat.blt pc 547 then (bif Nat.beq pc 544 then some (.goto (-147), 397, 0) else none) else (bif Nat.blt pc 549 then (bif Nat.beq pc 547 then some (.iload 7, 0, 0) else none) else (bif Nat.beq pc 549 then some (.ifCond .eq 104, 653, 0) else none))))) else (bif Nat.blt pc 561 then (bif Nat.blt pc 554 then (bif Nat.blt pc 553 then (bif Nat.beq pc 552 then some (.iload_n 1, 0, 0) else none) else (bif Nat.beq pc 553 then some (.aload_n 0, 0, 0) else none)) else (bif Nat.blt pc 555 then (bif Nat.beq pc 554 then some (.iconst 1, 0, 1) else none) else (bif Nat.blt pc 558 then (bif Nat.beq pc 555 then some (.invokevirtual 43, 0, 0) else none) else (bif Nat.beq pc 558 then some (.if_icmp .ne 95, 653, 0) else none)))) else (bif Nat.blt pc 564 then (bif Nat.blt pc 562 then (bif Nat.beq pc 561 then some (.iload_n 2, 0, 0) else none) else (bif Nat.blt pc 563 then (bif Nat.beq pc 562 then some (.aload_n 0, 0, 0) else none) else (bif Nat.beq pc 563 then some (.iconst 2, 0, 2) else none))) else (bif Nat.blt pc 567 then (bif Nat.beq pc 564 then some (.invokevirtual 43, 0, 0) else none) else (bif Nat.blt pc 570 then (bif Nat.beq pc 567 then some (.if_icmp .ne 86, 653, 0) else none) else (bif Nat.beq pc 570 then some (.iload_n 3, 0, 0) else none))))))) else (bif Nat.blt pc 613 then (bif Nat.blt pc 594 then (bif Nat.blt pc 582 then (bif Nat.blt pc 574 then (bif Nat.blt pc 572 then (bif Nat.beq pc 571 then some (.aload_n 0, 0, 0) else none) else (bif Nat.beq pc 572 then some (.bipush 6, 0, 6) else none)) else (bif Nat.blt pc 577 then (bif Nat.beq pc 574 then some (.invokevirtual 43, 0, 0) else none) else (bif Nat.blt pc 580 then (bif Nat.beq pc 577 then some (.if_icmp .ne 76, 653, 0) else none) else (bif Nat.beq pc 580 then some (.iload 5, 0, 0) else none)))) else (bif Nat.blt pc 588 then (bif Nat.blt pc 583 then (bif Nat.beq pc 582 then some (.aload_n 0, 0, 0) else none) else (bif Nat.blt pc 585 then (bif Nat.beq pc 583 then some (.bipush 13, 0, 13) else none) else (bif Nat.beq pc 585 then some (.invokevirtual 43, 0, 0) else none))) else (bif Nat.blt pc 591 then (bif Nat.beq pc 588 then some (.if_icmp .ne 65, 653, 0) else none) else (bif Nat.blt pc 593 then (bif Nat.beq pc 591 then some (.iload 4, 0, 0) else none) else (bif Nat.beq pc 593 then some (.aload_n 0, 0, 0) else none))))) else (bif Nat.blt pc 601 then (bif Nat.blt pc 598 then (bif Nat.blt pc 595 then (bif Nat.beq pc 594 then some (.iconst 4, 0, 4) else none) else (bif Nat.beq pc 595 then some (.invokevirtual 43, 0, 0) else none)) else (bif Nat.blt pc 599 then (bif Nat.beq pc 598 then some (.iadd, 0, 0) else none) else (bif Nat.blt pc 600 then (bif Nat.beq pc 599 then some (.aload_n 0, 0, 0) else none) else (bif Nat.beq pc 600 then some (.iconst 3, 0, 3) else none)))) else (bif Nat.blt pc 606 then (bif Nat.blt pc 604 then (bif Nat.beq pc 601 then some (.invokevirtual 43, 0, 0) else none) else (bif Nat.blt pc 605 then (bif Nat.beq pc 604 then some (.aload_n 0, 0, 0) else none) else (bif Nat.beq pc 605 then some (.iconst 5, 0, 5) else none))) else (bif Nat.blt pc 609 then (bif Nat.beq pc 606 then some (.invokevirtual 43, 0, 0) else none) else (bif Nat.blt pc 610 then (bif Nat.beq pc 609 then some (.iadd, 0, 0) else none) else (bif Nat.beq pc 610 then some (.if_icmp .ne 43, 653, 0) else none)))))) else (bif Nat.blt pc 635 then (bif Nat.blt pc 622 then (bif Nat.blt pc 615 then (bif Nat.blt pc 614 then (bif Nat.beq pc 613 then some (.aload_n 0, 0, 0) else none) else (bif Nat.beq pc 614 then some (.iconst 4, 0, 4) else none)) else (bif Nat.blt pc 618 then (bif Nat.beq pc 615 then some (.invokevirtual 43, 0, 0) else none) else (bif Nat.blt pc 621 then (bif Nat.beq pc 618 then some (.ifCond .eq 11, 629, 0) else none) else (bif Nat.beq pc 621 then some (.aload_n 0, 0, 0) else none)))) else (bif Nat.blt pc 629 then (bif Nat.blt pc 623 then (bif Nat.beq pc 622 then some (.iconst 5, 0, 5) else none) else (bif Nat.blt pc 626 then (bif Nat.beq pc 623 then some (.invokevirtual 43, 0, 0) else none) else (bif Nat.beq pc 626 then some (.ifCond .ne 27, 653, 0) else none))) else (bif Nat.blt pc 630 then (bif Nat.beq pc 629 then some (.aload_n 0, 0, 0) else none) else (bif Nat.blt pc 632 then (bif Nat.beq pc 630 then some (.bipush 7, 0, 7) else none) else (bif Nat.beq pc 632 then some (.invokevirtual 43, 0, 0) else none))))) else (bif Nat.blt pc 644 then (bif Nat.blt pc 639 then (bif Nat.blt pc 636 then (bif Nat.beq pc 635 then some (.iconst 1, 0, 1) else none) else (bif Nat.beq pc 636 then some (.if_icmp .ne 7, 643, 0) else none)) else (bif Nat.blt pc 640 then (bif Nat.beq pc 639 then some (.iconst 1, 0, 1) else none) else (bif Nat.blt pc 643 then (bif Nat.beq pc 640 then some (.goto 4, 644, 0) else none) else (bif Nat.beq pc 643 then some (.iconst 0, 0, 0) else none)))) else (bif Nat.blt pc 650 then (bif Nat.blt pc 646 then (bif Nat.beq pc 644 then some (.iload 8, 0, 0) else none) else (bif Nat.blt pc 649 then (bif Nat.beq pc 646 then some (.if_icmp .ne 7, 653, 0) else none) else (bif Nat.beq pc 649 then some (.iconst 1, 0, 1) else none))) else (bif Nat.blt pc 653 then (bif Nat.beq pc 650 then some (.goto 4, 654, 0) else none) else (bif Nat.blt pc 654 then (bif Nat.beq pc 653 then some (.iconst 0, 0, 0) else none) else (bif Nat.beq pc 654 then some (.ireturn, 0, 0) else none)))))))))
def z_c54 (pc : Nat) : Option (Instr × Nat × Int32) := bif Nat.blt pc 119 then (bif Nat.blt pc 57 then (bif Nat.blt pc 28 then (bif Nat.blt pc 11 then (bif Nat.blt pc 4 then (bif Nat.blt pc 2 then (bif Nat.blt pc 1 then (bif Nat.beq pc 0 then some (.iconst 0, 0, 0) else none) else (bif Nat.beq pc 1 then some (.istore_n 1, 0, 0) else none)) else (bif Nat.blt pc 3 then (bif Nat.beq pc 2 then some (.iconst 0, 0, 0) else none) else (bif Nat.beq pc 3 then some (.istore_n 2, 0, 0) else none))) else (bif Nat.blt pc 7 then (bif Nat.blt pc 5 then (bif Nat.beq pc 4 then some (.aload_n 0, 0, 0) else none) else (bif Nat.beq pc 5 then some (.bipush 12, 0, 12) else none)) else (bif Nat.blt pc 10 then (bif Nat.beq pc 7 then some (.invokevirtual 43, 0, 0) else none) else (bif Nat.beq pc 10 then some (.aload_n 0, 0, 0) else none)))) else (bif Nat.blt pc 20 then (bif Nat.blt pc 16 then (bif Nat.blt pc 13 then (bif Nat.beq pc 11 then some (.bipush 11, 0, 11) else none) else (bif Nat.beq pc 13 then some (.invokevirtual 43, 0, 0) else none)) else (bif Nat.blt pc 19 then (bif Nat.beq pc 16 then some (.if_icmp .lt 25, 41, 0) else none) else (bif Nat.beq pc 19 then some (.aload_n 0, 0, 0) else none))) else (bif Nat.blt pc 24 then (bif Nat.blt pc 23 then (bif Nat.beq pc 20 then some (.invokevirtual 52, 0, 0) else none) else (bif Nat.beq pc 23 then some (.dconst 0, 0, 0) else none)) else (bif Nat.blt pc 25 then (bif Nat.beq pc 24 then some (.dcmp .l, 0, 0) else none) else (bif Nat.beq pc 25 then some (.ifCond .lt 16, 41, 0) else none))))) else (bif Nat.blt pc 42 then (bif Nat.blt pc 34 then (bif Nat.blt pc 32 then (bif Nat.blt pc 29 then (bif Nat.beq pc 28 then some (.aload_n 0, 0, 0) else none) else (bif Nat.beq pc 29 then some (.invokevirtual 52, 0, 0) else none)) else (bif Nat.blt pc 33 then (bif Nat.beq pc 32 then some (.dconst 1, 0, 0) else none) else (bif Nat.beq pc 33 then some (.dcmp .g, 0, 0) else none))) else (bif Nat.blt pc 38 then (bif Nat.blt pc 37 then (bif Nat.beq pc 34 then some (.ifCond .gt 7, 41, 0) else none) else (bif Nat.beq pc 37 then some (.iconst 1, 0, 1) else none)) else (bif Nat.blt pc 41 then (bif Nat.beq pc 38 then some (.goto 4, 42, 0) else none) else (bif Nat.beq pc 41 then some (.iconst 0, 0, 0) else none)))) else (bif Nat.blt pc 48 then (bif Nat.blt pc 44 then (bif Nat.blt pc 43 then (bif Nat.beq pc 42 then some (.istore_n 3, 0, 0) else none) else (bif Nat.beq pc 43 then some (.iconst 0, 0, 0) else none)) else (bif Nat.blt pc 46 then (bif Nat.beq pc 44 then some (.istore 4, 0, 0) else none) else (bif Nat.beq pc 46 then some (.iload 4, 0, 0) else none))) else (bif Nat.blt pc 53 then (bif Nat.blt pc 50 then (bif Nat.beq pc 48 then some (.bipush 48, 0, 48) else none) else (bif Nat.beq pc 50 then some (.if_icmp .ge 174, 224, 0) else none)) else (bif Nat.blt pc 55 then (bif Nat.beq pc 53 then some (.iload 4, 0, 0) else none) else (bif Nat.blt pc 56 then (bif Nat.beq pc 55 then some (.aload_n 0, 0, 0) else none) else (bif Nat.beq pc 56 then some (.iconst 0, 0, 0) else none))))))) else (bif Nat.blt pc 90 then (bif Nat.blt pc 73 then (bif Nat.blt pc 67 then (bif Nat.blt pc 63 then (bif Nat.blt pc 60 then (bif Nat.beq pc 57 then some (.invokevirtual 43, 0, 0) else none) else (bif Nat.beq pc 60 then some (.if_icmp .ge 7, 67, 0) else none)) else (bif Nat.blt pc 64 then (bif Nat.beq pc 63 then some (.iconst 1, 0, 1) else none) else (bif Nat.beq pc 64 then some (.goto 4, 68, 0) else none))) else (bif Nat.blt pc 70 then (bif Nat.blt pc 68 then (bif Nat.beq pc 67 then some (.iconst 0, 0, 0) else none) else (bif Nat.beq pc 68 then some (.istore 5, 0, 0) else none)) else (bif Nat.blt pc 71 then (bif Nat.beq pc 70 then some (.aload_n 0, 0, 0) else none) else (bif Nat.beq pc 71 then some (.iload 4, 0, 0) else none)))) else (bif Nat.blt pc 80 then (bif Nat.blt pc 77 then (bif Nat.blt pc 74 then (bif Nat.beq pc 73 then some (.iconst 2, 0, 2) else none) else (bif Nat.beq pc 74 then some (.invokevirtual 56, 0, 0) else none)) else (bif Nat.blt pc 79 then (bif Nat.beq pc 77 then some (.istore 6, 0, 0) else none) else (bif Nat.beq pc 79 then some (.iload_n 1, 0, 0) else none))) else (bif Nat.blt pc 85 then (bif Nat.blt pc 82 then (bif Nat.beq pc 80 then some (.iload 5, 0, 0) else none) else (bif Nat.beq pc 82 then some (.ifCond .eq 12, 94, 0) else none)) else (bif Nat.blt pc 87 then (bif Nat.beq pc 85 then some (.iload 6, 0, 0) else none) else (bif Nat.beq pc 87 then some (.ifCond .le 7, 94, 0) else none))))) else (bif Nat.blt pc 103 then (bif Nat.blt pc 96 then (bif Nat.blt pc 94 then (bif Nat.blt pc 91 then (bif Nat.beq pc 90 then some (.iconst 1, 0, 1) else none) else (bif Nat.beq pc 91 then some (.goto 4, 95, 0) else none)) else (bif Nat.blt pc 95 then (bif Nat.beq pc 94 then some (.iconst 0, 0, 0) else none) else (bif Nat.beq pc 95 then some (.iadd, 0, 0) else none))) else (bif Nat.blt pc 98 then (bif Nat.blt pc 97 then (bif Nat.beq pc 96 then some (.istore_n 1, 0, 0) else none) else (bif Nat.beq pc 97 then some (.iload_n 2, 0, 0) else none)) else (bif Nat.blt pc 100 then (bif Nat.beq pc 98 then some (.iload 5, 0, 0) else none) else (bif Nat.beq pc 100 then some (.ifCond .eq 17, 117, 0) else none)))) else (bif Nat.blt pc 110 then (bif Nat.blt pc 106 then (bif Nat.blt pc 104 then (bif Nat.beq pc 103 then some (.aload_n 0, 0, 0) else none) else (bif Nat.beq pc 104 then some (.iload 4, 0, 0) else none)) else (bif Nat.blt pc 107 then (bif Nat.beq pc 106 then some (.iconst 5, 0, 5) else none) else (bif Nat.beq pc 107 then some (.invokevirtual 56, 0, 0) else none))) else (bif Nat.blt pc 114 then (bif Nat.blt pc 113 then (bif Nat.beq pc 110 then some (.ifCond .ne 7, 117, 0) else none) else (bif Nat.beq pc 113 then some (.iconst 1, 0, 1) else none)) else (bif Nat.blt pc 117 then (bif Nat.beq pc 114 then some (.goto 4, 118, 0) else none) else (bif Nat.blt pc 118 then (bif Nat.beq pc 117 then some (.iconst 0, 0, 0) else none) else (bif Nat.beq pc 118 then some (.iadd, 0, 0) else none)))))))) else (bif Nat.blt pc 184 then (bif Nat.blt pc 150 then (bif Nat.blt pc 133 then (bif Nat.blt pc 126 then (bif Nat.blt pc 121 then (bif Nat.blt pc 120 then (bif Nat.beq pc 119 then some (.istore_n 2, 0, 0) else none) else (bif Nat.beq pc 120 then some (.iload_n 3, 0, 0) else none)) else (bif Nat.blt pc 124 then (bif Nat.beq pc 121 then some (.ifCond .eq 95, 216, 0) else none) else (bif Nat.beq pc 124 then some (.iload 5, 0, 0) else none))) else (bif Nat.blt pc 129 then (bif Nat.blt pc 127 then (bif Nat.beq pc 126 then some (.aload_n 0, 0, 0) else none) else (bif Nat.beq pc 127 then some (.iload 4, 0, 0) else none)) else (bif Nat.blt pc 130 then (bif Nat.beq pc 129 then some (.iconst 1, 0, 1) else none) else (bif Nat.beq pc 130 then some (.invokevirtual 56, 0, 0) else none)))) else (bif Nat.blt pc 141 then (bif Nat.blt pc 137 then (bif Nat.blt pc 134 then (bif Nat.beq pc 133 then some (.iconst (-1), 0, (-1)) else none) else (bif Nat.beq pc 134 then some (.if_icmp .eq 7, 141, 0) else none)) else (bif Nat.blt pc 138 then (bif Nat.beq pc 137 then some (.iconst 1, 0, 1) else none) else (bif Nat.beq pc 138 then some (.goto 4, 142, 0) else none))) else (bif Nat.blt pc 145 then (bif Nat.blt pc 142 then (bif Nat.beq pc 141 then some (.iconst 0, 0, 0) else none) else (bif Nat.beq pc 142 then some (.if_icmp .ne 74, 216, 0) else none)) else (bif Nat.blt pc 147 then (bif Nat.beq pc 145 then some (.iload 5, 0, 0) else none) else (bif Nat.beq pc 147 then some (.ifCond .eq 46, 193, 0) else none))))) else (bif Nat.blt pc 167 then (bif Nat.blt pc 160 then (bif Nat.blt pc 155 then (bif Nat.blt pc 152 then (bif Nat.beq pc 150 then some (.iload 6, 0, 0) else none) else (bif Nat.beq pc 152 then some (.ifCond .lt 64, 216, 0) else none)) else (bif Nat.blt pc 157 then (bif Nat.beq pc 155 then some (.iload 6, 0, 0) else none) else (bif Nat.beq pc 157 then some (.ifCond .eq 55, 212, 0) else none))) else (bif Nat.blt pc 163 then (bif Nat.blt pc 161 then (bif Nat.beq pc 160 then some (.aload_n 0, 0, 0) else none) else (bif Nat.beq pc 161 then some (.iload 4, 0, 0) else none)) else (bif Nat.blt pc 164 then (bif Nat.beq pc 163 then some (.iconst 5, 0, 5) else none) else (bif Nat.beq pc 164 then some (.invokevirtual 56, 0, 0) else none)))) else (bif Nat.blt pc 174 then (bif Nat.blt pc 171 then (bif Nat.blt pc 170 then (bif Nat.beq pc 167 then some (.ifCond .ne 49, 216, 0) else none) else (bif Nat.beq pc 170 then some (.aload_n 0, 0, 0) else none)) else (bif Nat.blt pc 173 then (bif Nat.beq pc 171 then some (.iload 4, 0, 0) else none) else (bif Nat.beq pc 173 then some (.iconst 3, 0, 3) else none))) else (bif Nat.blt pc 180 then (bif Nat.blt pc 177 then (bif Nat.beq pc 174 then some (.invokevirtual 56, 0, 0) else none) else (bif Nat.beq pc 177 then some (.ifCond .ne 39, 216, 0) else none)) else (bif Nat.blt pc 181 then (bif Nat.beq pc 180 then some (.aload_n 0, 0, 0) else none) else (bif Nat.blt pc 183 then (bif Nat.beq pc 181 then some (.iload 4, 0, 0) else none) else (bif Nat.beq pc 183 then some (.iconst 4, 0, 4) else none))))))) else (bif Nat.blt pc 221 then (bif Nat.blt pc 202 then (bif Nat.blt pc 195 then (bif Nat.blt pc 190 then (bif Nat.blt pc 187 then (bif Nat.beq pc 184 then some (.invokevirtual 56, 0, 0) else none) else (bif Nat.beq pc 187 then some (.ifCond .ne 29, 216, 0) else none)) else (bif Nat.blt pc 193 then (bif Nat.beq pc 190 then some (.goto 22, 212, 0) else none) else (bif Nat.beq pc 193 then some (.iload 6, 0, 0) else none))) else (bif Nat.blt pc 199 then (bif Nat.blt pc 196 then (bif Nat.beq pc 195 then some (.iconst (-1), 0, (-1)) else none) else (bif Nat.beq pc 196 then some (.if_icmp .ne 20, 216, 0) else none)) else (bif Nat.blt pc 200 then (bif Nat.beq pc 199 then some (.aload_n 0, 0, 0) else none) else (bif Nat.beq pc 200 then some (.iload 4, 0, 0) else none)))) else (bif Nat.blt pc 212 then (bif Nat.blt pc 207 then (bif Nat.blt pc 204 then (bif Nat.beq pc 202 then some (.bipush 6, 0, 6) else none) else (bif Nat.beq pc 204 then some (.invokevirtual 56, 0, 0) else none)) else (bif Nat.blt pc 209 then (bif Nat.beq pc 207 then some (.iload 6, 0, 0) else none) else (bif Nat.beq pc 209 then some (.if_icmp .ne 7, 216, 0) else none))) else (bif Nat.blt pc 216 then (bif Nat.blt pc 213 then (bif Nat.beq pc 212 then some (.iconst 1, 0, 1) else none) else (bif Nat.beq pc 213 then some (.goto 4, 217, 0) else none)) else (bif Nat.blt pc 217 then (bif Nat.beq pc 216 then some (.iconst 0, 0, 0) else none) else (bif Nat.blt pc 218 then (bif Nat.beq pc 217 then some (.istore_n 3, 0, 0) else none) else (bif Nat.beq pc 218 then some (.iinc 4 1, 0, 1) else none)))))) else (bif Nat.blt pc 238 then (bif Nat.blt pc 229 then (bif Nat.blt pc 225 then (bif Nat.blt pc 224 then (bif Nat.beq pc 221 then some (.goto (-175), 46, 0) else none) else (bif Nat.beq pc 224 then some (.iload_n 3, 0, 0) else none)) else (bif Nat.blt pc 228 then (bif Nat.beq pc 225 then some (.ifCond .eq 27, 252, 0) else none) else (bif Nat.beq pc 228 then some (.iload_n 1, 0, 0) else none))) else (bif Nat.blt pc 232 then (bif Nat.blt pc 230 then (bif Nat.beq pc 229 then some (.aload_n 0, 0, 0) else none) else (bif Nat.beq pc 230 then some (.bipush 11, 0, 11) else none)) else (bif Nat.blt pc 235 then (bif Nat.beq pc 232 then some (.invokevirtual 43, 0, 0) else none) else (bif Nat.beq pc 235 then some (.if_icmp .ne 17, 252, 0) else none)))) else (bif Nat.blt pc 245 then (bif Nat.blt pc 240 then (bif Nat.blt pc 239 then (bif Nat.beq pc 238 then some (.iload_n 2, 0, 0) else none) else (bif Nat.beq pc 239 then some (.aload_n 0, 0, 0) else none)) else (bif Nat.blt pc 242 then (bif Nat.beq pc 240 then some (.bipush 12, 0, 12) else none) else (bif Nat.beq pc 242 then some (.invokevirtual 43, 0, 0) else none))) else (bif Nat.blt pc 249 then (bif Nat.blt pc 248 then (bif Nat.beq pc 245 then some (.if_icmp .ne 7, 252, 0) else none) else (bif Nat.beq pc 248 then some (.iconst 1, 0, 1) else none)) else (bif Nat.blt pc 252 then (bif Nat.beq pc 249 then some (.goto 4, 253, 0) else none) else (bif Nat.blt pc 253 then (bif Nat.beq pc 252 then some (.iconst 0, 0, 0) else none) else (bif Nat.beq pc 253 then some (.ireturn, 0, 0) else none))))))))
def z_c55 (pc : Nat) : Option (Instr × Nat × Int32) := bif Nat.blt pc 157 then (bif Nat.blt pc 72 then (bif Nat.blt pc 36 then (bif Nat.blt pc 17 then (bif Nat.blt pc 7 then (bif Nat.blt pc 4 then (bif Nat.blt pc 1 then (bif Nat.beq pc 0 then some (.aload_n 0, 0, 0) else none) else (bif Nat.beq pc 1 then some (.invokevirtual 59, 0, 0) else none)) else (bif Nat.blt pc 5 then (bif Nat.beq pc 4 then some (.istore_n 1, 0, 0) else none) else (bif Nat.blt pc 6 then (bif Nat.beq pc 5 then some (.aload_n 0, 0, 0) else none) else (bif Nat.beq pc 6 then some (.iconst 0, 0, 0) else none)))) else (bif Nat.blt pc 11 then (bif Nat.blt pc 10 then (bif Nat.beq pc 7 then some (.invokevirtual 43, 0, 0) else none) else (bif Nat.beq pc 10 then some (.istore_n 2, 0, 0) else none)) else (bif Nat.blt pc 12 then (bif Nat.beq pc 11 then some (.aload_n 0, 0, 0) else none) else (bif Nat.blt pc 15 then (bif Nat.beq pc 12 then some (.invokevirtual 62, 0, 0) else none) else (bif Nat.beq pc 15 then some (.bipush 100, 0, 100) else none))))) else (bif Nat.blt pc 25 then (bif Nat.blt pc 19 then (bif Nat.blt pc 18 then (bif Nat.beq pc 17 then some (.isub, 0, 0) else none) else (bif Nat.beq pc 18 then some (.istore_n 3, 0, 0) else none)) else (bif Nat.blt pc 20 then (bif Nat.beq pc 19 then some (.aload_n 0, 0, 0) else none) else (bif Nat.blt pc 23 then (bif Nat.beq pc 20 then some (.invokevirtual 65, 0, 0) else none) else (bif Nat.beq pc 23 then some (.istore 4, 0, 0) else none)))) else (bif Nat.blt pc 31 then (bif Nat.blt pc 26 then (bif Nat.beq pc 25 then some (.iload_n 2, 0, 0) else none) else (bif Nat.blt pc 28 then (bif Nat.beq pc 26 then some (.bipush 48, 0, 48) else none) else (bif Nat.beq pc 28 then some (.if_icmp .ne 24, 52, 0) else none))) else (bif Nat.blt pc 32 then (bif Nat.beq pc 31 then some (.iload_n 1, 0, 0) else none) else (bif Nat.blt pc 33 then (bif Nat.beq pc 32 then some (.iconst (-1), 0, (-1)) else none) else (bif Nat.beq pc 33 then some (.if_icmp .ne 17, 50, 0) else none)))))) else (bif Nat.blt pc 53 then (bif Nat.blt pc 46 then (bif Nat.blt pc 40 then (bif Nat.blt pc 37 then (bif Nat.beq pc 36 then some (.iload_n 3, 0, 0) else none) else (bif Nat.beq pc 37 then some (.ifCond .ne 13, 50, 0) else none)) else (bif Nat.blt pc 42 then (bif Nat.beq pc 40 then some (.iload 4, 0, 0) else none) else (bif Nat.blt pc 43 then (bif Nat.beq pc 42 then some (.iload_n 1, 0, 0) else none) else (bif Nat.beq pc 43 then some (.if_icmp .ne 7, 50, 0) else none)))) else (bif Nat.blt pc 50 then (bif Nat.blt pc 47 then (bif Nat.beq pc 46 then some (.iconst 1, 0, 1) else none) else (bif Nat.beq pc 47 then some (.goto 4, 51, 0) else none)) else (bif Nat.blt pc 51 then (bif Nat.beq pc 50 then some (.iconst 0, 0, 0) else none) else (bif Nat.blt pc 52 then (bif Nat.beq pc 51 then some (.ireturn, 0, 0) else none) else (bif Nat.beq pc 52 then some (.aload_n 0, 0, 0) else none))))) else (bif Nat.blt pc 62 then (bif Nat.blt pc 56 then (bif Nat.blt pc 55 then (bif Nat.beq pc 53 then some (.bipush 48, 0, 48) else none) else (bif Nat.beq pc 55 then some (.iload_n 2, 0, 0) else none)) else (bif Nat.blt pc 57 then (bif Nat.beq pc 56 then some (.isub, 0, 0) else none) else (bif Nat.blt pc 60 then (bif Nat.beq pc 57 then some (.invokevirtual 46, 0, 0) else none) else (bif Nat.beq pc 60 then some (.istore 5, 0, 0) else none)))) else (bif Nat.blt pc 67 then (bif Nat.blt pc 63 then (bif Nat.beq pc 62 then some (.iload_n 1, 0, 0) else none) else (bif Nat.blt pc 64 then (bif Nat.beq pc 63 then some (.iconst (-1), 0, (-1)) else none) else (bif Nat.beq pc 64 then some (.if_icmp .ne 7, 71, 0) else none))) else (bif Nat.blt pc 68 then (bif Nat.beq pc 67 then some (.iconst 1, 0, 1) else none) else (bif Nat.blt pc 71 then (bif Nat.beq pc 68 then some (.goto 4, 72, 0) else none) else (bif Nat.beq pc 71 then some (.iconst 0, 0, 0) else none))))))) else (bif Nat.blt pc 111 then (bif Nat.blt pc 91 then (bif Nat.blt pc 82 then (bif Nat.blt pc 77 then (bif Nat.blt pc 74 then (bif Nat.beq pc 72 then some (.iload 5, 0, 0) else none) else (bif Nat.beq pc 74 then some (.ifCond .ne 7, 81, 0) else none)) else (bif Nat.blt pc 78 then (bif Nat.beq pc 77 then some (.iconst 1, 0, 1) else none) else (bif Nat.blt pc 81 then (bif Nat.beq pc 78 then some (.goto 4, 82, 0) else none) else (bif Nat.beq pc 81 then some (.iconst 0, 0, 0) else none)))) else (bif Nat.blt pc 86 then (bif Nat.blt pc 85 then (bif Nat.beq pc 82 then some (.if_icmp .ne 25, 107, 0) else none) else (bif Nat.beq pc 85 then some (.iload_n 1, 0, 0) else none)) else (bif Nat.blt pc 89 then (bif Nat.beq pc 86 then some (.ifCond .lt 17, 103, 0) else none) else (bif Nat.blt pc 90 then (bif Nat.beq pc 89 then some (.iload_n 1, 0, 0) else none) else (bif Nat.beq pc 90 then some (.iload_n 2, 0, 0) else none))))) else (bif Nat.blt pc 100 then (bif Nat.blt pc 95 then (bif Nat.blt pc 94 then (bif Nat.beq pc 91 then some (.if_icmp .lt 16, 107, 0) else none) else (bif Nat.beq pc 94 then some (.aload_n 0, 0, 0) else none)) else (bif Nat.blt pc 96 then (bif Nat.beq pc 95 then some (.iload_n 1, 0, 0) else none) else (bif Nat.blt pc 97 then (bif Nat.beq pc 96 then some (.iconst 2, 0, 2) else none) else (bif Nat.beq pc 97 then some (.invokevirtual 56, 0, 0) else none)))) else (bif Nat.blt pc 107 then (bif Nat.blt pc 103 then (bif Nat.beq pc 100 then some (.ifCond .le 7, 107, 0) else none) else (bif Nat.blt pc 104 then (bif Nat.beq pc 103 then some (.iconst 1, 0, 1) else none) else (bif Nat.beq pc 104 then some (.goto 4, 108, 0) else none))) else (bif Nat.blt pc 108 then (bif Nat.beq pc 107 then some (.iconst 0, 0, 0) else none) else (bif Nat.blt pc 110 then (bif Nat.beq pc 108 then some (.istore 6, 0, 0) else none) else (bif Nat.beq pc 110 then some (.iload_n 2, 0, 0) else none)))))) else (bif Nat.blt pc 134 then (bif Nat.blt pc 121 then (bif Nat.blt pc 115 then (bif Nat.blt pc 113 then (bif Nat.beq pc 111 then some (.istore 7, 0, 0) else none) else (bif Nat.beq pc 113 then some (.iload 7, 0, 0) else none)) else (bif Nat.blt pc 116 then (bif Nat.beq pc 115 then some (.iload_n 1, 0, 0) else none) else (bif Nat.blt pc 119 then (bif Nat.beq pc 116 then some (.if_icmp .ge 31, 147, 0) else none) else (bif Nat.beq pc 119 then some (.iload 6, 0, 0) else none)))) else (bif Nat.blt pc 127 then (bif Nat.blt pc 124 then (bif Nat.beq pc 121 then some (.ifCond .eq 17, 138, 0) else none) else (bif Nat.blt pc 125 then (bif Nat.beq pc 124 then some (.aload_n 0, 0, 0) else none) else (bif Nat.beq pc 125 then some (.iload 7, 0, 0) else none))) else (bif Nat.blt pc 128 then (bif Nat.beq pc 127 then some (.iconst 2, 0, 2) else none) else (bif Nat.blt pc 131 then (bif Nat.beq pc 128 then some (.invokevirtual 56, 0, 0) else none) else (bif Nat.beq pc 131 then some (.ifCond .ne 7, 138, 0) else none))))) else (bif Nat.blt pc 144 then (bif Nat.blt pc 138 then (bif Nat.blt pc 135 then (bif Nat.beq pc 134 then some (.iconst 1, 0, 1) else none) else (bif Nat.beq pc 135 then some (.goto 4, 139, 0) else none)) else (bif Nat.blt pc 139 then (bif Nat.beq pc 138 then some (.iconst 0, 0, 0) else none) else (bif Nat.blt pc 141 then (bif Nat.beq pc 139 then some (.istore 6, 0, 0) else none) else (bif Nat.beq pc 141 then some (.iinc 7 1, 0, 1) else none)))) else (bif Nat.blt pc 151 then (bif Nat.blt pc 147 then (bif Nat.beq pc 144 then some (.goto (-31), 113, 0) else none) else (bif Nat.blt pc 148 then (bif Nat.beq pc 147 then some (.aload_n 0, 0, 0) else none) else (bif Nat.beq pc 148 then some (.invokevirtual 68, 0, 0) else none))) else (bif Nat.blt pc 153 then (bif Nat.beq pc 151 then some (.istore 7, 0, 0) else none) else (bif Nat.blt pc 154 then (bif Nat.beq pc 153 then some (.aload_n 0, 0, 0) else none) else (bif Nat.beq pc 154 then some (.invokevirtual 33, 0, 0) else none)))))))) else (bif Nat.blt pc 235 then (bif Nat.blt pc 196 then (bif Nat.blt pc 175 then (bif Nat.blt pc 167 then (bif Nat.blt pc 161 then (bif Nat.blt pc 159 then (bif Nat.beq pc 157 then some (.istore 8, 0, 0) else none) else (bif Nat.beq pc 159 then some (.iload 6, 0, 0) else none)) else (bif Nat.blt pc 164 then (bif Nat.beq pc 161 then some (.ifCond .eq 22, 183, 0) else none) else (bif Nat.blt pc 165 then (bif Nat.beq pc 164 then some (.aload_n 0, 0, 0) else none) else (bif Nat.beq pc 165 then some (.bipush 48, 0, 48) else none)))) else (bif Nat.blt pc 169 then (bif Nat.blt pc 168 then (bif Nat.beq pc 167 then some (.iload_n 2, 0, 0) else none) else (bif Nat.beq pc 168 then some (.isub, 0, 0) else none)) else (bif Nat.blt pc 172 then (bif Nat.beq pc 169 then some (.invokevirtual 46, 0, 0) else none) else (bif Nat.blt pc 174 then (bif Nat.beq pc 172 then some (.iload 5, 0, 0) else none) else (bif Nat.beq pc 174 then some (.iload_n 3, 0, 0) else none))))) else (bif Nat.blt pc 184 then (bif Nat.blt pc 179 then (bif Nat.blt pc 176 then (bif Nat.beq pc 175 then some (.isub, 0, 0) else none) else (bif Nat.beq pc 176 then some (.if_icmp .ne 7, 183, 0) else none)) else (bif Nat.blt pc 180 then (bif Nat.beq pc 179 then some (.iconst 1, 0, 1) else none) else (bif Nat.blt pc 183 then (bif Nat.beq pc 180 then some (.goto 4, 184, 0) else none) else (bif Nat.beq pc 183 then some (.iconst 0, 0, 0) else none)))) else (bif Nat.blt pc 190 then (bif Nat.blt pc 186 then (bif Nat.beq pc 184 then some (.istore 6, 0, 0) else none) else (bif Nat.blt pc 187 then (bif Nat.beq pc 186 then some (.aload_n 0, 0, 0) else none) else (bif Nat.beq pc 187 then some (.invokevirtual 68, 0, 0) else none))) else (bif Nat.blt pc 192 then (bif Nat.beq pc 190 then some (.istore 7, 0, 0) else none) else (bif Nat.blt pc 193 then (bif Nat.beq pc 192 then some (.aload_n 0, 0, 0) else none) else (bif Nat.beq pc 193 then some (.invokevirtual 68, 0, 0) else none)))))) else (bif Nat.blt pc 214 then (bif Nat.blt pc 204 then (bif Nat.blt pc 199 then (bif Nat.blt pc 198 then (bif Nat.beq pc 196 then some (.istore 7, 0, 0) else none) else (bif Nat.beq pc 198 then some (.iconst 0, 0, 0) else none)) else (bif Nat.blt pc 201 then (bif Nat.beq pc 199 then some (.istore 9, 0, 0) else none) else (bif Nat.blt pc 203 then (bif Nat.beq pc 201 then some (.iload 9, 0, 0) else none) else (bif Nat.beq pc 203 then some (.iconst 4, 0, 4) else none)))) else (bif Nat.blt pc 208 then (bif Nat.blt pc 207 then (bif Nat.beq pc 204 then some (.if_icmp .ge 102, 306, 0) else none) else (bif Nat.beq pc 207 then some (.aload_n 0, 0, 0) else none)) else (bif Nat.blt pc 210 then (bif Nat.beq pc 208 then some (.iload 9, 0, 0) else none) else (bif Nat.blt pc 211 then (bif Nat.beq pc 210 then some (.iconst 4, 0, 4) else none) else (bif Nat.beq pc 211 then some (.invokevirtual 14, 0, 0) else none))))) else (bif Nat.blt pc 225 then (bif Nat.blt pc 218 then (bif Nat.blt pc 217 then (bif Nat.beq pc 214 then some (.ifCond .ne 86, 300, 0) else none) else (bif Nat.beq pc 217 then some (.aload_n 0, 0, 0) else none)) else (bif Nat.blt pc 220 then (bif Nat.beq pc 218 then some (.iload 9, 0, 0) else none) else (bif Nat.blt pc 223 then (bif Nat.beq pc 220 then some (.invokevirtual 19, 0, 0) else none) else (bif Nat.beq pc 223 then some (.istore 10, 0, 0) else none)))) else (bif Nat.blt pc 229 then (bif Nat.blt pc 226 then (bif Nat.beq pc 225 then some (.aload_n 0, 0, 0) else none) else (bif Nat.blt pc 228 then (bif Nat.beq pc 226 then some (.bipush 48, 0, 48) else none) else (bif Nat.beq pc 228 then some (.iload_n 2, 0, 0) else none))) else (bif Nat.blt pc 230 then (bif Nat.beq pc 229 then some (.isub, 0, 0) else none) else (bif Nat.blt pc 233 then (bif Nat.beq pc 230 then some (.invokevirtual 46, 0, 0) else none) else (bif Nat.beq pc 233 then some (.istore 11, 0, 0) else none))))))) else (bif Nat.blt pc 280 then (bif Nat.blt pc 255 then (bif Nat.blt pc 244 then (bif Nat.blt pc 238 then (bif Nat.blt pc 236 then (bif Nat.beq pc 235 then some (.aload_n 0, 0, 0) else none) else (bif Nat.beq pc 236 then some (.bipush 13, 0, 13) else none)) else (bif Nat.blt pc 241 then (bif Nat.beq pc 238 then some (.invokevirtual 43, 0, 0) else none) else (bif Nat.blt pc 243 then (bif Nat.beq pc 241 then some (.istore 12, 0, 0) else none) else (bif Nat.beq pc 243 then some (.aload_n 0, 0, 0) else none)))) else (bif Nat.blt pc 249 then (bif Nat.blt pc 247 then (bif Nat.beq pc 244 then some (.invokevirtual 68, 0, 0) else none) else (bif Nat.beq pc 247 then some (.istore 7, 0, 0) else none)) else (bif Nat.blt pc 250 then (bif Nat.beq pc 249 then some (.aload_n 0, 0, 0) else none) else (bif Nat.blt pc 253 then (bif Nat.beq pc 250 then some (.invokevirtual 68, 0, 0) else none) else (bif Nat.beq pc 253 then some (.istore 7, 0, 0) else none))))) else (bif Nat.blt pc 267 then (bif Nat.blt pc 260 then (bif Nat.blt pc 257 then (bif Nat.beq pc 255 then some (.iload 6, 0, 0) else none) else (bif Nat.beq pc 257 then some (.ifCond .eq 40, 297, 0) else none)) else (bif Nat.blt pc 262 then (bif Nat.beq pc 260 then some (.iload 4, 0, 0) else none) else (bif Nat.blt pc 265 then (bif Nat.beq pc 262 then some (.ifCond .ge 13, 275, 0) else none) else (bif Nat.beq pc 265 then some (.iload 11, 0, 0) else none)))) else (bif Nat.blt pc 275 then (bif Nat.blt pc 269 then (bif Nat.beq pc 267 then some (.iload 5, 0, 0) else none) else (bif Nat.blt pc 272 then (bif Nat.beq pc 269 then some (.if_icmp .lt 28, 297, 0) else none) else (bif Nat.beq pc 272 then some (.goto 21, 293, 0) else none))) else (bif Nat.blt pc 276 then (bif Nat.beq pc 275 then some (.aload_n 0, 0, 0) else none) else (bif Nat.blt pc 278 then (bif Nat.beq pc 276 then some (.iload 4, 0, 0) else none) else (bif Nat.beq pc 278 then some (.iload 9, 0, 0) else none)))))) else (bif Nat.blt pc 303 then (bif Nat.blt pc 290 then (bif Nat.blt pc 283 then (bif Nat.blt pc 281 then (bif Nat.beq pc 280 then some (.iload_n 2, 0, 0) else none) else (bif Nat.beq pc 281 then some (.iload 11, 0, 0) else none)) else (bif Nat.blt pc 285 then (bif Nat.beq pc 283 then some (.iload 12, 0, 0) else none) else (bif Nat.blt pc 287 then (bif Nat.beq pc 285 then some (.iload 5, 0, 0) else none) else (bif Nat.beq pc 287 then some (.invokestatic 71, 0, 0) else none)))) else (bif Nat.blt pc 297 then (bif Nat.blt pc 293 then (bif Nat.beq pc 290 then some (.ifCond .eq 7, 297, 0) else none) else (bif Nat.blt pc 294 then (bif Nat.beq pc 293 then some (.iconst 1, 0, 1) else none) else (bif Nat.beq pc 294 then some (.goto 4, 298, 0) else none))) else (bif Nat.blt pc 298 then (bif Nat.beq pc 297 then some (.iconst 0, 0, 0) else none) else (bif Nat.blt pc 300 then (bif Nat.beq pc 298 then some (.istore 6, 0, 0) else none) else (bif Nat.beq pc 300 then some (.iinc 9 1, 0, 1) else none))))) else (bif Nat.blt pc 316 then (bif Nat.blt pc 308 then (bif Nat.blt pc 306 then (bif Nat.beq pc 303 then some (.goto (-102), 201, 0) else none) else (bif Nat.beq pc 306 then some (.iload 6, 0, 0) else none)) else (bif Nat.blt pc 311 then (bif Nat.beq pc 308 then some (.ifCond .eq 17, 325, 0) else none) else (bif Nat.blt pc 313 then (bif Nat.beq pc 311 then some (.iload 7, 0, 0) else none) else (bif Nat.beq pc 313 then some (.ifCond .lt 12, 325, 0) else none)))) else (bif Nat.blt pc 322 then (bif Nat.blt pc 318 then (bif Nat.beq pc 316 then some (.iload 8, 0, 0) else none) else (bif Nat.blt pc 321 then (bif Nat.beq pc 318 then some (.ifCond .lt 7, 325, 0) else none) else (bif Nat.beq pc 321 then some (.iconst 1, 0, 1) else none))) else (bif Nat.blt pc 325 then (bif Nat.beq pc 322 then some (.goto 4, 326, 0) else none) else (bif Nat.blt pc 326 then (bif Nat.beq pc 325 then some (.iconst 0, 0, 0) else none) else (bif Nat.beq pc 326 then some (.ireturn, 0, 0) else none))))))))
def z_c56 (pc : Nat) : Option (Instr × Nat × Int32) := bif Nat.blt pc 44 then (bif Nat.blt pc 18 then (bif Nat.blt pc 8 then (bif Nat.blt pc 2 then (bif Nat.blt pc 1 then (bif Nat.beq pc 0 then some (.aload_n 0, 0, 0) else none) else (bif Nat.beq pc 1 then some (.iload_n 1, 0, 0) else none)) else (bif Nat.blt pc 5 then (bif Nat.beq pc 2 then some (.invokevirtual 19, 0, 0) else none) else (bif Nat.blt pc 7 then (bif Nat.beq pc 5 then some (.istore 7, 0, 0) else none) else (bif Nat.beq pc 7 then some (.aload_n 0, 0, 0) else none)))) else (bif Nat.blt pc 12 then (bif Nat.blt pc 10 then (bif Nat.beq pc 8 then some (.bipush 48, 0, 48) else none) else (bif Nat.blt pc 11 then (bif Nat.beq pc 10 then some (.iload_n 3, 0, 0) else none) else (bif Nat.beq pc 11 then some (.isub, 0, 0) else none))) else (bif Nat.blt pc 15 then (bif Nat.beq pc 12 then some (.invokevirtual 46, 0, 0) else none) else (bif Nat.blt pc 17 then (bif Nat.beq pc 15 then some (.istore 8, 0, 0) else none) else (bif Nat.beq pc 17 then some (.aload_n 0, 0, 0) else none))))) else (bif Nat.blt pc 31 then (bif Nat.blt pc 25 then (bif Nat.blt pc 20 then (bif Nat.beq pc 18 then some (.bipush 13, 0, 13) else none) else (bif Nat.blt pc 23 then (bif Nat.beq pc 20 then some (.invokevirtual 43, 0, 0) else none) else (bif Nat.beq pc 23 then some (.istore 9, 0, 0) else none))) else (bif Nat.blt pc 26 then (bif Nat.beq pc 25 then some (.aload_n 0, 0, 0) else none) else (bif Nat.blt pc 29 then (bif Nat.beq pc 26 then some (.invokevirtual 68, 0, 0) else none) else (bif Nat.beq pc 29 then some (.istore 10, 0, 0) else none)))) else (bif Nat.blt pc 37 then (bif Nat.blt pc 32 then (bif Nat.beq pc 31 then some (.aload_n 0, 0, 0) else none) else (bif Nat.blt pc 35 then (bif Nat.beq pc 32 then some (.invokevirtual 68, 0, 0) else none) else (bif Nat.beq pc 35 then some (.istore 10, 0, 0) else none))) else (bif Nat.blt pc 39 then (bif Nat.beq pc 37 then some (.iload 10, 0, 0) else none) else (bif Nat.blt pc 42 then (bif Nat.beq pc 39 then some (.ifCond .lt 52, 91, 0) else none) else (bif Nat.beq pc 42 then some (.iload 7, 0, 0) else none)))))) else (bif Nat.blt pc 70 then (bif Nat.blt pc 56 then (bif Nat.blt pc 49 then (bif Nat.blt pc 47 then (bif Nat.beq pc 44 then some (.ifCond .lt 47, 91, 0) else none) else (bif Nat.beq pc 47 then some (.iload 8, 0, 0) else none)) else (bif Nat.blt pc 51 then (bif Nat.beq pc 49 then some (.iload 6, 0, 0) else none) else (bif Nat.blt pc 54 then (bif Nat.beq pc 51 then some (.if_icmp .ge 40, 91, 0) else none) else (bif Nat.beq pc 54 then some (.iload 8, 0, 0) else none)))) else (bif Nat.blt pc 63 then (bif Nat.blt pc 58 then (bif Nat.beq pc 56 then some (.iload 4, 0, 0) else none) else (bif Nat.blt pc 61 then (bif Nat.beq pc 58 then some (.if_icmp .lt 29, 87, 0) else none) else (bif Nat.beq pc 61 then some (.iload 8, 0, 0) else none))) else (bif Nat.blt pc 65 then (bif Nat.beq pc 63 then some (.iload 4, 0, 0) else none) else (bif Nat.blt pc 68 then (bif Nat.beq pc 65 then some (.if_icmp .ne 26, 91, 0) else none) else (bif Nat.beq pc 68 then some (.iload 9, 0, 0) else none))))) else (bif Nat.blt pc 83 then (bif Nat.blt pc 77 then (bif Nat.blt pc 72 then (bif Nat.beq pc 70 then some (.iload 5, 0, 0) else none) else (bif Nat.blt pc 75 then (bif Nat.beq pc 72 then some (.if_icmp .lt 15, 87, 0) else none) else (bif Nat.beq pc 75 then some (.iload 9, 0, 0) else none))) else (bif Nat.blt pc 79 then (bif Nat.beq pc 77 then some (.iload 5, 0, 0) else none) else (bif Nat.blt pc 82 then (bif Nat.beq pc 79 then some (.if_icmp .ne 12, 91, 0) else none) else (bif Nat.beq pc 82 then some (.iload_n 1, 0, 0) else none)))) else (bif Nat.blt pc 88 then (bif Nat.blt pc 84 then (bif Nat.beq pc 83 then some (.iload_n 2, 0, 0) else none) else (bif Nat.blt pc 87 then (bif Nat.beq pc 84 then some (.if_icmp .gt 7, 91, 0) else none) else (bif Nat.beq pc 87 then some (.iconst 1, 0, 1) else none))) else (bif Nat.blt pc 91 then (bif Nat.beq pc 88 then some (.goto 4, 92, 0) else none) else (bif Nat.blt pc 92 then (bif Nat.beq pc 91 then some (.iconst 0, 0, 0) else none) else (bif Nat.beq pc 92 then some (.ireturn, 0, 0) else none))))))
def z_c57 (pc : Nat) : Option (Instr × Nat × Int32) := bif Nat.blt pc 112 then (bif Nat.blt pc 57 then (bif Nat.blt pc 31 then (bif Nat.blt pc 18 then (bif Nat.blt pc 11 then (bif Nat.blt pc 9 then (bif Nat.beq pc 8 then some (.iconst 0, 0, 0) else none) else (bif Nat.blt pc 10 then (bif Nat.beq pc 9 then some (.istore_n 2, 0, 0) else none) else (bif Nat.beq pc 10 then some (.iload_n 2, 0, 0) else none))) else (bif Nat.blt pc 16 then (bif Nat.blt pc 13 then (bif Nat.beq pc 11 then some (.bipush 56, 0, 56) else none) else (bif Nat.beq pc 13 then some (.if_icmp .ge 207, 220, 0) else none)) else (bif Nat.blt pc 17 then (bif Nat.beq pc 16 then some (.aload_n 0, 0, 0) else none) else (bif Nat.beq pc 17 then some (.iload_n 2, 0, 0) else none)))) else (bif Nat.blt pc 23 then (bif Nat.blt pc 21 then (bif Nat.beq pc 18 then some (.invokestatic 76, 0, 0) else none) else (bif Nat.blt pc 22 then (bif Nat.beq pc 21 then some (.istore_n 3, 0, 0) else none) else (bif Nat.beq pc 22 then some (.aload_n 1, 0, 0) else none))) else (bif Nat.blt pc 28 then (bif Nat.blt pc 25 then (bif Nat.beq pc 23 then some (.bipush 9, 0, 9) else none) else (bif Nat.beq pc 25 then some (.invokevirtual 43, 0, 0) else none)) else (bif Nat.blt pc 30 then (bif Nat.beq pc 28 then some (.istore 4, 0, 0) else none) else (bif Nat.beq pc 30 then some (.aload_n 1, 0, 0) else none))))) else (bif Nat.blt pc 41 then (bif Nat.blt pc 37 then (bif Nat.blt pc 32 then (bif Nat.beq pc 31 then some (.iload_n 3, 0, 0) else none) else (bif Nat.blt pc 35 then (bif Nat.beq pc 32 then some (.invokestatic 80, 0, 0) else none) else (bif Nat.beq pc 35 then some (.istore 5, 0, 0) else none))) else (bif Nat.blt pc 39 then (bif Nat.blt pc 38 then (bif Nat.beq pc 37 then some (.aload_n 1, 0, 0) else none) else (bif Nat.beq pc 38 then some (.iload_n 3, 0, 0) else none)) else (bif Nat.blt pc 40 then (bif Nat.beq pc 39 then some (.iconst 5, 0, 5) else none) else (bif Nat.beq pc 40 then some (.ishr, 0, 0) else none)))) else (bif Nat.blt pc 47 then (bif Nat.blt pc 43 then (bif Nat.beq pc 41 then some (.bipush 48, 0, 48) else none) else (bif Nat.blt pc 46 then (bif Nat.beq pc 43 then some (.invokestatic 8, 0, 0) else none) else (bif Nat.beq pc 46 then some (.iconst 0, 0, 0) else none))) else (bif Nat.blt pc 52 then (bif Nat.blt pc 50 then (bif Nat.beq pc 47 then some (.invokevirtual 84, 0, 0) else none) else (bif Nat.beq pc 50 then some (.istore 6, 0, 0) else none)) else (bif Nat.blt pc 54 then (bif Nat.beq pc 52 then some (.iload 5, 0, 0) else none) else (bif Nat.beq pc 54 then some (.ifCond .lt 61, 115, 0) else none)))))) else (bif Nat.blt pc 82 then (bif Nat.blt pc 71 then (bif Nat.blt pc 63 then (bif Nat.blt pc 58 then (bif Nat.beq pc 57 then some (.aload_n 1, 0, 0) else none) else (bif Nat.blt pc 60 then (bif Nat.beq pc 58 then some (.bipush 9, 0, 9) else none) else (bif Nat.beq pc 60 then some (.invokevirtual 43, 0, 0) else none))) else (bif Nat.blt pc 68 then (bif Nat.blt pc 65 then (bif Nat.beq pc 63 then some (.iload 4, 0, 0) else none) else (bif Nat.beq pc 65 then some (.if_icmp .lt 50, 115, 0) else none)) else (bif Nat.blt pc 70 then (bif Nat.beq pc 68 then some (.iload 6, 0, 0) else none) else (bif Nat.beq pc 70 then some (.iconst (-1), 0, (-1)) else none)))) else (bif Nat.blt pc 78 then (bif Nat.blt pc 74 then (bif Nat.beq pc 71 then some (.if_icmp .ne 7, 78, 0) else none) else (bif Nat.blt pc 75 then (bif Nat.beq pc 74 then some (.iconst 1, 0, 1) else none) else (bif Nat.beq pc 75 then some (.goto 4, 79, 0) else none))) else (bif Nat.blt pc 80 then (bif Nat.blt pc 79 then (bif Nat.beq pc 78 then some (.iconst 0, 0, 0) else none) else (bif Nat.beq pc 79 then some (.aload_n 1, 0, 0) else none)) else (bif Nat.blt pc 81 then (bif Nat.beq pc 80 then some (.iload_n 3, 0, 0) else none) else (bif Nat.beq pc 81 then some (.iconst 5, 0, 5) else none))))) else (bif Nat.blt pc 96 then (bif Nat.blt pc 88 then (bif Nat.blt pc 83 then (bif Nat.beq pc 82 then some (.ishr, 0, 0) else none) else (bif Nat.blt pc 85 then (bif Nat.beq pc 83 then some (.bipush 48, 0, 48) else none) else (bif Nat.beq pc 85 then some (.invokestatic 8, 0, 0) else none))) else (bif Nat.blt pc 92 then (bif Nat.blt pc 89 then (bif Nat.beq pc 88 then some (.iconst 1, 0, 1) else none) else (bif Nat.beq pc 89 then some (.invokevirtual 84, 0, 0) else none)) else (bif Nat.blt pc 93 then (bif Nat.beq pc 92 then some (.iconst (-1), 0, (-1)) else none) else (bif Nat.beq pc 93 then some (.if_icmp .ne 7, 100, 0) else none)))) else (bif Nat.blt pc 104 then (bif Nat.blt pc 100 then (bif Nat.blt pc 97 then (bif Nat.beq pc 96 then some (.iconst 1, 0, 1) else none) else (bif Nat.beq pc 97 then some (.goto 4, 101, 0) else none)) else (bif Nat.blt pc 101 then (bif Nat.beq pc 100 then some (.iconst 0, 0, 0) else none) else (bif Nat.beq pc 101 then some (.if_icmp .ne 14, 115, 0) else none))) else (bif Nat.blt pc 108 then (bif Nat.blt pc 106 then (bif Nat.beq pc 104 then some (.iload 6, 0, 0) else none) else (bif Nat.beq pc 106 then some (.bipush 16, 0, 16) else none)) else (bif Nat.blt pc 111 then (bif Nat.beq pc 108 then some (.if_icmp .ge 7, 115, 0) else none) else (bif Nat.beq pc 111 then some (.iconst 1, 0, 1) else none))))))) else (bif Nat.blt pc 165 then (bif Nat.blt pc 141 then (bif Nat.blt pc 124 then (bif Nat.blt pc 118 then (bif Nat.blt pc 115 then (bif Nat.beq pc 112 then some (.goto 4, 116, 0) else none) else (bif Nat.blt pc 116 then (bif Nat.beq pc 115 then some (.iconst 0, 0, 0) else none) else (bif Nat.beq pc 116 then some (.istore 7, 0, 0) else none))) else (bif Nat.blt pc 121 then (bif Nat.blt pc 119 then (bif Nat.beq pc 118 then some (.iconst 0, 0, 0) else none) else (bif Nat.beq pc 119 then some (.istore 8, 0, 0) else none)) else (bif Nat.blt pc 123 then (bif Nat.beq pc 121 then some (.iload 8, 0, 0) else none) else (bif Nat.beq pc 123 then some (.iconst 4, 0, 4) else none)))) else (bif Nat.blt pc 132 then (bif Nat.blt pc 127 then (bif Nat.beq pc 124 then some (.if_icmp .ge 47, 171, 0) else none) else (bif Nat.blt pc 129 then (bif Nat.beq pc 127 then some (.iload 7, 0, 0) else none) else (bif Nat.beq pc 129 then some (.ifCond .eq 33, 162, 0) else none))) else (bif Nat.blt pc 137 then (bif Nat.blt pc 134 then (bif Nat.beq pc 132 then some (.iload 6, 0, 0) else none) else (bif Nat.beq pc 134 then some (.ifCond .lt 24, 158, 0) else none)) else (bif Nat.blt pc 139 then (bif Nat.beq pc 137 then some (.iload 6, 0, 0) else none) else (bif Nat.beq pc 139 then some (.iload 8, 0, 0) else none))))) else (bif Nat.blt pc 151 then (bif Nat.blt pc 144 then (bif Nat.blt pc 142 then (bif Nat.beq pc 141 then some (.ishr, 0, 0) else none) else (bif Nat.blt pc 143 then (bif Nat.beq pc 142 then some (.iconst 1, 0, 1) else none) else (bif Nat.beq pc 143 then some (.iand, 0, 0) else none))) else (bif Nat.blt pc 148 then (bif Nat.blt pc 147 then (bif Nat.beq pc 144 then some (.ifCond .eq 14, 158, 0) else none) else (bif Nat.beq pc 147 then some (.aload_n 1, 0, 0) else none)) else (bif Nat.blt pc 150 then (bif Nat.beq pc 148 then some (.iload 8, 0, 0) else none) else (bif Nat.beq pc 150 then some (.iconst 4, 0, 4) else none)))) else (bif Nat.blt pc 158 then (bif Nat.blt pc 154 then (bif Nat.beq pc 151 then some (.invokevirtual 14, 0, 0) else none) else (bif Nat.blt pc 155 then (bif Nat.beq pc 154 then some (.iconst 3, 0, 3) else none) else (bif Nat.beq pc 155 then some (.if_icmp .eq 7, 162, 0) else none))) else (bif Nat.blt pc 162 then (bif Nat.blt pc 159 then (bif Nat.beq pc 158 then some (.iconst 1, 0, 1) else none) else (bif Nat.beq pc 159 then some (.goto 4, 163, 0) else none)) else (bif Nat.blt pc 163 then (bif Nat.beq pc 162 then some (.iconst 0, 0, 0) else none) else (bif Nat.beq pc 163 then some (.istore 7, 0, 0) else none)))))) else (bif Nat.blt pc 194 then (bif Nat.blt pc 183 then (bif Nat.blt pc 173 then (bif Nat.blt pc 168 then (bif Nat.beq pc 165 then some (.iinc 8 1, 0, 1) else none) else (bif Nat.blt pc 171 then (bif Nat.beq pc 168 then some (.goto (-47), 121, 0) else none) else (bif Nat.beq pc 171 then some (.iload 7, 0, 0) else none))) else (bif Nat.blt pc 177 then (bif Nat.blt pc 176 then (bif Nat.beq pc 173 then some (.ifCond .eq 39, 212, 0) else none) else (bif Nat.beq pc 176 then some (.aload_n 1, 0, 0) else none)) else (bif Nat.blt pc 180 then (bif Nat.beq pc 177 then some (.invokestatic 87, 0, 0) else none) else (bif Nat.beq pc 180 then some (.ifCond .eq 32, 212, 0) else none)))) else (bif Nat.blt pc 186 then (bif Nat.blt pc 184 then (bif Nat.beq pc 183 then some (.iload_n 2, 0, 0) else none) else (bif Nat.blt pc 185 then (bif Nat.beq pc 184 then some (.iconst 3, 0, 3) else none) else (bif Nat.beq pc 185 then some (.irem, 0, 0) else none))) else (bif Nat.blt pc 190 then (bif Nat.blt pc 187 then (bif Nat.beq pc 186 then some (.iconst 1, 0, 1) else none) else (bif Nat.beq pc 187 then some (.if_icmp .ne 10, 197, 0) else none)) else (bif Nat.blt pc 191 then (bif Nat.beq pc 190 then some (.aload_n 1, 0, 0) else none) else (bif Nat.beq pc 191 then some (.invokestatic 91, 0, 0) else none))))) else (bif Nat.blt pc 206 then (bif Nat.blt pc 200 then (bif Nat.blt pc 197 then (bif Nat.beq pc 194 then some (.ifCond .eq 18, 212, 0) else none) else (bif Nat.blt pc 198 then (bif Nat.beq pc 197 then some (.iload_n 2, 0, 0) else none) else (bif Nat.beq pc 198 then some (.bipush 7, 0, 7) else none))) else (bif Nat.blt pc 202 then (bif Nat.blt pc 201 then (bif Nat.beq pc 200 then some (.irem, 0, 0) else none) else (bif Nat.beq pc 201 then some (.iconst 4, 0, 4) else none)) else (bif Nat.blt pc 205 then (bif Nat.beq pc 202 then some (.if_icmp .ne 12, 214, 0) else none) else (bif Nat.beq pc 205 then some (.aload_n 1, 0, 0) else none)))) else (bif Nat.blt pc 214 then (bif Nat.blt pc 212 then (bif Nat.blt pc 209 then (bif Nat.beq pc 206 then some (.invokestatic 94, 0, 0) else none) else (bif Nat.beq pc 209 then some (.ifCond .ne 5, 214, 0) else none)) else (bif Nat.blt pc 213 then (bif Nat.beq pc 212 then some (.iconst 0, 0, 0) else none) else (bif Nat.beq pc 213 then some (.ireturn, 0, 0) else none))) else (bif Nat.blt pc 220 then (bif Nat.blt pc 217 then (bif Nat.beq pc 214 then some (.iinc 2 1, 0, 1) else none) else (bif Nat.beq pc 217 then some (.goto (-207), 10, 0) else none)) else (bif Nat.blt pc 221 then (bif Nat.beq pc 220 then some (.iconst 1, 0, 1) else none) else (bif Nat.beq pc 221 then some (.ireturn, 0, 0) else none)))))))
abbrev m_X0_copyFrom : Nat := 0
abbrev m_X0_begin : Nat := 1
abbrev m_X0_become : Nat := 2
abbrev m_X0_isInUse : Nat := 3
abbrev m_X0_maskOf : Nat := 4
abbrev m_X0_sizeOf : Nat := 5
abbrev m_X0_warmUpAnHour : Nat := 6
abbrev m_X0_burnFuel : Nat := 7
abbrev m_X0_fuelFor : Nat := 8
abbrev m_X0_fuelSoFar : Nat := 9
abbrev m_X0_firstByMerit : Nat := 10
abbrev m_X1_copyFrom : Nat := 11
abbrev m_X1_hourOfNow : Nat := 12
abbrev m_X1_hasStill : Nat := 13
abbrev m_X1_loadOf : Nat := 14
abbrev m_X1_letHoursGoBy : Nat := 15
abbrev m_X1_letAnHourGoBy : Nat := 16
abbrev m_X1_changeWarmth : Nat := 17
abbrev m_X1_darkHours : Nat := 18
abbrev m_X1_safeHours : Nat := 19
abbrev m_X3_shareOut : Nat := 20
abbrev m_X3_giveByMerit : Nat := 21
abbrev m_X4_rate : Nat := 22
abbrev m_X4_start : Nat := 23
abbrev m_X4_stop : Nat := 24
abbrev m_X4_lose : Nat := 25
abbrev m_X4_shed : Nat := 26
abbrev m_X4_forecast : Nat := 27
abbrev m_X4_pass : Nat := 28
abbrev m_X4_set : Nat := 29
abbrev m_X4_undo : Nat := 30
abbrev m_X4_setOf : Nat := 31
abbrev m_X4_hour : Nat := 32
abbrev m_X4_count : Nat := 33
abbrev m_X4_ifLost : Nat := 34
abbrev m_X4_cheapest : Nat := 35
abbrev m_X4_firstDark : Nat := 36
abbrev m_X4_ifShed : Nat := 37
abbrev m_X4_bestStart : Nat := 38
abbrev m_X4_safeShare : Nat := 39
abbrev m_X4_saveState : Nat := 40
abbrev m_X4_shareOutNow : Nat := 41
abbrev m_X4_requireArgument : Nat := 42
abbrev m_X4_requireState : Nat := 43
abbrev m_X4_requireSetting : Nat := 44
abbrev m_X4_isFrom : Nat := 45
abbrev m_X4_isSet : Nat := 46
abbrev m_X4_isHour : Nat := 47
abbrev m_X4_oneIf : Nat := 48
abbrev m_J6_bitCount : Nat := 49
abbrev m_L_cell : Nat := 50
abbrev m_L_low : Nat := 51
abbrev m_L_does : Nat := 52
abbrev m_L_areSetsSo : Nat := 53
abbrev m_L_areHoursSo : Nat := 54
abbrev m_L_areIfsSo : Nat := 55
abbrev m_L_isBetter : Nat := 56
abbrev m_L_law : Nat := 57
def z_len (m : Nat) : Nat := bif Nat.blt m 29 then (bif Nat.blt m 14 then (bif Nat.blt m 7 then (bif Nat.blt m 3 then (bif Nat.blt m 1 then (113) else (bif Nat.blt m 2 then (33) else (15))) else (bif Nat.blt m 5 then (bif Nat.blt m 4 then (26) else (33)) else (bif Nat.blt m 6 then (9) else (49)))) else (bif Nat.blt m 10 then (bif Nat.blt m 8 then (62) else (bif Nat.blt m 9 then (39) else (26))) else (bif Nat.blt m 12 then (bif Nat.blt m 11 then (60) else (91)) else (bif Nat.blt m 13 then (10) else (17))))) else (bif Nat.blt m 21 then (bif Nat.blt m 17 then (bif Nat.blt m 15 then (27) else (bif Nat.blt m 16 then (28) else (149))) else (bif Nat.blt m 19 then (bif Nat.blt m 18 then (60) else (48)) else (bif Nat.blt m 20 then (37) else (171)))) else (bif Nat.blt m 25 then (bif Nat.blt m 23 then (bif Nat.blt m 22 then (98) else (163)) else (bif Nat.blt m 24 then (58) else (49))) else (bif Nat.blt m 27 then (bif Nat.blt m 26 then (63) else (37)) else (bif Nat.blt m 28 then (56) else (55)))))) else (bif Nat.blt m 43 then (bif Nat.blt m 36 then (bif Nat.blt m 32 then (bif Nat.blt m 30 then (54) else (bif Nat.blt m 31 then (54) else (150))) else (bif Nat.blt m 34 then (bif Nat.blt m 33 then (56) else (248)) else (bif Nat.blt m 35 then (62) else (158)))) else (bif Nat.blt m 39 then (bif Nat.blt m 37 then (62) else (bif Nat.blt m 38 then (91) else (173))) else (bif Nat.blt m 41 then (bif Nat.blt m 40 then (30) else (67)) else (bif Nat.blt m 42 then (40) else (16))))) else (bif Nat.blt m 50 then (bif Nat.blt m 46 then (bif Nat.blt m 44 then (16) else (bif Nat.blt m 45 then (21) else (16))) else (bif Nat.blt m 48 then (bif Nat.blt m 47 then (7) else (8)) else (bif Nat.blt m 49 then (10) else (53)))) else (bif Nat.blt m 54 then (bif Nat.blt m 52 then (bif Nat.blt m 51 then (25) else (7)) else (bif Nat.blt m 53 then (314) else (655))) else (bif Nat.blt m 56 then (bif Nat.blt m 55 then (254) else (327)) else (bif Nat.blt m 57 then (93) else (222))))))
def z_ins (m pc : Nat) : Option (Instr × Nat × Int32) := bif Nat.blt m 58 && Nat.blt pc (z_len m) then (bif Nat.blt m 29 then (bif Nat.blt m 14 then (bif Nat.blt m 7 then (bif Nat.blt m 3 then (bif Nat.blt m 1 then (z_c0 pc) else (bif Nat.blt m 2 then (z_c1 pc) else (z_c2 pc))) else (bif Nat.blt m 5 then (bif Nat.blt m 4 then (z_c3 pc) else (z_c4 pc)) else (bif Nat.blt m 6 then (z_c5 pc) else (z_c6 pc)))) else (bif Nat.blt m 10 then (bif Nat.blt m 8 then (z_c7 pc) else (bif Nat.blt m 9 then (z_c8 pc) else (z_c9 pc))) else (bif Nat.blt m 12 then (bif Nat.blt m 11 then (z_c10 pc) else (z_c11 pc)) else (bif Nat.blt m 13 then (z_c12 pc) else (z_c13 pc))))) else (bif Nat.blt m 21 then (bif Nat.blt m 17 then (bif Nat.blt m 15 then (z_c14 pc) else (bif Nat.blt m 16 then (z_c15 pc) else (z_c16 pc))) else (bif Nat.blt m 19 then (bif Nat.blt m 18 then (z_c17 pc) else (z_c18 pc)) else (bif Nat.blt m 20 then (z_c19 pc) else (z_c20 pc)))) else (bif Nat.blt m 25 then (bif Nat.blt m 23 then (bif Nat.blt m 22 then (z_c21 pc) else (z_c22 pc)) else (bif Nat.blt m 24 then (z_c23 pc) else (z_c24 pc))) else (bif Nat.blt m 27 then (bif Nat.blt m 26 then (z_c25 pc) else (z_c26 pc)) else (bif Nat.blt m 28 then (z_c27 pc) else (z_c28 pc)))))) else (bif Nat.blt m 43 then (bif Nat.blt m 36 then (bif Nat.blt m 32 then (bif Nat.blt m 30 then (z_c29 pc) else (bif Nat.blt m 31 then (z_c30 pc) else (z_c31 pc))) else (bif Nat.blt m 34 then (bif Nat.blt m 33 then (z_c32 pc) else (z_c33 pc)) else (bif Nat.blt m 35 then (z_c34 pc) else (z_c35 pc)))) else (bif Nat.blt m 39 then (bif Nat.blt m 37 then (z_c36 pc) else (bif Nat.blt m 38 then (z_c37 pc) else (z_c38 pc))) else (bif Nat.blt m 41 then (bif Nat.blt m 40 then (z_c39 pc) else (z_c40 pc)) else (bif Nat.blt m 42 then (z_c41 pc) else (z_c42 pc))))) else (bif Nat.blt m 50 then (bif Nat.blt m 46 then (bif Nat.blt m 44 then (z_c43 pc) else (bif Nat.blt m 45 then (z_c44 pc) else (z_c45 pc))) else (bif Nat.blt m 48 then (bif Nat.blt m 47 then (z_c46 pc) else (z_c47 pc)) else (bif Nat.blt m 49 then (z_c48 pc) else (z_c49 pc)))) else (bif Nat.blt m 54 then (bif Nat.blt m 52 then (bif Nat.blt m 51 then (z_c50 pc) else (z_c51 pc)) else (bif Nat.blt m 53 then (z_c52 pc) else (z_c53 pc))) else (bif Nat.blt m 56 then (bif Nat.blt m 55 then (z_c54 pc) else (z_c55 pc)) else (bif Nat.blt m 57 then (z_c56 pc) else (z_c57 pc))))))) else none
def z_own (m : Nat) : Nat := bif Nat.blt m 29 then (bif Nat.blt m 14 then (bif Nat.blt m 7 then (bif Nat.blt m 3 then (bif Nat.blt m 1 then (0) else (bif Nat.blt m 2 then (0) else (0))) else (bif Nat.blt m 5 then (bif Nat.blt m 4 then (0) else (0)) else (bif Nat.blt m 6 then (0) else (0)))) else (bif Nat.blt m 10 then (bif Nat.blt m 8 then (0) else (bif Nat.blt m 9 then (0) else (0))) else (bif Nat.blt m 12 then (bif Nat.blt m 11 then (0) else (1)) else (bif Nat.blt m 13 then (1) else (1))))) else (bif Nat.blt m 21 then (bif Nat.blt m 17 then (bif Nat.blt m 15 then (1) else (bif Nat.blt m 16 then (1) else (1))) else (bif Nat.blt m 19 then (bif Nat.blt m 18 then (1) else (1)) else (bif Nat.blt m 20 then (1) else (3)))) else (bif Nat.blt m 25 then (bif Nat.blt m 23 then (bif Nat.blt m 22 then (3) else (4)) else (bif Nat.blt m 24 then (4) else (4))) else (bif Nat.blt m 27 then (bif Nat.blt m 26 then (4) else (4)) else (bif Nat.blt m 28 then (4) else (4)))))) else (bif Nat.blt m 43 then (bif Nat.blt m 36 then (bif Nat.blt m 32 then (bif Nat.blt m 30 then (4) else (bif Nat.blt m 31 then (4) else (4))) else (bif Nat.blt m 34 then (bif Nat.blt m 33 then (4) else (4)) else (bif Nat.blt m 35 then (4) else (4)))) else (bif Nat.blt m 39 then (bif Nat.blt m 37 then (4) else (bif Nat.blt m 38 then (4) else (4))) else (bif Nat.blt m 41 then (bif Nat.blt m 40 then (4) else (4)) else (bif Nat.blt m 42 then (4) else (4))))) else (bif Nat.blt m 50 then (bif Nat.blt m 46 then (bif Nat.blt m 44 then (4) else (bif Nat.blt m 45 then (4) else (4))) else (bif Nat.blt m 48 then (bif Nat.blt m 47 then (4) else (4)) else (bif Nat.blt m 49 then (4) else (6)))) else (bif Nat.blt m 54 then (bif Nat.blt m 52 then (bif Nat.blt m 51 then (8) else (8)) else (bif Nat.blt m 53 then (8) else (8))) else (bif Nat.blt m 56 then (bif Nat.blt m 55 then (8) else (8)) else (bif Nat.blt m 57 then (8) else (8))))))
def z_ml (m : Nat) : Nat := bif Nat.blt m 29 then (bif Nat.blt m 14 then (bif Nat.blt m 7 then (bif Nat.blt m 3 then (bif Nat.blt m 1 then (2) else (bif Nat.blt m 2 then (2) else (3))) else (bif Nat.blt m 5 then (bif Nat.blt m 4 then (2) else (4)) else (bif Nat.blt m 6 then (2) else (2)))) else (bif Nat.blt m 10 then (bif Nat.blt m 8 then (3) else (bif Nat.blt m 9 then (4) else (3))) else (bif Nat.blt m 12 then (bif Nat.blt m 11 then (5) else (3)) else (bif Nat.blt m 13 then (1) else (2))))) else (bif Nat.blt m 21 then (bif Nat.blt m 17 then (bif Nat.blt m 15 then (2) else (bif Nat.blt m 16 then (4) else (4))) else (bif Nat.blt m 19 then (bif Nat.blt m 18 then (1) else (3)) else (bif Nat.blt m 20 then (3) else (8)))) else (bif Nat.blt m 25 then (bif Nat.blt m 23 then (bif Nat.blt m 22 then (9) else (7)) else (bif Nat.blt m 24 then (2) else (2))) else (bif Nat.blt m 27 then (bif Nat.blt m 26 then (3) else (1)) else (bif Nat.blt m 28 then (4) else (3)))))) else (bif Nat.blt m 43 then (bif Nat.blt m 36 then (bif Nat.blt m 32 then (bif Nat.blt m 30 then (5) else (bif Nat.blt m 31 then (1) else (4))) else (bif Nat.blt m 34 then (bif Nat.blt m 33 then (3) else (2)) else (bif Nat.blt m 35 then (3) else (9)))) else (bif Nat.blt m 39 then (bif Nat.blt m 37 then (2) else (bif Nat.blt m 38 then (2) else (8))) else (bif Nat.blt m 41 then (bif Nat.blt m 40 then (1) else (1)) else (bif Nat.blt m 42 then (1) else (1))))) else (bif Nat.blt m 50 then (bif Nat.blt m 46 then (bif Nat.blt m 44 then (1) else (bif Nat.blt m 45 then (1) else (3))) else (bif Nat.blt m 48 then (bif Nat.blt m 47 then (1) else (1)) else (bif Nat.blt m 49 then (1) else (1)))) else (bif Nat.blt m 54 then (bif Nat.blt m 52 then (bif Nat.blt m 51 then (2) else (2)) else (bif Nat.blt m 53 then (6) else (12))) else (bif Nat.blt m 56 then (bif Nat.blt m 55 then (7) else (13)) else (bif Nat.blt m 57 then (11) else (9))))))
def z_rt (m : Nat) : Nat := bif Nat.blt m 29 then (bif Nat.blt m 14 then (bif Nat.blt m 7 then (bif Nat.blt m 3 then (bif Nat.blt m 1 then (0) else (bif Nat.blt m 2 then (0) else (0))) else (bif Nat.blt m 5 then (bif Nat.blt m 4 then (2) else (1)) else (bif Nat.blt m 6 then (1) else (0)))) else (bif Nat.blt m 10 then (bif Nat.blt m 8 then (0) else (bif Nat.blt m 9 then (1) else (1))) else (bif Nat.blt m 12 then (bif Nat.blt m 11 then (1) else (0)) else (bif Nat.blt m 13 then (1) else (2))))) else (bif Nat.blt m 21 then (bif Nat.blt m 17 then (bif Nat.blt m 15 then (1) else (bif Nat.blt m 16 then (0) else (0))) else (bif Nat.blt m 19 then (bif Nat.blt m 18 then (0) else (1)) else (bif Nat.blt m 20 then (1) else (0)))) else (bif Nat.blt m 25 then (bif Nat.blt m 23 then (bif Nat.blt m 22 then (1) else (1)) else (bif Nat.blt m 24 then (1) else (1))) else (bif Nat.blt m 27 then (bif Nat.blt m 26 then (1) else (1)) else (bif Nat.blt m 28 then (1) else (1)))))) else (bif Nat.blt m 43 then (bif Nat.blt m 36 then (bif Nat.blt m 32 then (bif Nat.blt m 30 then (1) else (bif Nat.blt m 31 then (1) else (1))) else (bif Nat.blt m 34 then (bif Nat.blt m 33 then (1) else (1)) else (bif Nat.blt m 35 then (1) else (1)))) else (bif Nat.blt m 39 then (bif Nat.blt m 37 then (1) else (bif Nat.blt m 38 then (1) else (1))) else (bif Nat.blt m 41 then (bif Nat.blt m 40 then (4) else (0)) else (bif Nat.blt m 42 then (0) else (0))))) else (bif Nat.blt m 50 then (bif Nat.blt m 46 then (bif Nat.blt m 44 then (0) else (bif Nat.blt m 45 then (0) else (2))) else (bif Nat.blt m 48 then (bif Nat.blt m 47 then (2) else (2)) else (bif Nat.blt m 49 then (1) else (1)))) else (bif Nat.blt m 54 then (bif Nat.blt m 52 then (bif Nat.blt m 51 then (1) else (1)) else (bif Nat.blt m 53 then (1) else (2))) else (bif Nat.blt m 56 then (bif Nat.blt m 55 then (2) else (2)) else (bif Nat.blt m 57 then (2) else (2))))))
def z_na (m : Nat) : Nat := bif Nat.blt m 29 then (bif Nat.blt m 14 then (bif Nat.blt m 7 then (bif Nat.blt m 3 then (bif Nat.blt m 1 then (2) else (bif Nat.blt m 2 then (2) else (3))) else (bif Nat.blt m 5 then (bif Nat.blt m 4 then (2) else (2)) else (bif Nat.blt m 6 then (2) else (1)))) else (bif Nat.blt m 10 then (bif Nat.blt m 8 then (2) else (bif Nat.blt m 9 then (2) else (1))) else (bif Nat.blt m 12 then (bif Nat.blt m 11 then (2) else (2)) else (bif Nat.blt m 13 then (1) else (2))))) else (bif Nat.blt m 21 then (bif Nat.blt m 17 then (bif Nat.blt m 15 then (2) else (bif Nat.blt m 16 then (3) else (2))) else (bif Nat.blt m 19 then (bif Nat.blt m 18 then (1) else (1)) else (bif Nat.blt m 20 then (1) else (4)))) else (bif Nat.blt m 25 then (bif Nat.blt m 23 then (bif Nat.blt m 22 then (4) else (6)) else (bif Nat.blt m 24 then (2) else (2))) else (bif Nat.blt m 27 then (bif Nat.blt m 26 then (2) else (1)) else (bif Nat.blt m 28 then (3) else (2)))))) else (bif Nat.blt m 43 then (bif Nat.blt m 36 then (bif Nat.blt m 32 then (bif Nat.blt m 30 then (3) else (bif Nat.blt m 31 then (1) else (3))) else (bif Nat.blt m 34 then (bif Nat.blt m 33 then (3) else (2)) else (bif Nat.blt m 35 then (2) else (3)))) else (bif Nat.blt m 39 then (bif Nat.blt m 37 then (1) else (bif Nat.blt m 38 then (1) else (1))) else (bif Nat.blt m 41 then (bif Nat.blt m 40 then (1) else (1)) else (bif Nat.blt m 42 then (1) else (1))))) else (bif Nat.blt m 50 then (bif Nat.blt m 46 then (bif Nat.blt m 44 then (1) else (bif Nat.blt m 45 then (1) else (3))) else (bif Nat.blt m 48 then (bif Nat.blt m 47 then (1) else (1)) else (bif Nat.blt m 49 then (1) else (1)))) else (bif Nat.blt m 54 then (bif Nat.blt m 52 then (bif Nat.blt m 51 then (2) else (2)) else (bif Nat.blt m 53 then (2) else (1))) else (bif Nat.blt m 56 then (bif Nat.blt m 55 then (1) else (1)) else (bif Nat.blt m 57 then (7) else (1))))))
def z_stc (m : Nat) : Bool := bif Nat.blt m 29 then (bif Nat.blt m 14 then (bif Nat.blt m 7 then (bif Nat.blt m 3 then (bif Nat.blt m 1 then (false) else (bif Nat.blt m 2 then (false) else (false))) else (bif Nat.blt m 5 then (bif Nat.blt m 4 then (false) else (false)) else (bif Nat.blt m 6 then (false) else (false)))) else (bif Nat.blt m 10 then (bif Nat.blt m 8 then (false) else (bif Nat.blt m 9 then (false) else (false))) else (bif Nat.blt m 12 then (bif Nat.blt m 11 then (false) else (false)) else (bif Nat.blt m 13 then (false) else (false))))) else (bif Nat.blt m 21 then (bif Nat.blt m 17 then (bif Nat.blt m 15 then (false) else (bif Nat.blt m 16 then (false) else (false))) else (bif Nat.blt m 19 then (bif Nat.blt m 18 then (false) else (false)) else (bif Nat.blt m 20 then (false) else (false)))) else (bif Nat.blt m 25 then (bif Nat.blt m 23 then (bif Nat.blt m 22 then (false) else (false)) else (bif Nat.blt m 24 then (false) else (false))) else (bif Nat.blt m 27 then (bif Nat.blt m 26 then (false) else (false)) else (bif Nat.blt m 28 then (false) else (false)))))) else (bif Nat.blt m 43 then (bif Nat.blt m 36 then (bif Nat.blt m 32 then (bif Nat.blt m 30 then (false) else (bif Nat.blt m 31 then (false) else (false))) else (bif Nat.blt m 34 then (bif Nat.blt m 33 then (false) else (false)) else (bif Nat.blt m 35 then (false) else (false)))) else (bif Nat.blt m 39 then (bif Nat.blt m 37 then (false) else (bif Nat.blt m 38 then (false) else (false))) else (bif Nat.blt m 41 then (bif Nat.blt m 40 then (false) else (false)) else (bif Nat.blt m 42 then (false) else (true))))) else (bif Nat.blt m 50 then (bif Nat.blt m 46 then (bif Nat.blt m 44 then (true) else (bif Nat.blt m 45 then (true) else (true))) else (bif Nat.blt m 48 then (bif Nat.blt m 47 then (true) else (true)) else (bif Nat.blt m 49 then (true) else (true)))) else (bif Nat.blt m 54 then (bif Nat.blt m 52 then (bif Nat.blt m 51 then (true) else (true)) else (bif Nat.blt m 53 then (true) else (true))) else (bif Nat.blt m 56 then (bif Nat.blt m 55 then (true) else (true)) else (bif Nat.blt m 57 then (true) else (true))))))
def z_FR (m : Nat) : Nat := bif Nat.blt m 29 then (bif Nat.blt m 14 then (bif Nat.blt m 7 then (bif Nat.blt m 3 then (bif Nat.blt m 1 then (1) else (bif Nat.blt m 2 then (0) else (0))) else (bif Nat.blt m 5 then (bif Nat.blt m 4 then (0) else (0)) else (bif Nat.blt m 6 then (1) else (1)))) else (bif Nat.blt m 10 then (bif Nat.blt m 8 then (0) else (bif Nat.blt m 9 then (0) else (0))) else (bif Nat.blt m 12 then (bif Nat.blt m 11 then (0) else (2)) else (bif Nat.blt m 13 then (1) else (0))))) else (bif Nat.blt m 21 then (bif Nat.blt m 17 then (bif Nat.blt m 15 then (0) else (bif Nat.blt m 16 then (4) else (3))) else (bif Nat.blt m 19 then (bif Nat.blt m 18 then (1) else (1)) else (bif Nat.blt m 20 then (0) else (2)))) else (bif Nat.blt m 25 then (bif Nat.blt m 23 then (bif Nat.blt m 22 then (1) else (7)) else (bif Nat.blt m 24 then (7) else (7))) else (bif Nat.blt m 27 then (bif Nat.blt m 26 then (7) else (4)) else (bif Nat.blt m 28 then (7) else (7)))))) else (bif Nat.blt m 43 then (bif Nat.blt m 36 then (bif Nat.blt m 32 then (bif Nat.blt m 30 then (7) else (bif Nat.blt m 31 then (7) else (7))) else (bif Nat.blt m 34 then (bif Nat.blt m 33 then (7) else (7)) else (bif Nat.blt m 35 then (7) else (7)))) else (bif Nat.blt m 39 then (bif Nat.blt m 37 then (5) else (bif Nat.blt m 38 then (5) else (5))) else (bif Nat.blt m 41 then (bif Nat.blt m 40 then (1) else (3)) else (bif Nat.blt m 42 then (3) else (6))))) else (bif Nat.blt m 50 then (bif Nat.blt m 46 then (bif Nat.blt m 44 then (6) else (bif Nat.blt m 45 then (6) else (0))) else (bif Nat.blt m 48 then (bif Nat.blt m 47 then (1) else (1)) else (bif Nat.blt m 49 then (0) else (0)))) else (bif Nat.blt m 54 then (bif Nat.blt m 52 then (bif Nat.blt m 51 then (0) else (0)) else (bif Nat.blt m 53 then (8) else (8))) else (bif Nat.blt m 56 then (bif Nat.blt m 55 then (8) else (9)) else (bif Nat.blt m 57 then (8) else (10))))))
def z_LR (m : Nat) : Nat := bif Nat.blt m 29 then (bif Nat.blt m 14 then (bif Nat.blt m 7 then (bif Nat.blt m 3 then (bif Nat.blt m 1 then (60) else (bif Nat.blt m 2 then (0) else (0))) else (bif Nat.blt m 5 then (bif Nat.blt m 4 then (0) else (0)) else (bif Nat.blt m 6 then (23) else (22)))) else (bif Nat.blt m 10 then (bif Nat.blt m 8 then (0) else (bif Nat.blt m 9 then (0) else (0))) else (bif Nat.blt m 12 then (bif Nat.blt m 11 then (0) else (81)) else (bif Nat.blt m 13 then (60) else (0))))) else (bif Nat.blt m 21 then (bif Nat.blt m 17 then (bif Nat.blt m 15 then (0) else (bif Nat.blt m 16 then (138) else (115))) else (bif Nat.blt m 19 then (bif Nat.blt m 18 then (60) else (20)) else (bif Nat.blt m 20 then (0) else (88)))) else (bif Nat.blt m 25 then (bif Nat.blt m 23 then (bif Nat.blt m 22 then (60) else (123)) else (bif Nat.blt m 24 then (123) else (123))) else (bif Nat.blt m 27 then (bif Nat.blt m 26 then (123) else (123)) else (bif Nat.blt m 28 then (123) else (161)))))) else (bif Nat.blt m 43 then (bif Nat.blt m 36 then (bif Nat.blt m 32 then (bif Nat.blt m 30 then (123) else (bif Nat.blt m 31 then (110) else (135))) else (bif Nat.blt m 34 then (bif Nat.blt m 33 then (110) else (135)) else (bif Nat.blt m 35 then (115) else (115)))) else (bif Nat.blt m 39 then (bif Nat.blt m 37 then (161) else (bif Nat.blt m 38 then (161) else (161))) else (bif Nat.blt m 41 then (bif Nat.blt m 40 then (22) else (103)) else (bif Nat.blt m 42 then (115) else (90))))) else (bif Nat.blt m 50 then (bif Nat.blt m 46 then (bif Nat.blt m 44 then (90) else (bif Nat.blt m 45 then (90) else (0))) else (bif Nat.blt m 48 then (bif Nat.blt m 47 then (22) else (22)) else (bif Nat.blt m 49 then (0) else (0)))) else (bif Nat.blt m 54 then (bif Nat.blt m 52 then (bif Nat.blt m 51 then (0) else (0)) else (bif Nat.blt m 53 then (183) else (158))) else (bif Nat.blt m 56 then (bif Nat.blt m 55 then (156) else (213)) else (bif Nat.blt m 57 then (183) else (245))))))
def z_y (m : Nat) : MethodName := bif Nat.blt m 29 then (bif Nat.blt m 14 then (bif Nat.blt m 7 then (bif Nat.blt m 3 then (bif Nat.blt m 1 then (yX0_copyFrom) else (bif Nat.blt m 2 then (yX0_begin) else (yX0_become))) else (bif Nat.blt m 5 then (bif Nat.blt m 4 then (yX0_isInUse) else (yX0_maskOf)) else (bif Nat.blt m 6 then (yX0_sizeOf) else (yX0_warmUpAnHour)))) else (bif Nat.blt m 10 then (bif Nat.blt m 8 then (yX0_burnFuel) else (bif Nat.blt m 9 then (yX0_fuelFor) else (yX0_fuelSoFar))) else (bif Nat.blt m 12 then (bif Nat.blt m 11 then (yX0_firstByMerit) else (yX1_copyFrom)) else (bif Nat.blt m 13 then (yX1_hourOfNow) else (yX1_hasStill))))) else (bif Nat.blt m 21 then (bif Nat.blt m 17 then (bif Nat.blt m 15 then (yX1_loadOf) else (bif Nat.blt m 16 then (yX1_letHoursGoBy) else (yX1_letAnHourGoBy))) else (bif Nat.blt m 19 then (bif Nat.blt m 18 then (yX1_changeWarmth) else (yX1_darkHours)) else (bif Nat.blt m 20 then (yX1_safeHours) else (yX3_shareOut)))) else (bif Nat.blt m 25 then (bif Nat.blt m 23 then (bif Nat.blt m 22 then (yX3_giveByMerit) else (yX4_rate)) else (bif Nat.blt m 24 then (yX4_start) else (yX4_stop))) else (bif Nat.blt m 27 then (bif Nat.blt m 26 then (yX4_lose) else (yX4_shed)) else (bif Nat.blt m 28 then (yX4_forecast) else (yX4_pass)))))) else (bif Nat.blt m 43 then (bif Nat.blt m 36 then (bif Nat.blt m 32 then (bif Nat.blt m 30 then (yX4_set) else (bif Nat.blt m 31 then (yX4_undo) else (yX4_setOf))) else (bif Nat.blt m 34 then (bif Nat.blt m 33 then (yX4_hour) else (yX4_count)) else (bif Nat.blt m 35 then (yX4_ifLost) else (yX4_cheapest)))) else (bif Nat.blt m 39 then (bif Nat.blt m 37 then (yX4_firstDark) else (bif Nat.blt m 38 then (yX4_ifShed) else (yX4_bestStart))) else (bif Nat.blt m 41 then (bif Nat.blt m 40 then (yX4_safeShare) else (yX4_saveState)) else (bif Nat.blt m 42 then (yX4_shareOutNow) else (yX4_requireArgument))))) else (bif Nat.blt m 50 then (bif Nat.blt m 46 then (bif Nat.blt m 44 then (yX4_requireState) else (bif Nat.blt m 45 then (yX4_requireSetting) else (yX4_isFrom))) else (bif Nat.blt m 48 then (bif Nat.blt m 47 then (yX4_isSet) else (yX4_isHour)) else (bif Nat.blt m 49 then (yX4_oneIf) else (yJ6_bitCount_0f7a4)))) else (bif Nat.blt m 54 then (bif Nat.blt m 52 then (bif Nat.blt m 51 then (yL_cell) else (yL_low)) else (bif Nat.blt m 53 then (yL_does) else (yL_areSetsSo))) else (bif Nat.blt m 56 then (bif Nat.blt m 55 then (yL_areHoursSo) else (yL_areIfsSo)) else (bif Nat.blt m 57 then (yL_isBetter) else (yL_law))))))
def z_b (m : Nat) : ByteArray := bif Nat.blt m 29 then (bif Nat.blt m 14 then (bif Nat.blt m 7 then (bif Nat.blt m 3 then (bif Nat.blt m 1 then (cX0_copyFrom) else (bif Nat.blt m 2 then (cX0_begin) else (cX0_become))) else (bif Nat.blt m 5 then (bif Nat.blt m 4 then (cX0_isInUse) else (cX0_maskOf)) else (bif Nat.blt m 6 then (cX0_sizeOf) else (cX0_warmUpAnHour)))) else (bif Nat.blt m 10 then (bif Nat.blt m 8 then (cX0_burnFuel) else (bif Nat.blt m 9 then (cX0_fuelFor) else (cX0_fuelSoFar))) else (bif Nat.blt m 12 then (bif Nat.blt m 11 then (cX0_firstByMerit) else (cX1_copyFrom)) else (bif Nat.blt m 13 then (cX1_hourOfNow) else (cX1_hasStill))))) else (bif Nat.blt m 21 then (bif Nat.blt m 17 then (bif Nat.blt m 15 then (cX1_loadOf) else (bif Nat.blt m 16 then (cX1_letHoursGoBy) else (cX1_letAnHourGoBy))) else (bif Nat.blt m 19 then (bif Nat.blt m 18 then (cX1_changeWarmth) else (cX1_darkHours)) else (bif Nat.blt m 20 then (cX1_safeHours) else (cX3_shareOut)))) else (bif Nat.blt m 25 then (bif Nat.blt m 23 then (bif Nat.blt m 22 then (cX3_giveByMerit) else (cX4_rate)) else (bif Nat.blt m 24 then (cX4_start) else (cX4_stop))) else (bif Nat.blt m 27 then (bif Nat.blt m 26 then (cX4_lose) else (cX4_shed)) else (bif Nat.blt m 28 then (cX4_forecast) else (cX4_pass)))))) else (bif Nat.blt m 43 then (bif Nat.blt m 36 then (bif Nat.blt m 32 then (bif Nat.blt m 30 then (cX4_set) else (bif Nat.blt m 31 then (cX4_undo) else (cX4_setOf))) else (bif Nat.blt m 34 then (bif Nat.blt m 33 then (cX4_hour) else (cX4_count)) else (bif Nat.blt m 35 then (cX4_ifLost) else (cX4_cheapest)))) else (bif Nat.blt m 39 then (bif Nat.blt m 37 then (cX4_firstDark) else (bif Nat.blt m 38 then (cX4_ifShed) else (cX4_bestStart))) else (bif Nat.blt m 41 then (bif Nat.blt m 40 then (cX4_safeShare) else (cX4_saveState)) else (bif Nat.blt m 42 then (cX4_shareOutNow) else (cX4_requireArgument))))) else (bif Nat.blt m 50 then (bif Nat.blt m 46 then (bif Nat.blt m 44 then (cX4_requireState) else (bif Nat.blt m 45 then (cX4_requireSetting) else (cX4_isFrom))) else (bif Nat.blt m 48 then (bif Nat.blt m 47 then (cX4_isSet) else (cX4_isHour)) else (bif Nat.blt m 49 then (cX4_oneIf) else (cJ6_bitCount_0f7a4)))) else (bif Nat.blt m 54 then (bif Nat.blt m 52 then (bif Nat.blt m 51 then (cL_cell) else (cL_low)) else (bif Nat.blt m 53 then (cL_does) else (cL_areSetsSo))) else (bif Nat.blt m 56 then (bif Nat.blt m 55 then (cL_areHoursSo) else (cL_areIfsSo)) else (bif Nat.blt m 57 then (cL_isBetter) else (cL_law))))))
def z_ret (m : Nat) : Option FieldType := match z_rt m with
  | 0 => none
  | 1 => some .int
  | 2 => some .boolean
  | 3 => some .long
  | _ => some .double
def z_hh (m : Nat) : List (Nat × Nat × Nat × Nat) := []
def z_on (o : Nat) : String := match o with
  | 0 => RX0
  | 1 => RX1
  | 2 => RX2
  | 3 => RX3
  | 4 => RX4
  | 5 => RX5
  | 6 => RJ6
  | 7 => RJ9
  | _ => RL
def z_T (c : Nat) : u_T := match c with
  | 0 => TX0
  | 1 => TX1
  | 2 => TX2
  | 3 => TX3
  | 4 => TX4
  | _ => TX5
def z_tyT (c : Nat) : Nat → FieldType := match c with
  | 0 => tyX0
  | 1 => tyX1
  | 2 => tyX2
  | 3 => tyX3
  | 4 => tyX4
  | _ => tyX5
def z_nf (c : Nat) : Nat := match c with
  | 0 => 8
  | 1 => 7
  | 2 => 5
  | 3 => 5
  | 4 => 9
  | _ => 0
/-- a field by its class and entry: class, slot, is it a nest mate's, place of its word -/
def z_fld (o i : Nat) : Option (Nat × Nat × Bool × Nat) := bif Nat.blt o 4 then (bif Nat.blt o 2 then (bif Nat.blt o 1 then (bif Nat.blt i 24 then (bif Nat.blt i 18 then (bif Nat.blt i 15 then (bif Nat.beq i 9 then some (0, 0, false, 64) else none) else (bif Nat.beq i 15 then some (0, 1, false, 67) else none)) else (bif Nat.blt i 21 then (bif Nat.beq i 18 then some (0, 2, false, 70) else none) else (bif Nat.beq i 21 then some (0, 3, false, 72) else none))) else (bif Nat.blt i 30 then (bif Nat.blt i 27 then (bif Nat.beq i 24 then some (0, 4, false, 74) else none) else (bif Nat.beq i 27 then some (0, 5, false, 76) else none)) else (bif Nat.blt i 33 then (bif Nat.beq i 30 then some (0, 6, false, 78) else none) else (bif Nat.beq i 33 then some (0, 7, false, 80) else none)))) else (bif Nat.blt i 38 then (bif Nat.blt i 27 then (bif Nat.blt i 20 then (bif Nat.beq i 12 then some (1, 0, false, 103) else none) else (bif Nat.blt i 23 then (bif Nat.beq i 20 then some (1, 1, false, 105) else none) else (bif Nat.beq i 23 then some (1, 2, false, 107) else none))) else (bif Nat.blt i 31 then (bif Nat.beq i 27 then some (1, 3, false, 109) else none) else (bif Nat.blt i 34 then (bif Nat.beq i 31 then some (1, 4, false, 111) else none) else (bif Nat.beq i 34 then some (1, 5, false, 113) else none)))) else (bif Nat.blt i 89 then (bif Nat.blt i 83 then (bif Nat.beq i 38 then some (1, 6, false, 115) else none) else (bif Nat.blt i 86 then (bif Nat.beq i 83 then some (3, 1, true, 165) else none) else (bif Nat.beq i 86 then some (3, 2, true, 168) else none))) else (bif Nat.blt i 92 then (bif Nat.beq i 89 then some (3, 3, true, 171) else none) else (bif Nat.blt i 99 then (bif Nat.beq i 92 then some (3, 4, true, 174) else none) else (bif Nat.beq i 99 then some (3, 0, true, 162) else none)))))) else (bif Nat.blt o 3 then (bif Nat.blt i 18 then (bif Nat.blt i 15 then (bif Nat.beq i 9 then some (2, 0, false, 139) else none) else (bif Nat.beq i 15 then some (2, 1, false, 140) else none)) else (bif Nat.blt i 21 then (bif Nat.beq i 18 then some (2, 2, false, 141) else none) else (bif Nat.blt i 25 then (bif Nat.beq i 21 then some (2, 3, false, 142) else none) else (bif Nat.beq i 25 then some (2, 4, false, 143) else none)))) else (bif Nat.blt i 22 then (bif Nat.blt i 15 then (bif Nat.beq i 9 then some (3, 0, false, 161) else none) else (bif Nat.blt i 19 then (bif Nat.beq i 15 then some (3, 1, false, 164) else none) else (bif Nat.beq i 19 then some (3, 2, false, 167) else none))) else (bif Nat.blt i 29 then (bif Nat.blt i 25 then (bif Nat.beq i 22 then some (3, 3, false, 170) else none) else (bif Nat.beq i 25 then some (3, 4, false, 173) else none)) else (bif Nat.blt i 34 then (bif Nat.beq i 29 then some (0, 1, true, 68) else none) else (bif Nat.beq i 34 then some (0, 0, true, 65) else none)))))) else (bif Nat.blt o 6 then (bif Nat.blt o 5 then (bif Nat.blt i 87 then (bif Nat.blt i 40 then (bif Nat.blt i 23 then (bif Nat.blt i 16 then (bif Nat.beq i 12 then some (4, 0, false, 187) else none) else (bif Nat.blt i 19 then (bif Nat.beq i 16 then some (4, 1, false, 188) else none) else (bif Nat.beq i 19 then some (4, 2, false, 189) else none))) else (bif Nat.blt i 30 then (bif Nat.blt i 27 then (bif Nat.beq i 23 then some (4, 3, false, 190) else none) else (bif Nat.beq i 27 then some (4, 4, false, 191) else none)) else (bif Nat.blt i 34 then (bif Nat.beq i 30 then some (4, 5, false, 192) else none) else (bif Nat.beq i 34 then some (4, 6, false, 193) else none)))) else (bif Nat.blt i 67 then (bif Nat.blt i 47 then (bif Nat.beq i 40 then some (4, 7, false, 194) else none) else (bif Nat.blt i 63 then (bif Nat.beq i 47 then some (4, 8, false, 195) else none) else (bif Nat.beq i 63 then some (1, 0, true, 104) else none))) else (bif Nat.blt i 81 then (bif Nat.blt i 78 then (bif Nat.beq i 67 then some (0, 4, true, 75) else none) else (bif Nat.beq i 78 then some (0, 0, true, 66) else none)) else (bif Nat.blt i 84 then (bif Nat.beq i 81 then some (0, 1, true, 69) else none) else (bif Nat.beq i 84 then some (0, 2, true, 71) else none))))) else (bif Nat.blt i 181 then (bif Nat.blt i 119 then (bif Nat.blt i 94 then (bif Nat.beq i 87 then some (0, 3, true, 73) else none) else (bif Nat.blt i 108 then (bif Nat.beq i 94 then some (0, 5, true, 77) else none) else (bif Nat.beq i 108 then some (1, 6, true, 116) else none))) else (bif Nat.blt i 175 then (bif Nat.blt i 137 then (bif Nat.beq i 119 then some (1, 1, true, 106) else none) else (bif Nat.beq i 137 then some (1, 2, true, 108) else none)) else (bif Nat.blt i 178 then (bif Nat.beq i 175 then some (3, 0, true, 163) else none) else (bif Nat.beq i 178 then some (0, 6, true, 79) else none)))) else (bif Nat.blt i 199 then (bif Nat.blt i 193 then (bif Nat.blt i 184 then (bif Nat.beq i 181 then some (0, 7, true, 81) else none) else (bif Nat.beq i 184 then some (1, 3, true, 110) else none)) else (bif Nat.blt i 196 then (bif Nat.beq i 193 then some (3, 1, true, 166) else none) else (bif Nat.beq i 196 then some (3, 2, true, 169) else none))) else (bif Nat.blt i 205 then (bif Nat.blt i 202 then (bif Nat.beq i 199 then some (3, 3, true, 172) else none) else (bif Nat.beq i 202 then some (3, 4, true, 175) else none)) else (bif Nat.blt i 208 then (bif Nat.beq i 205 then some (1, 4, true, 112) else none) else (bif Nat.beq i 208 then some (1, 5, true, 114) else none)))))) else (none)) else (bif Nat.blt o 7 then (none) else (bif Nat.blt o 8 then (none) else (none))))
/-- a callee: method, is it a nest mate's, place of the link -/
def z_cal (o i : Nat) : Option (Nat × Bool × Nat) := bif Nat.blt o 4 then (bif Nat.blt o 2 then (bif Nat.blt o 1 then (bif Nat.blt i 52 then (bif Nat.beq i 48 then some (4, false, 339) else none) else (bif Nat.blt i 57 then (bif Nat.beq i 52 then some (49, false, 340) else none) else (bif Nat.beq i 57 then some (2, false, 497) else none))) else (bif Nat.blt i 74 then (bif Nat.blt i 67 then (bif Nat.blt i 63 then (bif Nat.beq i 47 then some (0, true, 414) else none) else (bif Nat.beq i 63 then some (16, false, 489) else none)) else (bif Nat.blt i 70 then (bif Nat.beq i 67 then some (6, true, 493) else none) else (bif Nat.beq i 70 then some (14, false, 498) else none))) else (bif Nat.blt i 95 then (bif Nat.blt i 77 then (bif Nat.beq i 74 then some (4, true, 499) else none) else (bif Nat.beq i 77 then some (20, true, 500) else none)) else (bif Nat.blt i 102 then (bif Nat.beq i 95 then some (48, true, 353) else none) else (bif Nat.blt i 106 then (bif Nat.beq i 102 then some (7, true, 501) else none) else (bif Nat.beq i 106 then some (17, false, 505) else none)))))) else (bif Nat.blt o 3 then (none) else (bif Nat.blt i 47 then (bif Nat.beq i 43 then some (21, false, 322) else none) else (bif Nat.beq i 47 then some (10, true, 326) else none)))) else (bif Nat.blt o 6 then (bif Nat.blt o 5 then (bif Nat.blt i 126 then (bif Nat.blt i 97 then (bif Nat.blt i 72 then (bif Nat.blt i 55 then (bif Nat.beq i 51 then some (46, false, 219) else none) else (bif Nat.blt i 59 then (bif Nat.beq i 55 then some (45, false, 222) else none) else (bif Nat.beq i 59 then some (42, false, 225) else none))) else (bif Nat.blt i 75 then (bif Nat.beq i 72 then some (43, false, 387) else none) else (bif Nat.blt i 90 then (bif Nat.beq i 75 then some (40, false, 406) else none) else (bif Nat.beq i 90 then some (1, true, 422) else none)))) else (bif Nat.blt i 112 then (bif Nat.blt i 100 then (bif Nat.beq i 97 then some (3, true, 430) else none) else (bif Nat.blt i 104 then (bif Nat.beq i 100 then some (2, true, 434) else none) else (bif Nat.beq i 104 then some (5, true, 335) else none))) else (bif Nat.blt i 116 then (bif Nat.beq i 112 then some (48, false, 346) else none) else (bif Nat.blt i 123 then (bif Nat.beq i 116 then some (47, false, 366) else none) else (bif Nat.beq i 123 then some (13, true, 481) else none))))) else (bif Nat.blt i 190 then (bif Nat.blt i 168 then (bif Nat.blt i 130 then (bif Nat.beq i 126 then some (18, true, 349) else none) else (bif Nat.blt i 134 then (bif Nat.beq i 130 then some (15, true, 485) else none) else (bif Nat.beq i 134 then some (44, false, 458) else none))) else (bif Nat.blt i 172 then (bif Nat.beq i 168 then some (11, true, 410) else none) else (bif Nat.blt i 187 then (bif Nat.beq i 172 then some (41, false, 296) else none) else (bif Nat.beq i 187 then some (12, true, 304) else none)))) else (bif Nat.blt i 217 then (bif Nat.blt i 211 then (bif Nat.beq i 190 then some (14, true, 311) else none) else (bif Nat.blt i 214 then (bif Nat.beq i 211 then some (19, true, 354) else none) else (bif Nat.beq i 214 then some (9, true, 358) else none))) else (bif Nat.blt i 220 then (bif Nat.beq i 217 then some (4, true, 300) else none) else (bif Nat.blt i 224 then (bif Nat.beq i 220 then some (20, true, 315) else none) else (bif Nat.beq i 224 then some (8, true, 369) else none)))))) else (none)) else (bif Nat.blt o 7 then (none) else (bif Nat.blt o 8 then (none) else (bif Nat.blt i 52 then (bif Nat.blt i 33 then (bif Nat.blt i 23 then (bif Nat.blt i 14 then (bif Nat.beq i 8 then some (51, false, 376) else none) else (bif Nat.blt i 19 then (bif Nat.beq i 14 then some (31, false, 215) else none) else (bif Nat.beq i 19 then some (23, false, 383) else none))) else (bif Nat.blt i 26 then (bif Nat.beq i 23 then some (24, false, 426) else none) else (bif Nat.blt i 29 then (bif Nat.beq i 26 then some (25, false, 438) else none) else (bif Nat.beq i 29 then some (22, false, 442) else none)))) else (bif Nat.blt i 43 then (bif Nat.blt i 37 then (bif Nat.beq i 33 then some (26, false, 446) else none) else (bif Nat.blt i 40 then (bif Nat.beq i 37 then some (27, false, 450) else none) else (bif Nat.beq i 40 then some (29, false, 454) else none))) else (bif Nat.blt i 46 then (bif Nat.beq i 43 then some (33, false, 331) else none) else (bif Nat.blt i 49 then (bif Nat.beq i 46 then some (28, false, 477) else none) else (bif Nat.beq i 49 then some (34, false, 513) else none))))) else (bif Nat.blt i 71 then (bif Nat.blt i 62 then (bif Nat.blt i 56 then (bif Nat.beq i 52 then some (39, false, 520) else none) else (bif Nat.blt i 59 then (bif Nat.beq i 56 then some (32, false, 524) else none) else (bif Nat.beq i 59 then some (36, false, 531) else none))) else (bif Nat.blt i 65 then (bif Nat.beq i 62 then some (37, false, 535) else none) else (bif Nat.blt i 68 then (bif Nat.beq i 65 then some (38, false, 539) else none) else (bif Nat.beq i 68 then some (30, false, 543) else none)))) else (bif Nat.blt i 84 then (bif Nat.blt i 76 then (bif Nat.beq i 71 then some (56, false, 547) else none) else (bif Nat.blt i 80 then (bif Nat.beq i 76 then some (50, false, 373) else none) else (bif Nat.beq i 80 then some (52, false, 380) else none))) else (bif Nat.blt i 91 then (bif Nat.blt i 87 then (bif Nat.beq i 84 then some (35, false, 362) else none) else (bif Nat.beq i 87 then some (53, false, 510) else none)) else (bif Nat.blt i 94 then (bif Nat.beq i 91 then some (54, false, 517) else none) else (bif Nat.beq i 94 then some (55, false, 528) else none)))))))))
/-- natives of the JDK that have a row of their own: 1 arraycopy, 2 max, 3 min -/
def z_sp (o i : Nat) : Nat := bif Nat.blt o 4 then (bif Nat.blt o 2 then (bif Nat.blt o 1 then (bif Nat.beq i 42 then 1 else 0) else (bif Nat.blt i 57 then (bif Nat.beq i 51 then 1 else 0) else (bif Nat.blt i 109 then (bif Nat.beq i 57 then 3 else 0) else (bif Nat.beq i 109 then 2 else 0)))) else (bif Nat.blt o 3 then (0) else (bif Nat.blt i 51 then (bif Nat.beq i 37 then 2 else 0) else (bif Nat.beq i 51 then 3 else 0)))) else (bif Nat.blt o 6 then (bif Nat.blt o 5 then (0) else (0)) else (bif Nat.blt o 7 then (0) else (bif Nat.blt o 8 then (0) else (0))))
def z_spv (o i : Nat) : Nat := bif Nat.blt o 4 then (bif Nat.blt o 2 then (bif Nat.blt o 1 then (bif Nat.beq i 42 then 418 else 0) else (bif Nat.blt i 57 then (bif Nat.beq i 51 then 421 else 0) else (bif Nat.blt i 109 then (bif Nat.beq i 57 then 308 else 0) else (bif Nat.beq i 109 then 509 else 0)))) else (bif Nat.blt o 3 then (0) else (bif Nat.blt i 51 then (bif Nat.beq i 37 then 319 else 0) else (bif Nat.beq i 51 then 330 else 0)))) else (bif Nat.blt o 6 then (bif Nat.blt o 5 then (0) else (0)) else (bif Nat.blt o 7 then (0) else (bif Nat.blt o 8 then (0) else (0))))
def z_kl (o i : Nat) : Option (Int64 × Nat) := bif Nat.blt o 4 then (bif Nat.blt o 2 then (bif Nat.blt o 1 then (none) else (none)) else (bif Nat.blt o 3 then (none) else (none))) else (bif Nat.blt o 6 then (bif Nat.blt o 5 then (none) else (none)) else (bif Nat.blt o 7 then (none) else (bif Nat.blt o 8 then (none) else (none))))
def z_kd (o i : Nat) : Option (UInt64 × Nat) := bif Nat.blt o 4 then (bif Nat.blt o 2 then (bif Nat.blt o 1 then (none) else (none)) else (bif Nat.blt o 3 then (none) else (none))) else (bif Nat.blt o 6 then (bif Nat.blt o 5 then (none) else (none)) else (bif Nat.blt o 7 then (none) else (bif Nat.blt o 8 then (none) else (none))))
def z_ki (o i : Nat) : Option (Int32 × Nat) := bif Nat.blt o 4 then (bif Nat.blt o 2 then (bif Nat.blt o 1 then (none) else (none)) else (bif Nat.blt o 3 then (none) else (none))) else (bif Nat.blt o 6 then (bif Nat.blt o 5 then (none) else (none)) else (bif Nat.blt o 7 then (bif Nat.blt i 266 then (bif Nat.beq i 265 then some (1431655765, 343) else none) else (bif Nat.blt i 267 then (bif Nat.beq i 266 then some (858993459, 344) else none) else (bif Nat.beq i 267 then some (252645135, 345) else none))) else (bif Nat.blt o 8 then (none) else (bif Nat.beq i 7 then some (2147483647, 379) else none))))
/-- where a method makes an exception and throws it: entry of the class, of the text, of the constructor; which exception -/
def z_thr (m pc : Nat) : Option Nat := bif Nat.beq m 42 && Nat.beq pc 4 then some 0 else bif Nat.beq m 43 && Nat.beq pc 4 then some 1 else bif Nat.beq m 44 && Nat.beq pc 9 then some 2 else none
/-- where a method goes on behind its handler of an exception, and the local that takes it -/
def z_han (m e : Nat) : Option (Nat × Nat) := bif Nat.blt e 3 then (none) else none
def z_cov (m pc : Nat) : Bool := (z_hh m).all (fun x => Nat.ble x.1 pc && Nat.blt pc x.2.1)

/-- words on a stack -/
def z_sl : List AV → Nat
  | [] => 0
  | v :: t => (bif z_cat2 v then 2 else 1) + z_sl t
def z_cal8 (m : Nat) (as r : List AV) : Bool := Nat.blt (z_sl r) 9 && Nat.ble (z_sl as) (z_ml m)
def z_cpo (sp dp n : Int32) (a b : Nat) : Bool := !(decide (sp < 0)) && !(decide (dp < 0)) && !(decide (n < 0)) && Nat.ble (sp.toNatClampNeg + n.toNatClampNeg) a && Nat.ble (dp.toNatClampNeg + n.toNatClampNeg) b
def z_cpy (C : Nat → Nat → Nat → Int32) (f p f' p' sp dp n : Nat) : Nat → Nat → Nat → Int32 := fun h q => if q = p' ∧ h = f' then va_cpy (C f p) (C f' p') sp dp n else C h q
/-- the receiver is of the callee's class -/
def z_rcv (m : Nat) (as : List AV) : Bool := match as with
  | .inr (.inr (.inr (_, p))) :: _ => match z_obj p with
    | some (c, _) => Nat.beq c (z_own m)
    | none => false
  | _ => false


def z_j1 (cnd : ClassFile.Cond) (x : Int32) (t n : Nat) : Nat := match cnd with
  | .eq => if x = 0 then t else n
  | .ne => if x = 0 then n else t
  | .lt => if x < 0 then t else n
  | .ge => if 0 ≤ x then t else n
  | .gt => if 0 < x then t else n
  | .le => if x ≤ 0 then t else n
def z_j2 (cnd : ClassFile.Cond) (x y : Int32) (t n : Nat) : Nat := match cnd with
  | .eq => if x = y then t else n
  | .ne => if x = y then n else t
  | .lt => if x < y then t else n
  | .ge => if y ≤ x then t else n
  | .gt => if y < x then t else n
  | .le => if x ≤ y then t else n
def z_ti (t : Int) : Option Nat := bif decide (0 ≤ t) then some t.toNat else none
def z_tab (pc : Nat) (d lo hi : Int) (offs : Array Int) (x : Int32) : Option Nat :=
  bif decide (x.toInt < lo) || decide (hi < x.toInt) then z_ti ((pc : Int) + d) else match offs[(x.toInt - lo).toNat]? with
    | some o => z_ti ((pc : Int) + o)
    | none => none
def z_lkp (pc : Nat) (d : Int) (ps : Array (Int × Int)) (x : Int32) : Option Nat :=
  bif (ps.toList.zip (ps.toList.drop 1)).all (fun (a, next) => a.1 < next.1) then z_ti ((pc : Int) + Op.lookupswitch.offset ps.toList d x.toInt) else none
def z_nf2 (r : UInt64) (c : Cf) : Option (Cf × List Prop) := some (c, [vf_n64 r])
abbrev z_O : Type := Option (Cf × List Prop)
/-- one instruction that calls nothing and does not return -/
def z_st1 (xs : Nat → Int32) (L : Nat) (o : Nat) (i : Instr) (t : Nat) (cs : Int32) (pc : Nat) (ls : Lc) (st : List AV) (M : Mem) : z_O :=
  match i with
  | .aload k => match z_get ls k with
    | some (.inr (.inr (.inr r))) => some ((pc + 2, ls, .inr (.inr (.inr r)) :: st, M), [])
    | _ => none
  | .aload_n k => match z_get ls k.val with
    | some (.inr (.inr (.inr r))) => some ((pc + 1, ls, .inr (.inr (.inr r)) :: st, M), [])
    | _ => none
  | .iload k => match z_get ls k with
    | some (.inl x) => some ((pc + 2, ls, .inl x :: st, M), [])
    | _ => none
  | .iload_n k => match z_get ls k.val with
    | some (.inl x) => some ((pc + 1, ls, .inl x :: st, M), [])
    | _ => none
  | .lload k => match z_get ls k with
    | some (.inr (.inl x)) => some ((pc + 2, ls, .inr (.inl x) :: st, M), [])
    | _ => none
  | .lload_n k => match z_get ls k.val with
    | some (.inr (.inl x)) => some ((pc + 1, ls, .inr (.inl x) :: st, M), [])
    | _ => none
  | .dload k => match z_get ls k with
    | some (.inr (.inr (.inl x))) => some ((pc + 2, ls, .inr (.inr (.inl x)) :: st, M), [])
    | _ => none
  | .dload_n k => match z_get ls k.val with
    | some (.inr (.inr (.inl x))) => some ((pc + 1, ls, .inr (.inr (.inl x)) :: st, M), [])
    | _ => none
  | .istore k => match st with
    | .inl x :: r => some ((pc + 2, z_st1w ls k (.inl x), r, M), [])
    | _ => none
  | .istore_n k => match st with
    | .inl x :: r => some ((pc + 1, z_st1w ls k.val (.inl x), r, M), [])
    | _ => none
  | .astore k => match st with
    | .inr (.inr (.inr x)) :: r => some ((pc + 2, z_st1w ls k (.inr (.inr (.inr x))), r, M), [])
    | _ => none
  | .astore_n k => match st with
    | .inr (.inr (.inr x)) :: r => some ((pc + 1, z_st1w ls k.val (.inr (.inr (.inr x))), r, M), [])
    | _ => none
  | .lstore k => match st with
    | .inr (.inl x) :: r => some ((pc + 2, z_st2w ls k (.inr (.inl x)), r, M), [])
    | _ => none
  | .lstore_n k => match st with
    | .inr (.inl x) :: r => some ((pc + 1, z_st2w ls k.val (.inr (.inl x)), r, M), [])
    | _ => none
  | .dstore k => match st with
    | .inr (.inr (.inl x)) :: r => some ((pc + 2, z_st2w ls k (.inr (.inr (.inl x))), r, M), [])
    | _ => none
  | .dstore_n k => match st with
    | .inr (.inr (.inl x)) :: r => some ((pc + 1, z_st2w ls k.val (.inr (.inr (.inl x))), r, M), [])
    | _ => none
  | .iconst _ => some ((pc + 1, ls, .inl cs :: st, M), [])
  | .bipush _ => some ((pc + 2, ls, .inl cs :: st, M), [])
  | .sipush _ => some ((pc + 3, ls, .inl cs :: st, M), [])
  | .ldc_w k => match z_ki o k with
    | some (v, _) => some ((pc + 3, ls, .inl v :: st, M), [])
    | none => none
  | .ldc k => match z_ki o k with
    | some (v, _) => some ((pc + 2, ls, .inl v :: st, M), [])
    | none => none
  | .ldc2_w k => match z_kl o k with
    | some (v, _) => some ((pc + 3, ls, .inr (.inl v) :: st, M), [])
    | none => match z_kd o k with
      | some (v, _) => some ((pc + 3, ls, .inr (.inr (.inl v)) :: st, M), [])
      | none => none
  | .lconst k => some ((pc + 1, ls, .inr (.inl (Int64.ofNat k.val)) :: st, M), [])
  | .dconst k => match k.val with
    | 0 => some ((pc + 1, ls, .inr (.inr (.inl 0)) :: st, M), [])
    | _ => some ((pc + 1, ls, .inr (.inr (.inl 0x3ff0000000000000)) :: st, M), [])
  | .iinc k _ => match z_get ls k with
    | some (.inl x) => some ((pc + 3, z_st1w ls k (.inl (x + cs)), st, M), [])
    | _ => none
  | .goto _ => some ((t, ls, st, M), [])
  | .ifCond c _ => match st with
    | .inl x :: r => some ((z_j1 c x t (pc + 3), ls, r, M), [])
    | _ => none
  | .if_icmp c _ => match st with
    | .inl y :: .inl x :: r => some ((z_j2 c x y t (pc + 3), ls, r, M), [])
    | _ => none
  | .tableswitch d lo hi offs => match st with
    | .inl x :: r => match z_tab pc d lo hi offs x with
      | some q => some ((q, ls, r, M), [])
      | none => none
    | _ => none
  | .lookupswitch d ps => match st with
    | .inl x :: r => match z_lkp pc d ps x with
      | some q => some ((q, ls, r, M), [])
      | none => none
    | _ => none
  | .iadd => match st with
    | .inl y :: .inl x :: r => some ((pc + 1, ls, .inl (x + y) :: r, M), [])
    | _ => none
  | .isub => match st with
    | .inl y :: .inl x :: r => some ((pc + 1, ls, .inl (x - y) :: r, M), [])
    | _ => none
  | .imul => match st with
    | .inl y :: .inl x :: r => some ((pc + 1, ls, .inl (x * y) :: r, M), [])
    | _ => none
  | .idiv => match st with
    | .inl y :: .inl x :: r => some ((pc + 1, ls, .inl (x / y) :: r, M), [¬ y = 0])
    | _ => none
  | .irem => match st with
    | .inl y :: .inl x :: r => some ((pc + 1, ls, .inl (x - x / y * y) :: r, M), [¬ y = 0])
    | _ => none
  | .ineg => match st with
    | .inl x :: r => some ((pc + 1, ls, .inl (-x) :: r, M), [])
    | _ => none
  | .iand => match st with
    | .inl y :: .inl x :: r => some ((pc + 1, ls, .inl (x &&& y) :: r, M), [])
    | _ => none
  | .ior => match st with
    | .inl y :: .inl x :: r => some ((pc + 1, ls, .inl (x ||| y) :: r, M), [])
    | _ => none
  | .ixor => match st with
    | .inl y :: .inl x :: r => some ((pc + 1, ls, .inl (x ^^^ y) :: r, M), [])
    | _ => none
  | .ishl => match st with
    | .inl y :: .inl x :: r => some ((pc + 1, ls, .inl (x <<< (y &&& 31)) :: r, M), [])
    | _ => none
  | .ishr => match st with
    | .inl y :: .inl x :: r => some ((pc + 1, ls, .inl (x >>> (y &&& 31)) :: r, M), [])
    | _ => none
  | .iushr => match st with
    | .inl y :: .inl x :: r => some ((pc + 1, ls, .inl ((x.toUInt32 >>> (y.toUInt32 &&& Int32.toUInt32 31)).toInt32) :: r, M), [])
    | _ => none
  | .i2l => match st with
    | .inl x :: r => some ((pc + 1, ls, .inr (.inl x.toInt64) :: r, M), [])
    | _ => none
  | .i2d => match st with
    | .inl x :: r => some ((pc + 1, ls, .inr (.inr (.inl (FP.i2d x))) :: r, M), [])
    | _ => none
  | .d2l => match st with
    | .inr (.inr (.inl x)) :: r => some ((pc + 1, ls, .inr (.inl (FP.d2l x)) :: r, M), [])
    | _ => none
  | .ladd => match st with
    | .inr (.inl y) :: .inr (.inl x) :: r => some ((pc + 1, ls, .inr (.inl (x + y)) :: r, M), [])
    | _ => none
  | .lsub => match st with
    | .inr (.inl y) :: .inr (.inl x) :: r => some ((pc + 1, ls, .inr (.inl (x - y)) :: r, M), [])
    | _ => none
  | .lmul => match st with
    | .inr (.inl y) :: .inr (.inl x) :: r => some ((pc + 1, ls, .inr (.inl (x * y)) :: r, M), [])
    | _ => none
  | .lshl => match st with
    | .inl y :: .inr (.inl x) :: r => some ((pc + 1, ls, .inr (.inl (x <<< (y.toInt64 &&& 63))) :: r, M), [])
    | _ => none
  | .lcmp => match st with
    | .inr (.inl y) :: .inr (.inl x) :: r => some ((pc + 1, ls, .inl (lg_cmp x y) :: r, M), [])
    | _ => none
  | .dcmp c => match st with
    | .inr (.inr (.inl y)) :: .inr (.inr (.inl x)) :: r => some ((pc + 1, ls, .inl (Op.cmpValue (FP.dcmp x y) c) :: r, M), [])
    | _ => none
  | .dmul => match st with
    | .inr (.inr (.inl y)) :: .inr (.inr (.inl x)) :: r => z_nf2 (FP.dmul x y) (pc + 1, ls, .inr (.inr (.inl (FP.dmul x y))) :: r, M)
    | _ => none
  | .dsub => match st with
    | .inr (.inr (.inl y)) :: .inr (.inr (.inl x)) :: r => z_nf2 (FP.dsub x y) (pc + 1, ls, .inr (.inr (.inl (FP.dsub x y))) :: r, M)
    | _ => none
  | .ddiv => match st with
    | .inr (.inr (.inl y)) :: .inr (.inr (.inl x)) :: r => z_nf2 (FP.ddiv x y) (pc + 1, ls, .inr (.inr (.inl (FP.ddiv x y))) :: r, M)
    | _ => none
  | .dup => match st with
    | a :: r => bif z_cat2 a then none else some ((pc + 1, ls, a :: a :: r, M), [])
    | _ => none
  | .dup2 => match st with
    | b :: a :: r => bif z_cat2 b || z_cat2 a then none else some ((pc + 1, ls, b :: a :: b :: a :: r, M), [])
    | _ => none
  | .arraylength => match st with
    | .inr (.inr (.inr (f, p))) :: r => match z_obj p with
      | none => some ((pc + 1, ls, .inl (bif Nat.beq p 41 then Int32.ofNat L else Int32.ofNat (z_sz p)) :: r, M), [])
      | some _ => none
    | _ => none
  | .iaload => match st with
    | .inl i :: .inr (.inr (.inr (f, p))) :: r => match z_obj p with
      | some _ => none
      | none => match z_ak p with
        | 0 => bif Nat.beq p 41 then some ((pc + 1, ls, .inl (xs i.toNatClampNeg) :: r, M), [z_inb i L = true]) else some ((pc + 1, ls, .inl (z_ri M f p i.toNatClampNeg) :: r, M), [z_inb i (z_sz p) = true])
        | _ => none
    | _ => none
  | .iastore => match st with
    | .inl x :: .inl i :: .inr (.inr (.inr (f, p))) :: r => match z_obj p with
      | some _ => none
      | none => match z_ak p with
        | 0 => bif Nat.beq p 41 then none else some ((pc + 1, ls, r, z_wi M f p i.toNatClampNeg x), [z_inb i (z_sz p) = true])
        | _ => none
    | _ => none
  | .aaload => match st with
    | .inl i :: .inr (.inr (.inr (f, p))) :: r => match z_ak p with
      | 2 => some ((pc + 1, ls, aR (2 + i.toNatClampNeg) 0 :: r, M), [z_inb i 6 = true])
      | 3 => some ((pc + 1, ls, aR (7 * f + i.toNatClampNeg) 11 :: r, M), [z_inb i 7 = true])
      | _ => none
    | _ => none
  | .getfield k => match st with
    | .inr (.inr (.inr (f, p))) :: r => match z_fld o k, z_obj p with
      | some (c, s, _), some (c', n) => bif Nat.beq c c' && Nat.blt s n then some ((pc + 3, ls, z_rd M f p s :: r, M), []) else none
      | _, _ => none
    | _ => none
  | .putfield k => match st with
    | .inl x :: .inr (.inr (.inr (f, p))) :: r => match z_fld o k, z_obj p with
      | some (c, s, _), some (c', n) => bif Nat.beq c c' && Nat.blt s n then match z_rd M f p s with
          | .inl _ => bif z_fb p s then some ((pc + 3, ls, r, z_wi M f p s x), [z_isB x = true]) else some ((pc + 3, ls, r, z_wi M f p s x), [])
          | _ => none
        else none
      | _, _ => none
    | _ => none
  | .invokestatic k => match z_sp o k with
    | 1 => match st with
      | .inl n :: .inl dp :: .inr (.inr (.inr (f', p'))) :: .inl sp :: .inr (.inr (.inr (f, p))) :: r => match z_obj p, z_obj p' with
        | none, none => bif Nat.beq (z_ak p) 0 && Nat.beq (z_ak p') 0 && Nat.blt p 32 && Nat.blt p' 32 && Nat.blt (z_sl r) 9 then
            some ((pc + 3, ls, r, (z_cpy M.1 f p f' p' sp.toNatClampNeg dp.toNatClampNeg n.toNatClampNeg, M.2)), [z_cpo sp dp n (z_sz p) (z_sz p') = true]) else none
        | _, _ => none
      | _ => none
    | 2 => match st with
      | .inl y :: .inl x :: r => bif Nat.blt (z_sl r) 9 then some ((pc + 3, ls, .inl (if x < y then y else x) :: r, M), []) else none
      | _ => none
    | 3 => match st with
      | .inl y :: .inl x :: r => bif Nat.blt (z_sl r) 9 then some ((pc + 3, ls, .inl (if y < x then y else x) :: r, M), []) else none
      | _ => none
    | _ => none
  | _ => none
def z_blk (xs : Nat → Int32) (L m : Nat) : Nat → Cf → z_O
  | 0, c => some (c, [])
  | n + 1, (pc, ls, st, M) => match z_ins m pc with
    | none => none
    | some (i, t, cs) => match z_st1 xs L (z_own m) i t cs pc ls st M with
      | none => none
      | some (c', O) => match z_blk xs L m n c' with
        | none => none
        | some (c2, O2) => some (c2, O ++ O2)
/-- what a method answers: nothing, a value, or an exception (0: an argument, 1: a state, 2: an index) -/
abbrev z_Rs : Type := Option AV ⊕ Nat
def z_Ex (xs : Nat → Int32) (L : Nat) : Nat → Nat → Cf → z_Rs → Mem → Nat → Prop
  | 0, _, _, _, _, _ => False
  | n + 1, m, (pc, ls, st, M), o, M', k => match z_ins m pc with
    | none => st = [] ∧ ∃ e, z_thr m pc = some e ∧ o = .inr e ∧ M' = M ∧ k = 1
    | some (i, t, cs) => match i with
      | .return_ => z_rt m = 0 ∧ st = [] ∧ o = .inl none ∧ M' = M ∧ k = 0
      | .ireturn => ∃ x, st = [.inl x] ∧ o = .inl (some (.inl x)) ∧ M' = M ∧ k = 0 ∧ (z_rt m = 1 ∨ (z_rt m = 2 ∧ z_isB x = true))
      | .lreturn => ∃ x, st = [.inr (.inl x)] ∧ o = .inl (some (.inr (.inl x))) ∧ M' = M ∧ k = 0 ∧ z_rt m = 3
      | .dreturn => ∃ x, st = [.inr (.inr (.inl x))] ∧ o = .inl (some (.inr (.inr (.inl x)))) ∧ M' = M ∧ k = 0 ∧ z_rt m = 4
      | .invokevirtual j => ∃ (m' : Nat) (b : Bool) (w : Nat) (as r : List AV) (o1 : z_Rs) (M1 : Mem) (k1 k2 : Nat), z_cal (z_own m) j = some (m', b, w) ∧ z_stc m' = false ∧ st = as.reverse ++ r ∧ as.length = z_na m' ∧ z_rcv m' as = true ∧ z_cal8 m' as r = true ∧
          z_Ex xs L n m' (0, z_pad (z_ml m') (z_entL as), [], M) o1 M1 k1 ∧ k = k1 + k2 ∧ (match o1 with
            | .inl v => z_Ex xs L n m (pc + 3, ls, v.toList ++ r, M1) o M' k2
            | .inr e => z_hh m = [] ∧ o = .inr e ∧ M' = M1 ∧ k2 = 0 ∨ ∃ h s, z_han m e = some (h, s) ∧ z_cov m pc = true ∧ z_Ex xs L n m (h, z_set (z_clr ls s) s none, [], M1) o M' k2)
      | .invokestatic j => match z_sp (z_own m) j with
        | l + 1 => ∃ c' O, z_st1 xs L (z_own m) i t cs pc ls st M = some (c', O) ∧ z_all O ∧ z_Ex xs L n m c' o M' k
        | 0 => ∃ (m' : Nat) (b : Bool) (w : Nat) (as r : List AV) (o1 : z_Rs) (M1 : Mem) (k1 k2 : Nat), z_cal (z_own m) j = some (m', b, w) ∧ z_stc m' = true ∧ st = as.reverse ++ r ∧ as.length = z_na m' ∧ z_cal8 m' as r = true ∧
          z_Ex xs L n m' (0, z_pad (z_ml m') (z_entL as), [], M) o1 M1 k1 ∧ k = k1 + k2 ∧ (match o1 with
            | .inl v => z_Ex xs L n m (pc + 3, ls, v.toList ++ r, M1) o M' k2
            | .inr e => (z_hh m = [] ∧ o = .inr e ∧ M' = M1 ∧ k2 = 0))
      | _ => ∃ c' O, z_st1 xs L (z_own m) i t cs pc ls st M = some (c', O) ∧ z_all O ∧ z_Ex xs L n m c' o M' k
end
section
/-! THE WORLD: the cells of both systems as one list, out of the memory -/
abbrev z_ad : Type := Nat → Nat → Nat
def cv (ad : z_ad) : AV → Value
  | .inl x => .int x
  | .inr (.inl x) => .long x
  | .inr (.inr (.inl x)) => .double x
  | .inr (.inr (.inr r)) => .ref (ad r.1 r.2)
theorem cv_cat (ad : z_ad) (v : AV) : (cv ad v).category = if z_cat2 v = true then 2 else 1 := by
  rcases v with x | x | x | x <;> rfl
def z_pts : List (Nat × Nat) :=
  (List.range 8).flatMap (fun f => [(f, 0), (f, 1), (f, 2), (f, 3), (f, 4), (f, 5), (f, 6), (f, 7), (f, 8), (f, 9), (f, 10), (f, 12)]) ++
  ((List.range 56).map (fun f => (f, 11)) ++ [(0, 16), (0, 17), (0, 18), (0, 19), (0, 20), (0, 21), (0, 22), (0, 23), (0, 24)])
def z_ix (f p : Nat) : Nat := z_pts.findIdx (fun q => Nat.beq q.1 f && Nat.beq q.2 p)
theorem z_ix_all : (List.range 56).all (fun f => (List.range 41).all (fun p => !(z_val f p) || decide (z_pts[z_ix f p]? = some (f, p)))) = true := by decide +kernel
theorem z_val_lt {f p : Nat} (h : z_val f p = true) : f < 56 ∧ p < 41 := by
  unfold z_val at h
  split at h <;> first | (have h1 := Nat.ble_eq.mp h; omega) | (have h1 := Nat.eq_of_beq_eq_true h; omega) | cases h
theorem z_ix_ok {f p : Nat} (h : z_val f p = true) : z_pts[z_ix f p]? = some (f, p) := by
  obtain ⟨h1, h2⟩ := z_val_lt h
  have h3 := List.all_eq_true.mp (List.all_eq_true.mp z_ix_all f (List.mem_range.mpr h1)) p (List.mem_range.mpr h2)
  rw [h] at h3
  simpa using h3
theorem z_pts_ix : (List.range z_pts.length).all (fun i => match z_pts[i]? with | some r => decide (z_ix r.1 r.2 = i) | none => true) = true := by decide +kernel
theorem z_pts_at {i : Nat} {r : Nat × Nat} (h : z_pts[i]? = some r) : z_ix r.1 r.2 = i := by
  have h1 := List.all_eq_true.mp z_pts_ix i (List.mem_range.mpr (List.getElem?_eq_some_iff.mp h).1)
  rw [h] at h1
  exact of_decide_eq_true h1
theorem z_pts_inj {i j : Nat} {r : Nat × Nat} (h : z_pts[i]? = some r) (h2 : z_pts[j]? = some r) : i = j := (z_pts_at h).symm.trans (z_pts_at h2)
theorem z_pts_val : z_pts.all (fun q => z_val q.1 q.2) = true := by decide +kernel
/-- an entry of the world -/
def z_en (ad : z_ad) (cs : Nat → ClassId) (M : Mem) (f p : Nat) : va_E := match z_obj p with
  | some (c, n) => .inr (c, (List.range n).map fun k => cv ad (z_rd M f p k))
  | none => match z_ak p with
    | 0 => .inl (cs 0, z_sz p, .inl (fun k => z_ri M f p k))
    | 1 => .inl (cs 1, 1, .inr (.inl (fun _ => M.2.2 1)))
    | 2 => .inl (cs 2, 6, .inr (.inr (.inr (.inr (fun k => some (ad (2 + k) 0))))))
    | _ => .inl (cs 3, 7, .inr (.inr (.inr (.inr (fun k => some (ad (7 * f + k) 11))))))
def z_W (ad : z_ad) (cs : Nat → ClassId) (M : Mem) : va_W := z_pts.map fun q => (ad q.1 q.2, z_en ad cs M q.1 q.2)
theorem z_W_get {ad : z_ad} {cs : Nat → ClassId} {M : Mem} {f p : Nat} (h : z_val f p = true) : (z_W ad cs M)[z_ix f p]? = some (ad f p, z_en ad cs M f p) := by
  unfold z_W
  rw [List.getElem?_map, z_ix_ok h]
  rfl
theorem z_W_set {ad : z_ad} {cs : Nat → ClassId} {M M' : Mem} {f p : Nat} {e : va_E} (h : z_val f p = true) (he : z_en ad cs M' f p = e) (ho : ∀ f' p', z_val f' p' = true → (f', p') ≠ (f, p) → z_en ad cs M f' p' = z_en ad cs M' f' p') :
    (z_W ad cs M).set (z_ix f p) (ad f p, e) = z_W ad cs M' := by
  apply List.ext_getElem?
  intro j
  rw [List.getElem?_set]
  unfold z_W
  have hix := z_ix_ok h
  by_cases hj : z_ix f p = j
  · subst hj
    rw [if_pos rfl]
    have hl : z_ix f p < z_pts.length := (List.getElem?_eq_some_iff.mp hix).1
    rw [if_pos (by rw [List.length_map]; exact hl), List.getElem?_map, hix, ← he]
    rfl
  · rw [if_neg hj, List.getElem?_map, List.getElem?_map]
    cases hq : z_pts[j]? with
    | none => rfl
    | some q =>
      have hne : (q.1, q.2) ≠ (f, p) := by
        intro e0
        have e1 : z_pts[j]? = some (f, p) := by rw [hq, ← e0]
        exact hj (z_pts_inj hix e1)
      show some (ad q.1 q.2, z_en ad cs M q.1 q.2) = some (ad q.1 q.2, z_en ad cs M' q.1 q.2)
      rw [ho q.1 q.2 (List.all_eq_true.mp z_pts_val q (List.mem_of_getElem? hq)) hne]
/-- the addresses are apart and new -/
def z_AD (A : Nat → Prop) (ad : z_ad) : Prop := (∀ f p f' p', z_val f p = true → z_val f' p' = true → ad f p = ad f' p' → (f, p) = (f', p')) ∧ ∀ f p, z_val f p = true → A (ad f p)
theorem z_W_D {A : Nat → Prop} {ad : z_ad} {cs : Nat → ClassId} {M : Mem} (h : z_AD A ad) : va_D A (z_W ad cs M) := by
  have hv : ∀ (i : Nat) (q : Nat × va_E), (z_W ad cs M)[i]? = some q → ∃ r, z_pts[i]? = some r ∧ z_val r.1 r.2 = true ∧ q.1 = ad r.1 r.2 := by
    intro i q hq
    unfold z_W at hq
    rw [List.getElem?_map] at hq
    cases hr : z_pts[i]? with
    | none => rw [hr] at hq; cases hq
    | some r =>
      rw [hr] at hq
      cases hq
      exact ⟨r, rfl, List.all_eq_true.mp z_pts_val r (List.mem_of_getElem? hr), rfl⟩
  refine ⟨fun i j x y hx hy e => ?_, fun i x hx => ?_⟩
  · obtain ⟨r, r1, r2, r3⟩ := hv i x hx
    obtain ⟨t, t1, t2, t3⟩ := hv j y hy
    have e2 := h.1 _ _ _ _ r2 t2 (by rw [← r3, ← t3]; exact e)
    have e3 : r = t := e2
    subst e3
    exact z_pts_inj r1 t1
  · obtain ⟨r, r1, r2, r3⟩ := hv i x hx
    rw [r3]
    exact h.2 _ _ r2
-- locals
/-- the known locals as the kit has them -/
def z_asc (ad : z_ad) : Nat → Lc → List (Nat × Value)
  | _, [] => []
  | i, some v :: t => (i, cv ad v) :: z_asc ad (i + 1) t
  | i, none :: t => z_asc ad (i + 1) t
theorem z_asc_in {ad : z_ad} : ∀ (ls : Lc) (i : Nat) (q : Nat × Value), q ∈ z_asc ad i ls ↔ ∃ j v, z_get ls j = some v ∧ q = (i + j, cv ad v)
  | [], i, q => by
    constructor
    · intro h; cases h
    · rintro ⟨j, v, h, -⟩; cases h
  | o :: t, i, q => by
    have ih := z_asc_in (ad := ad) t (i + 1) q
    cases o with
    | none =>
      show q ∈ z_asc ad (i + 1) t ↔ _
      rw [ih]
      constructor
      · rintro ⟨j, v, h, e⟩
        exact ⟨j + 1, v, h, by rw [e]; congr 1; omega⟩
      · rintro ⟨j, v, h, e⟩
        cases j with
        | zero => cases h
        | succ j => exact ⟨j, v, h, by rw [e]; congr 1; omega⟩
    | some w =>
      show q ∈ (i, cv ad w) :: z_asc ad (i + 1) t ↔ _
      rw [List.mem_cons, ih]
      constructor
      · rintro (e | ⟨j, v, h, e⟩)
        · exact ⟨0, w, rfl, e⟩
        · exact ⟨j + 1, v, h, by rw [e]; congr 1; omega⟩
      · rintro ⟨j, v, h, e⟩
        cases j with
        | zero => cases h; exact Or.inl e
        | succ j => exact Or.inr ⟨j, v, h, by rw [e]; congr 1; omega⟩
theorem z_get_set : ∀ (ls : Lc) (k : Nat) (o : Option AV) (j : Nat) (v : AV), z_get (z_set ls k o) j = some v → (j = k ∧ o = some v) ∨ (j ≠ k ∧ z_get ls j = some v)
  | [], _, _, _, _, h => by cases h
  | x :: t, 0, o, 0, v, h => Or.inl ⟨rfl, h⟩
  | x :: t, 0, o, j + 1, v, h => Or.inr ⟨by omega, h⟩
  | x :: t, k + 1, o, 0, v, h => Or.inr ⟨by omega, h⟩
  | x :: t, k + 1, o, j + 1, v, h => by
    rcases z_get_set t k o j v h with ⟨e1, e2⟩ | ⟨e1, e2⟩
    · exact Or.inl ⟨by omega, e2⟩
    · exact Or.inr ⟨by omega, e2⟩
theorem z_get_clr {ls : Lc} {k j : Nat} {v : AV} (h : z_get (z_clr ls k) j = some v) : z_get ls j = some v ∧ ¬ (j + 1 = k ∧ z_cat2 v = true) := by
  cases k with
  | zero => exact ⟨h, fun e => by omega⟩
  | succ k =>
    unfold z_clr at h
    dsimp only at h
    split at h
    · rename_i w hw
      cases hc : z_cat2 w with
      | true =>
        rw [hc] at h
        rcases z_get_set _ _ _ _ _ h with ⟨-, e2⟩ | ⟨e1, e2⟩
        · cases e2
        · exact ⟨e2, fun e => e1 (by omega)⟩
      | false =>
        rw [hc] at h
        refine ⟨h, fun e => ?_⟩
        have : j = k := by omega
        subst this
        have h' : z_get ls j = some v := h
        rw [hw] at h'
        cases h'
        rw [hc] at e
        cases e.2
    · rename_i hn
      refine ⟨h, fun e => ?_⟩
      have : j = k := by omega
      subst this
      rw [hn] at h
      cases h
theorem z_has_mem {LS : Array Slot} {n : Nat} {l l' : List (Nat × Value)} (h : lv_has LS n l) (hm : ∀ q ∈ l', q ∈ l) : lv_has LS n l' := ⟨h.1, h.2.1, fun q hq => h.2.2 q (hm q hq)⟩
theorem z_store1 {ad : z_ad} {LS' : Array Slot} {n k : Nat} {ls : Lc} {v : AV} (h : lv_has LS' n ((k, cv ad v) :: (z_asc ad 0 ls).filter (fun q => !(q.1 == k) && !(q.1 + 1 == k && q.2.category == 2)))) : lv_has LS' n (z_asc ad 0 (z_st1w ls k v)) := by
  refine z_has_mem h fun q hq => ?_
  obtain ⟨j, w, h1, h2⟩ := (z_asc_in _ _ _).mp hq
  unfold z_st1w at h1
  rcases z_get_set _ _ _ _ _ h1 with ⟨e1, e2⟩ | ⟨e1, e2⟩
  · subst e1
    cases e2
    rw [h2]
    simp
  · obtain ⟨g1, g2⟩ := z_get_clr e2
    refine List.mem_cons.mpr (Or.inr (List.mem_filter.mpr ⟨(z_asc_in _ _ _).mpr ⟨j, w, g1, h2⟩, ?_⟩))
    rw [h2]
    have hz : 0 + j = j := by omega
    simp only [hz]
    have a1 : (j == k) = false := by simpa using e1
    rw [a1]
    by_cases hk : j + 1 = k
    · have a2 : z_cat2 w = false := by
        cases hc : z_cat2 w
        · rfl
        · exact absurd ⟨hk, hc⟩ g2
      rw [cv_cat, a2]
      simp
    · have a3 : (j + 1 == k) = false := by simpa using hk
      rw [a3]
      rfl
theorem z_store2 {ad : z_ad} {LS' : Array Slot} {n k : Nat} {ls : Lc} {v : AV} (h : lv_has LS' n ((k, cv ad v) :: (z_asc ad 0 ls).filter (fun q => !(q.1 == k) && (!(q.1 == k + 1) && !(q.1 + 1 == k && q.2.category == 2))))) : lv_has LS' n (z_asc ad 0 (z_st2w ls k v)) := by
  refine z_has_mem h fun q hq => ?_
  obtain ⟨j, w, h1, h2⟩ := (z_asc_in _ _ _).mp hq
  unfold z_st2w at h1
  rcases z_get_set _ _ _ _ _ h1 with ⟨-, e2⟩ | ⟨e0, h1⟩
  · cases e2
  · rcases z_get_set _ _ _ _ _ h1 with ⟨e1, e2⟩ | ⟨e1, e2⟩
    · subst e1
      cases e2
      rw [h2]
      simp
    · obtain ⟨g1, g2⟩ := z_get_clr e2
      refine List.mem_cons.mpr (Or.inr (List.mem_filter.mpr ⟨(z_asc_in _ _ _).mpr ⟨j, w, g1, h2⟩, ?_⟩))
      rw [h2]
      have hz : 0 + j = j := by omega
      simp only [hz]
      have a1 : (j == k) = false := by simpa using e1
      have a4 : (j == k + 1) = false := by simpa using e0
      rw [a1, a4]
      by_cases hk : j + 1 = k
      · have a2 : z_cat2 w = false := by
          cases hc : z_cat2 w
          · rfl
          · exact absurd ⟨hk, hc⟩ g2
        rw [cv_cat, a2]
        simp
      · have a3 : (j + 1 == k) = false := by simpa using hk
        rw [a3]
        rfl
theorem z_store0 {ad : z_ad} {LS' : Array Slot} {n k : Nat} {ls : Lc} {V : Value} (h : lv_has LS' n ((k, V) :: (z_asc ad 0 ls).filter (fun q => !(q.1 == k) && !(q.1 + 1 == k && q.2.category == 2)))) : lv_has LS' n (z_asc ad 0 (z_set (z_clr ls k) k none)) := by
  refine z_has_mem h fun q hq => ?_
  obtain ⟨j, w, h1, h2⟩ := (z_asc_in _ _ _).mp hq
  rcases z_get_set _ _ _ _ _ h1 with ⟨e1, e2⟩ | ⟨e1, e2⟩
  · cases e2
  · obtain ⟨g1, g2⟩ := z_get_clr e2
    refine List.mem_cons.mpr (Or.inr (List.mem_filter.mpr ⟨(z_asc_in _ _ _).mpr ⟨j, w, g1, h2⟩, ?_⟩))
    rw [h2]
    have hz : 0 + j = j := by omega
    simp only [hz]
    have a1 : (j == k) = false := by simpa using e1
    rw [a1]
    by_cases hk : j + 1 = k
    · have a2 : z_cat2 w = false := by
        cases hc : z_cat2 w
        · rfl
        · exact absurd ⟨hk, hc⟩ g2
      rw [cv_cat, a2]
      simp
    · have a3 : (j + 1 == k) = false := by simpa using hk
      rw [a3]
      rfl
theorem z_at {ad : z_ad} {LS : Array Slot} {n k : Nat} {ls : Lc} {v : AV} (h : lv_has LS n (z_asc ad 0 ls)) (hg : z_get ls k = some v) : LS[k]? = some (.val (cv ad v)) := by
  have h1 := h.2.2 (k, cv ad v) ((z_asc_in _ _ _).mpr ⟨k, v, hg, by rw [Nat.zero_add]⟩)
  exact h1
-- references stay good
theorem z_okL_get : ∀ {ls : Lc} {k : Nat} {v : AV}, z_okL ls = true → z_get ls k = some v → z_okv v = true
  | x :: t, 0, v, h, hg => by
    have e : x = some v := hg
    subst e
    have h' : (z_okv v && z_okL t) = true := h
    exact (Bool.and_eq_true_iff.mp h').1
  | x :: t, k + 1, v, h, hg => by
    refine z_okL_get (ls := t) (k := k) ?_ hg
    cases x with
    | none => exact h
    | some w =>
      have h' : (z_okv w && z_okL t) = true := h
      exact (Bool.and_eq_true_iff.mp h').2
theorem z_okL_set : ∀ {ls : Lc} {k : Nat} {o : Option AV}, z_okL ls = true → (∀ v, o = some v → z_okv v = true) → z_okL (z_set ls k o) = true
  | [], _, _, h, _ => h
  | x :: t, 0, o, h, ho => by
    have ht : z_okL t = true := by
      cases x with
      | none => exact h
      | some w =>
        have h' : (z_okv w && z_okL t) = true := h
        exact (Bool.and_eq_true_iff.mp h').2
    cases o with
    | none => exact ht
    | some w =>
      show (z_okv w && z_okL t) = true
      rw [ho w rfl, ht]
      rfl
  | x :: t, k + 1, o, h, ho => by
    cases x with
    | none => exact z_okL_set (ls := t) (k := k) h ho
    | some w =>
      have h' : (z_okv w && z_okL t) = true := h
      show (z_okv w && z_okL (z_set t k o)) = true
      rw [(Bool.and_eq_true_iff.mp h').1, z_okL_set (Bool.and_eq_true_iff.mp h').2 ho]
      rfl
theorem z_okL_clr {ls : Lc} {k : Nat} (h : z_okL ls = true) : z_okL (z_clr ls k) = true := by
  cases k with
  | zero => exact h
  | succ k =>
    unfold z_clr
    dsimp only
    split
    · rename_i v hv
      cases z_cat2 v
      · exact h
      · exact z_okL_set h (fun _ e => by cases e)
    · exact h
theorem z_okL_1 {ls : Lc} {k : Nat} {v : AV} (h : z_okL ls = true) (hv : z_okv v = true) : z_okL (z_st1w ls k v) = true := z_okL_set (z_okL_clr h) (fun w e => by cases e; exact hv)
theorem z_okL_2 {ls : Lc} {k : Nat} {v : AV} (h : z_okL ls = true) (hv : z_okv v = true) : z_okL (z_st2w ls k v) = true := z_okL_set (z_okL_set (z_okL_clr h) (fun w e => by cases e; exact hv)) (fun w e => by cases e)

-- what a store does to the entries
theorem z_val_m {f p : Nat} (h : z_val f p = true) (hp : Nat.blt p 32 = false) : f = 0 := by
  unfold z_val at h
  split at h <;> first | exact Nat.eq_of_beq_eq_true h | (exact absurd hp (by decide)) | cases h
theorem z_ri_wi {M : Mem} {f p k f' p' k' : Nat} {v : Int32} (h : z_val f p = true) (h' : z_val f' p' = true) : z_ri (z_wi M f p k v) f' p' k' = if f' = f ∧ p' = p ∧ k' = k then v else z_ri M f' p' k' := by
  have hm := z_val_m h
  have hm' := z_val_m h'
  unfold z_ri z_wi
  cases e : Nat.blt p 32 <;> cases e' : Nat.blt p' 32
  · have a := hm e
    have a' := hm' e'
    subst a; subst a'
    show up2 M.2.1 p k v p' k' = _
    unfold up2
    by_cases c : p' = p
    · subst c
      rw [if_pos rfl]
      unfold upd
      by_cases d : k' = k
      · rw [if_pos d, if_pos ⟨rfl, rfl, d⟩]
      · rw [if_neg d, if_neg (fun q => d q.2.2)]
        rfl
    · rw [if_neg c, if_neg (fun q => c q.2.1)]
      rfl
  · have c : ¬ p' = p := fun q => by rw [q, e] at e'; cases e'
    rw [if_neg (fun q => c q.2.1)]
    rfl
  · have c : ¬ p' = p := fun q => by rw [q, e] at e'; cases e'
    rw [if_neg (fun q => c q.2.1)]
    rfl
  · show up3 M.1 f p k v f' p' k' = _
    unfold up3
    by_cases b : p' = p ∧ f' = f
    · obtain ⟨rfl, rfl⟩ := b
      rw [if_pos ⟨rfl, rfl⟩]
      unfold upd
      by_cases d : k' = k
      · rw [if_pos d, if_pos ⟨rfl, rfl, d⟩]
      · rw [if_neg d, if_neg (fun q => d q.2.2)]
        rfl
    · rw [if_neg b, if_neg (fun q => b ⟨q.2.1, q.1⟩)]
      rfl
theorem z_wi_L {M : Mem} {f p k : Nat} {v : Int32} : (z_wi M f p k v).2.2 = M.2.2 := by
  unfold z_wi
  cases Nat.blt p 32 <;> rfl
theorem z_rd_wi {M : Mem} {f p k f' p' k' : Nat} {v y : Int32} (h : z_val f p = true) (h' : z_val f' p' = true) (hy : z_rd M f p k = .inl y) : z_rd (z_wi M f p k v) f' p' k' = if f' = f ∧ p' = p ∧ k' = k then .inl v else z_rd M f' p' k' := by
  unfold z_rd at hy ⊢
  rw [z_wi_L, z_ri_wi h h']
  cases hr : z_rk f' p' k' with
  | some r =>
    have c : ¬ (f' = f ∧ p' = p ∧ k' = k) := by
      rintro ⟨rfl, rfl, rfl⟩
      rw [hr] at hy
      dsimp only at hy
      subst hy
      revert hr
      unfold z_rk
      repeat' split
      all_goals (intro q; cases q)
    simp only [if_neg c]
  | none =>
    dsimp only
    by_cases c : f' = f ∧ p' = p ∧ k' = k
    · rw [if_pos c, if_pos c]
      obtain ⟨rfl, rfl, rfl⟩ := c
      rw [hr] at hy
      dsimp only at hy
      cases e : (Nat.beq p' 32 && Nat.beq k' 18)
      · rfl
      · rw [e] at hy; cases hy
    · rw [if_neg c, if_neg c]
/-- a cell of ints, written at a place -/
theorem z_en_arr {ad : z_ad} {cs : Nat → ClassId} {M : Mem} {f p k : Nat} {v : Int32} (h : z_val f p = true) (ho : z_obj p = none) (ha : z_ak p = 0) :
    z_en ad cs (z_wi M f p k v) f p = .inl (cs 0, z_sz p, .inl (upd (fun j => z_ri M f p j) k v)) := by
  unfold z_en
  rw [ho]
  dsimp only
  rw [ha]
  show (Sum.inl (cs 0, z_sz p, Sum.inl (fun j => z_ri (z_wi M f p k v) f p j)) : va_E) = _
  refine congrArg (fun g => (Sum.inl (cs 0, z_sz p, Sum.inl g) : va_E)) (funext fun j => ?_)
  rw [z_ri_wi h h]
  unfold upd
  by_cases d : j = k
  · rw [if_pos ⟨rfl, rfl, d⟩, if_pos d]
  · rw [if_neg (fun q => d q.2.2), if_neg d]
theorem z_en_ne {ad : z_ad} {cs : Nat → ClassId} {M M' : Mem} {f' p' : Nat} (hi : ∀ k, z_ri M' f' p' k = z_ri M f' p' k) (hd : ∀ k, z_rd M' f' p' k = z_rd M f' p' k) (hl : M'.2.2 1 = M.2.2 1) : z_en ad cs M f' p' = z_en ad cs M' f' p' := by
  unfold z_en
  simp only [hi, hd, hl]
theorem z_en_obj {ad : z_ad} {cs : Nat → ClassId} {M : Mem} {f p k c n : Nat} {v y : Int32} (h : z_val f p = true) (ho : z_obj p = some (c, n)) (hy : z_rd M f p k = .inl y) (hk : k < n) :
    z_en ad cs (z_wi M f p k v) f p = .inr (c, ((List.range n).map fun j => cv ad (z_rd M f p j)).set k (.int v)) := by
  unfold z_en
  rw [ho]
  dsimp only
  congr 2
  apply List.ext_getElem?
  intro j
  rw [List.getElem?_set, List.getElem?_map, List.getElem?_map]
  by_cases hj : k = j
  · subst hj
    rw [if_pos rfl, if_pos (by simpa using hk), List.getElem?_range hk]
    show some (cv ad (z_rd (z_wi M f p k v) f p k)) = _
    rw [z_rd_wi h h hy, if_pos ⟨rfl, rfl, rfl⟩]
    rfl
  · rw [if_neg hj]
    cases hq : (List.range n)[j]? with
    | none => rfl
    | some q =>
      have e : q = j := by
        have h1 := (List.getElem?_eq_some_iff.mp hq).2
        simpa using h1.symm
      subst e
      show some (cv ad (z_rd (z_wi M f p k v) f p q)) = some (cv ad (z_rd M f p q))
      rw [z_rd_wi h h hy, if_neg (fun w => hj w.2.2.symm)]
theorem z_wi_ne {ad : z_ad} {cs : Nat → ClassId} {M : Mem} {f p k f' p' : Nat} {v : Int32} (h : z_val f p = true) (h' : z_val f' p' = true) (hne : (f', p') ≠ (f, p)) : z_en ad cs M f' p' = z_en ad cs (z_wi M f p k v) f' p' := by
  have hx : ∀ k' : Nat, ¬ (f' = f ∧ p' = p ∧ k' = k) := fun k' q => hne (by rw [q.1, q.2.1])
  refine z_en_ne (fun j => by rw [z_ri_wi h h', if_neg (hx j)]) (fun j => ?_) (by rw [z_wi_L])
  unfold z_rd
  rw [z_wi_L, z_ri_wi h h', if_neg (hx j)]
end
section

/-! ONE STEP IS SOUND: an instruction as the interpreter does it is what the machine does -/
def z_tys (cs : Nat → ClassId) : List (ClassId × FieldType) := [(cs 0, .int), (cs 2, .object RX1), (cs 3, .array .int)]
def z_isM : Cond → Bool
  | .fieldLinkNest .. => true
  | .methodLinkNest .. => true
  | .castable .. => true
  | .declares _ => true
  | _ => false
def z_good : List Cond := lw_tbl.filter goodWord
def z_misc : List Cond := lw_tbl.filter z_isM
/-- what every state of the run knows -/
def z_cx (D : va_G) (cs : Nat → ClassId) (A : Nat → Prop) (b L : Nat) (xs : Nat → Int32) (sa : Nat → Nat) (U : State) : Prop :=
  va_K D vwCl (z_tys cs) U ∧ vx_Zq Bundle.tN "UNASSIGNED_STACK" Bundle.steD A U U.heap ∧ vx_Zq Bundle.tN "SUPPRESSED_SENTINEL" Bundle.listD A U U.heap ∧ (∀ w ∈ z_misc, va_Nw w U) ∧
  vk_R RX4 273 "out of range, or the buffer is no plan" (sa 0) U ∧ vk_R RX4 280 "the state does not allow this" (sa 1) U ∧ vk_R RX4 285 "there is no such setting" (sa 2) U ∧
  True ∧ True ∧
  va_X b L xs U U.heap ∧ b < U.heap.size ∧ ¬ A b
theorem z_nw_warm {w : Cond} {s U : State} (hm : z_isM w = true) (hW : s.WarmedH U.vm) (h : va_Nw w s) : va_Nw w U := by
  cases w <;> first | exact va_Nw.warmF hW h | exact va_Nw.warmM hW h | exact va_Nw.warmC hW h | exact va_Nw.warmD hW h | cases hm
theorem z_X_kept {b L : Nat} {xs : Nat → Int32} {s U : State} {H : Heap} (hvm : s.vm.Alike U.vm) (h : va_X b L xs s H) : va_X b L xs U H := by
  obtain ⟨scr, h1, h2, h3, h4, h5⟩ := h
  refine ⟨scr, h1, ?_, h3, h4, h5⟩
  exact State.isArrayOf_alike hvm h2
theorem z_cx_moved {D : va_G} {cs : Nat → ClassId} {A : Nat → Prop} {b L : Nat} {xs : Nat → Int32} {sa : Nat → Nat} {s U : State} {locs : List Loc} (hW : s.WarmedH U.vm) (hS : va_S A s.heap U.heap locs) (h : z_cx D cs A b L xs sa s) : z_cx D cs A b L xs sa U := by
  obtain ⟨h1, h2, h3, h4, h5, h6, h7, h8, h9, h10, h11, h12⟩ := h
  refine ⟨va_K.moved hW.alike h1, vx_Zq.moved hW.alike (h2.kept hS.2.1), vx_Zq.moved hW.alike (h3.kept hS.2.1), fun w hw => z_nw_warm (List.mem_filter.mp hw).2 hW (h4 w hw), vk_R.warm hW h5, vk_R.warm hW h6, vk_R.warm hW h7, trivial, trivial, ?_, Nat.lt_of_lt_of_le h11 hS.1, h12⟩
  obtain ⟨scr, g1, g2⟩ := z_X_kept hW.alike h10
  exact ⟨scr, by rw [hS.2.1 b h11 h12]; exact g1, g2⟩
-- the tables' check
def z_sw : Instr → Bool
  | .tableswitch .. => true
  | .lookupswitch .. => true
  | _ => false
def z_il : Instr → Nat
  | .aload _ => 2
  | .iload _ => 2
  | .lload _ => 2
  | .dload _ => 2
  | .istore _ => 2
  | .astore _ => 2
  | .lstore _ => 2
  | .dstore _ => 2
  | .bipush _ => 2
  | .sipush _ => 3
  | .ldc_w _ => 3
  | .ldc _ => 2
  | .ldc2_w _ => 3
  | .iinc _ _ => 3
  | .goto _ => 3
  | .ifCond _ _ => 3
  | .if_icmp _ _ => 3
  | .getfield _ => 3
  | .putfield _ => 3
  | .invokevirtual _ => 3
  | .invokestatic _ => 3
  | .invokespecial _ => 3
  | _ => 1
def z_ccB (pc : Nat) (i : Instr) (t : Nat) (cs : Int32) : Bool := match i with
  | .iconst n => decide (Int32.ofInt n = cs)
  | .bipush n => decide ((Int8.ofInt n).toInt32 = cs)
  | .sipush n => decide ((Int16.ofInt n).toInt32 = cs)
  | .iinc _ n => decide (Int32.ofInt n = cs)
  | .goto off => decide ((pc : Int) + off = (t : Int))
  | .ifCond _ off => decide ((pc : Int) + off = (t : Int))
  | .if_icmp _ off => decide ((pc : Int) + off = (t : Int))
  | _ => true
def z_fw (o k c s : Nat) (n : Bool) : Cond := bif n then .fieldLinkNest (z_on o) k (z_T c s).1 (z_T c s).2.1 (z_T c s).2.2.1 "IslandReserve" else .fieldLink (z_on o) k (z_T c s).1 (z_T c s).2.1 (z_T c s).2.2.1
/-- is the word w the v-th of the tables -/
def z_isW (v : Nat) (w : Cond) : Bool := match lw_tbl[v]? with
  | some x => decide (x = w)
  | none => false
def z_mw (o k m : Nat) (n : Bool) : Cond := bif n then .methodLinkNest (z_on o) k (z_y m) "IslandReserve" else .methodLink (z_on o) k (z_y m)
def z_codeW (m : Nat) : Cond := match z_hh m with
  | [] => .code (z_y m) (z_b m) (z_ml m) (z_ret m)
  | h => .codeWith (z_y m) (z_b m) (z_ml m) (z_ret m) h

def z_pcode (m : Nat) : Nat := bif Nat.blt m 29 then (bif Nat.blt m 14 then (bif Nat.blt m 7 then (bif Nat.blt m 3 then (bif Nat.blt m 1 then (417) else (bif Nat.blt m 2 then (425) else (437))) else (bif Nat.blt m 5 then (bif Nat.blt m 4 then (433) else (303)) else (bif Nat.blt m 6 then (338) else (496)))) else (bif Nat.blt m 10 then (bif Nat.blt m 8 then (504) else (bif Nat.blt m 9 then (372) else (361))) else (bif Nat.blt m 12 then (bif Nat.blt m 11 then (329) else (413)) else (bif Nat.blt m 13 then (307) else (484))))) else (bif Nat.blt m 21 then (bif Nat.blt m 17 then (bif Nat.blt m 15 then (314) else (bif Nat.blt m 16 then (488) else (492))) else (bif Nat.blt m 19 then (bif Nat.blt m 18 then (508) else (352)) else (bif Nat.blt m 20 then (357) else (318)))) else (bif Nat.blt m 25 then (bif Nat.blt m 23 then (bif Nat.blt m 22 then (325) else (445)) else (bif Nat.blt m 24 then (386) else (429))) else (bif Nat.blt m 27 then (bif Nat.blt m 26 then (441) else (449)) else (bif Nat.blt m 28 then (453) else (480)))))) else (bif Nat.blt m 43 then (bif Nat.blt m 36 then (bif Nat.blt m 32 then (bif Nat.blt m 30 then (457) else (bif Nat.blt m 31 then (546) else (218))) else (bif Nat.blt m 34 then (bif Nat.blt m 33 then (527) else (334)) else (bif Nat.blt m 35 then (516) else (365)))) else (bif Nat.blt m 39 then (bif Nat.blt m 37 then (534) else (bif Nat.blt m 38 then (538) else (542))) else (bif Nat.blt m 41 then (bif Nat.blt m 40 then (523) else (409)) else (bif Nat.blt m 42 then (299) else (227))))) else (bif Nat.blt m 50 then (bif Nat.blt m 46 then (bif Nat.blt m 44 then (389) else (bif Nat.blt m 45 then (460) else (224))) else (bif Nat.blt m 48 then (bif Nat.blt m 47 then (221) else (368)) else (bif Nat.blt m 49 then (348) else (342)))) else (bif Nat.blt m 54 then (bif Nat.blt m 52 then (bif Nat.blt m 51 then (375) else (378)) else (bif Nat.blt m 53 then (382) else (512))) else (bif Nat.blt m 56 then (bif Nat.blt m 55 then (519) else (530)) else (bif Nat.blt m 57 then (549) else (0))))))
def z_pinit (m : Nat) : Nat := bif Nat.blt m 29 then (bif Nat.blt m 14 then (bif Nat.blt m 7 then (bif Nat.blt m 3 then (bif Nat.blt m 1 then (28) else (bif Nat.blt m 2 then (28) else (28))) else (bif Nat.blt m 5 then (bif Nat.blt m 4 then (28) else (28)) else (bif Nat.blt m 6 then (28) else (28)))) else (bif Nat.blt m 10 then (bif Nat.blt m 8 then (28) else (bif Nat.blt m 9 then (28) else (28))) else (bif Nat.blt m 12 then (bif Nat.blt m 11 then (28) else (27)) else (bif Nat.blt m 13 then (27) else (27))))) else (bif Nat.blt m 21 then (bif Nat.blt m 17 then (bif Nat.blt m 15 then (27) else (bif Nat.blt m 16 then (27) else (27))) else (bif Nat.blt m 19 then (bif Nat.blt m 18 then (27) else (27)) else (bif Nat.blt m 20 then (27) else (31)))) else (bif Nat.blt m 25 then (bif Nat.blt m 23 then (bif Nat.blt m 22 then (31) else (26)) else (bif Nat.blt m 24 then (26) else (26))) else (bif Nat.blt m 27 then (bif Nat.blt m 26 then (26) else (26)) else (bif Nat.blt m 28 then (26) else (26)))))) else (bif Nat.blt m 43 then (bif Nat.blt m 36 then (bif Nat.blt m 32 then (bif Nat.blt m 30 then (26) else (bif Nat.blt m 31 then (26) else (26))) else (bif Nat.blt m 34 then (bif Nat.blt m 33 then (26) else (26)) else (bif Nat.blt m 35 then (26) else (26)))) else (bif Nat.blt m 39 then (bif Nat.blt m 37 then (26) else (bif Nat.blt m 38 then (26) else (26))) else (bif Nat.blt m 41 then (bif Nat.blt m 40 then (26) else (26)) else (bif Nat.blt m 42 then (26) else (26))))) else (bif Nat.blt m 50 then (bif Nat.blt m 46 then (bif Nat.blt m 44 then (26) else (bif Nat.blt m 45 then (26) else (26))) else (bif Nat.blt m 48 then (bif Nat.blt m 47 then (26) else (26)) else (bif Nat.blt m 49 then (26) else (36)))) else (bif Nat.blt m 54 then (bif Nat.blt m 52 then (bif Nat.blt m 51 then (25) else (25)) else (bif Nat.blt m 53 then (25) else (25))) else (bif Nat.blt m 56 then (bif Nat.blt m 55 then (25) else (25)) else (bif Nat.blt m 57 then (25) else (0))))))
def z_pkind (m : Nat) : Nat := bif Nat.blt m 29 then (bif Nat.blt m 14 then (bif Nat.blt m 7 then (bif Nat.blt m 3 then (bif Nat.blt m 1 then (416) else (bif Nat.blt m 2 then (424) else (436))) else (bif Nat.blt m 5 then (bif Nat.blt m 4 then (432) else (302)) else (bif Nat.blt m 6 then (337) else (495)))) else (bif Nat.blt m 10 then (bif Nat.blt m 8 then (503) else (bif Nat.blt m 9 then (371) else (360))) else (bif Nat.blt m 12 then (bif Nat.blt m 11 then (328) else (412)) else (bif Nat.blt m 13 then (306) else (483))))) else (bif Nat.blt m 21 then (bif Nat.blt m 17 then (bif Nat.blt m 15 then (313) else (bif Nat.blt m 16 then (487) else (491))) else (bif Nat.blt m 19 then (bif Nat.blt m 18 then (507) else (351)) else (bif Nat.blt m 20 then (356) else (317)))) else (bif Nat.blt m 25 then (bif Nat.blt m 23 then (bif Nat.blt m 22 then (324) else (443)) else (bif Nat.blt m 24 then (384) else (427))) else (bif Nat.blt m 27 then (bif Nat.blt m 26 then (439) else (447)) else (bif Nat.blt m 28 then (451) else (478)))))) else (bif Nat.blt m 43 then (bif Nat.blt m 36 then (bif Nat.blt m 32 then (bif Nat.blt m 30 then (455) else (bif Nat.blt m 31 then (544) else (216))) else (bif Nat.blt m 34 then (bif Nat.blt m 33 then (525) else (332)) else (bif Nat.blt m 35 then (514) else (363)))) else (bif Nat.blt m 39 then (bif Nat.blt m 37 then (532) else (bif Nat.blt m 38 then (536) else (540))) else (bif Nat.blt m 41 then (bif Nat.blt m 40 then (521) else (408)) else (bif Nat.blt m 42 then (298) else (226))))) else (bif Nat.blt m 50 then (bif Nat.blt m 46 then (bif Nat.blt m 44 then (388) else (bif Nat.blt m 45 then (459) else (223))) else (bif Nat.blt m 48 then (bif Nat.blt m 47 then (220) else (367)) else (bif Nat.blt m 49 then (347) else (341)))) else (bif Nat.blt m 54 then (bif Nat.blt m 52 then (bif Nat.blt m 51 then (374) else (377)) else (bif Nat.blt m 53 then (381) else (511))) else (bif Nat.blt m 56 then (bif Nat.blt m 55 then (518) else (529)) else (bif Nat.blt m 57 then (548) else (0))))))
def z_psel (m : Nat) : Nat := bif Nat.blt m 29 then (bif Nat.blt m 14 then (bif Nat.blt m 7 then (bif Nat.blt m 3 then (bif Nat.blt m 1 then (15) else (bif Nat.blt m 2 then (16) else (18))) else (bif Nat.blt m 5 then (bif Nat.blt m 4 then (17) else (2)) else (bif Nat.blt m 6 then (8) else (22)))) else (bif Nat.blt m 10 then (bif Nat.blt m 8 then (23) else (bif Nat.blt m 9 then (12) else (11))) else (bif Nat.blt m 12 then (bif Nat.blt m 11 then (7) else (14)) else (bif Nat.blt m 13 then (3) else (19))))) else (bif Nat.blt m 21 then (bif Nat.blt m 17 then (bif Nat.blt m 15 then (4) else (bif Nat.blt m 16 then (20) else (21))) else (bif Nat.blt m 19 then (bif Nat.blt m 18 then (24) else (9)) else (bif Nat.blt m 20 then (10) else (5)))) else (bif Nat.blt m 25 then (bif Nat.blt m 23 then (bif Nat.blt m 22 then (6) else (444)) else (bif Nat.blt m 24 then (385) else (428))) else (bif Nat.blt m 27 then (bif Nat.blt m 26 then (440) else (448)) else (bif Nat.blt m 28 then (452) else (479)))))) else (bif Nat.blt m 43 then (bif Nat.blt m 36 then (bif Nat.blt m 32 then (bif Nat.blt m 30 then (456) else (bif Nat.blt m 31 then (545) else (217))) else (bif Nat.blt m 34 then (bif Nat.blt m 33 then (526) else (333)) else (bif Nat.blt m 35 then (515) else (364)))) else (bif Nat.blt m 39 then (bif Nat.blt m 37 then (533) else (bif Nat.blt m 38 then (537) else (541))) else (bif Nat.blt m 41 then (bif Nat.blt m 40 then (522) else (13)) else (bif Nat.blt m 42 then (1) else (0))))) else (bif Nat.blt m 50 then (bif Nat.blt m 46 then (bif Nat.blt m 44 then (0) else (bif Nat.blt m 45 then (0) else (0))) else (bif Nat.blt m 48 then (bif Nat.blt m 47 then (0) else (0)) else (bif Nat.blt m 49 then (0) else (0)))) else (bif Nat.blt m 54 then (bif Nat.blt m 52 then (bif Nat.blt m 51 then (0) else (0)) else (bif Nat.blt m 53 then (0) else (0))) else (bif Nat.blt m 56 then (bif Nat.blt m 55 then (0) else (0)) else (bif Nat.blt m 57 then (0) else (0))))))

/-- the words of a callee -/
def z_mB (m : Nat) : Bool := z_isW (z_pinit m) (.initialized (z_y m).cls) && (bif z_stc m then z_isW (z_pkind m) (.static (z_y m)) else z_isW (z_pkind m) (.instanceMethod (z_y m)) && z_isW (z_psel m) (.selects (z_on (z_own m)) (z_y m) (z_y m))) &&
  decide ((z_y m).cls = z_on (z_own m)) && plainName (z_y m).cls && decide ((z_y m).cls ≠ "java/lang/invoke/MethodHandle") && decide ((z_y m).cls ≠ "java/lang/invoke/VarHandle") &&
  decide ((parseMethodDescriptor (z_y m).desc).map (fun d => d.parameters.length) = some (bif z_stc m then z_na m else z_na m - 1)) && (bif z_stc m then true else Nat.blt 0 (z_na m))
/-- what the links of an instruction are -/
def z_lnk (m : Nat) (i : Instr) : Bool := match i with
  | .getfield k => match z_fld (z_own m) k with
    | some (c, s, n, v) => z_isW v (z_fw (z_own m) k c s n) && Nat.blt s (z_nf c) && Nat.blt c 5
    | none => true
  | .putfield k => match z_fld (z_own m) k with
    | some (c, s, n, v) => z_isW v (z_fw (z_own m) k c s n) && Nat.blt s (z_nf c) && Nat.blt c 5
    | none => true
  | .ldc_w k => match z_ki (z_own m) k with
    | some (x, v) => z_isW v (.constant (z_on (z_own m)) k x)
    | none => true
  | .ldc k => match z_ki (z_own m) k with
    | some (x, v) => z_isW v (.constant (z_on (z_own m)) k x)
    | none => true
  | .ldc2_w k => (match z_kl (z_own m) k with
    | some (x, v) => z_isW v (.constantLong (z_on (z_own m)) k x)
    | none => true) && (match z_kd (z_own m) k with
    | some (x, v) => z_isW v (.constantDouble (z_on (z_own m)) k x)
    | none => true)
  | .invokestatic k => match z_sp (z_own m) k with
    | l + 1 => z_isW (z_spv (z_own m) k) (.methodLink (z_on (z_own m)) k (match l with | 0 => arraycopyName | 1 => Lib.Math.max.name | _ => Lib.Math.min.name)) && Nat.ble 1 (z_FR m) && Nat.ble 40 (z_LR m) && Nat.ble l 2
    | 0 => match z_cal (z_own m) k with
      | some (m', n, v) => z_isW v (z_mw (z_own m) k m' n) && Nat.blt (z_FR m') (z_FR m) && Nat.ble (8 + (z_ml m' + 11) + z_LR m') (z_LR m) && Nat.blt m' 57 && (bif n then decide (z_hh m' = []) else true)
      | none => true
  | .invokevirtual k => match z_cal (z_own m) k with
      | some (m', n, v) => z_isW v (z_mw (z_own m) k m' n) && Nat.blt (z_FR m') (z_FR m) && Nat.ble (8 + (z_ml m' + 11) + z_LR m') (z_LR m) && Nat.blt m' 57 && decide (z_hh m' = [])
      | none => true
  | _ => true
def z_ckI (m pc : Nat) : Bool := match z_ins m pc with
  | none => true
  | some (i, t, cs) => (match decode (z_b m) pc with
    | .ok (j, n) => decide (j = i) && (z_sw i || Nat.beq n (z_il i))
    | .error _ => false) && z_ccB pc i t cs && z_lnk m i
end
section
theorem z_mB_0 : (List.range 20).all (fun j => z_mB (0 + j)) = true := by decide +kernel
theorem z_mB_20 : (List.range 20).all (fun j => z_mB (20 + j)) = true := by decide +kernel
theorem z_mB_40 : (List.range 17).all (fun j => z_mB (40 + j)) = true := by decide +kernel
theorem z_mB_all {m : Nat} (hm : m < 57) : z_mB m = true := by
  rcases Nat.lt_or_ge m 20 with h | h
  · have h1 := List.all_eq_true.mp z_mB_0 (m - 0) (List.mem_range.mpr (by omega))
    rw [show 0 + (m - 0) = m by omega] at h1
    exact h1
  rcases Nat.lt_or_ge m 40 with h | h
  · have h1 := List.all_eq_true.mp z_mB_20 (m - 20) (List.mem_range.mpr (by omega))
    rw [show 20 + (m - 20) = m by omega] at h1
    exact h1
  rcases Nat.lt_or_ge m 57 with h | h
  · have h1 := List.all_eq_true.mp z_mB_40 (m - 40) (List.mem_range.mpr (by omega))
    rw [show 40 + (m - 40) = m by omega] at h1
    exact h1
  omega
set_option maxRecDepth 100000 in
theorem z_cw_0 : lw_tbl[417]? = some (z_codeW 0) := by rfl
set_option maxRecDepth 100000 in
theorem z_cw_1 : lw_tbl[425]? = some (z_codeW 1) := by rfl
set_option maxRecDepth 100000 in
theorem z_cw_2 : lw_tbl[437]? = some (z_codeW 2) := by rfl
set_option maxRecDepth 100000 in
theorem z_cw_3 : lw_tbl[433]? = some (z_codeW 3) := by rfl
set_option maxRecDepth 100000 in
theorem z_cw_4 : lw_tbl[303]? = some (z_codeW 4) := by rfl
set_option maxRecDepth 100000 in
theorem z_cw_5 : lw_tbl[338]? = some (z_codeW 5) := by rfl
set_option maxRecDepth 100000 in
theorem z_cw_6 : lw_tbl[496]? = some (z_codeW 6) := by rfl
set_option maxRecDepth 100000 in
theorem z_cw_7 : lw_tbl[504]? = some (z_codeW 7) := by rfl
set_option maxRecDepth 100000 in
theorem z_cw_8 : lw_tbl[372]? = some (z_codeW 8) := by rfl
set_option maxRecDepth 100000 in
theorem z_cw_9 : lw_tbl[361]? = some (z_codeW 9) := by rfl
set_option maxRecDepth 100000 in
theorem z_cw_10 : lw_tbl[329]? = some (z_codeW 10) := by rfl
set_option maxRecDepth 100000 in
theorem z_cw_11 : lw_tbl[413]? = some (z_codeW 11) := by rfl
set_option maxRecDepth 100000 in
theorem z_cw_12 : lw_tbl[307]? = some (z_codeW 12) := by rfl
set_option maxRecDepth 100000 in
theorem z_cw_13 : lw_tbl[484]? = some (z_codeW 13) := by rfl
set_option maxRecDepth 100000 in
theorem z_cw_14 : lw_tbl[314]? = some (z_codeW 14) := by rfl
set_option maxRecDepth 100000 in
theorem z_cw_15 : lw_tbl[488]? = some (z_codeW 15) := by rfl
set_option maxRecDepth 100000 in
theorem z_cw_16 : lw_tbl[492]? = some (z_codeW 16) := by rfl
set_option maxRecDepth 100000 in
theorem z_cw_17 : lw_tbl[508]? = some (z_codeW 17) := by rfl
set_option maxRecDepth 100000 in
theorem z_cw_18 : lw_tbl[352]? = some (z_codeW 18) := by rfl
set_option maxRecDepth 100000 in
theorem z_cw_19 : lw_tbl[357]? = some (z_codeW 19) := by rfl
set_option maxRecDepth 100000 in
theorem z_cw_20 : lw_tbl[318]? = some (z_codeW 20) := by rfl
set_option maxRecDepth 100000 in
theorem z_cw_21 : lw_tbl[325]? = some (z_codeW 21) := by rfl
set_option maxRecDepth 100000 in
theorem z_cw_22 : lw_tbl[445]? = some (z_codeW 22) := by rfl
set_option maxRecDepth 100000 in
theorem z_cw_23 : lw_tbl[386]? = some (z_codeW 23) := by rfl
set_option maxRecDepth 100000 in
theorem z_cw_24 : lw_tbl[429]? = some (z_codeW 24) := by rfl
set_option maxRecDepth 100000 in
theorem z_cw_25 : lw_tbl[441]? = some (z_codeW 25) := by rfl
set_option maxRecDepth 100000 in
theorem z_cw_26 : lw_tbl[449]? = some (z_codeW 26) := by rfl
set_option maxRecDepth 100000 in
theorem z_cw_27 : lw_tbl[453]? = some (z_codeW 27) := by rfl
set_option maxRecDepth 100000 in
theorem z_cw_28 : lw_tbl[480]? = some (z_codeW 28) := by rfl
set_option maxRecDepth 100000 in
theorem z_cw_29 : lw_tbl[457]? = some (z_codeW 29) := by rfl
set_option maxRecDepth 100000 in
theorem z_cw_30 : lw_tbl[546]? = some (z_codeW 30) := by rfl
set_option maxRecDepth 100000 in
theorem z_cw_31 : lw_tbl[218]? = some (z_codeW 31) := by rfl
set_option maxRecDepth 100000 in
theorem z_cw_32 : lw_tbl[527]? = some (z_codeW 32) := by rfl
set_option maxRecDepth 100000 in
theorem z_cw_33 : lw_tbl[334]? = some (z_codeW 33) := by rfl
set_option maxRecDepth 100000 in
theorem z_cw_34 : lw_tbl[516]? = some (z_codeW 34) := by rfl
set_option maxRecDepth 100000 in
theorem z_cw_35 : lw_tbl[365]? = some (z_codeW 35) := by rfl
set_option maxRecDepth 100000 in
theorem z_cw_36 : lw_tbl[534]? = some (z_codeW 36) := by rfl
set_option maxRecDepth 100000 in
theorem z_cw_37 : lw_tbl[538]? = some (z_codeW 37) := by rfl
set_option maxRecDepth 100000 in
theorem z_cw_38 : lw_tbl[542]? = some (z_codeW 38) := by rfl
set_option maxRecDepth 100000 in
theorem z_cw_39 : lw_tbl[523]? = some (z_codeW 39) := by rfl
set_option maxRecDepth 100000 in
theorem z_cw_40 : lw_tbl[409]? = some (z_codeW 40) := by rfl
set_option maxRecDepth 100000 in
theorem z_cw_41 : lw_tbl[299]? = some (z_codeW 41) := by rfl
set_option maxRecDepth 100000 in
theorem z_cw_42 : lw_tbl[227]? = some (z_codeW 42) := by rfl
set_option maxRecDepth 100000 in
theorem z_cw_43 : lw_tbl[389]? = some (z_codeW 43) := by rfl
set_option maxRecDepth 100000 in
theorem z_cw_44 : lw_tbl[460]? = some (z_codeW 44) := by rfl
set_option maxRecDepth 100000 in
theorem z_cw_45 : lw_tbl[224]? = some (z_codeW 45) := by rfl
set_option maxRecDepth 100000 in
theorem z_cw_46 : lw_tbl[221]? = some (z_codeW 46) := by rfl
set_option maxRecDepth 100000 in
theorem z_cw_47 : lw_tbl[368]? = some (z_codeW 47) := by rfl
set_option maxRecDepth 100000 in
theorem z_cw_48 : lw_tbl[348]? = some (z_codeW 48) := by rfl
set_option maxRecDepth 100000 in
theorem z_cw_49 : lw_tbl[342]? = some (z_codeW 49) := by rfl
set_option maxRecDepth 100000 in
theorem z_cw_50 : lw_tbl[375]? = some (z_codeW 50) := by rfl
set_option maxRecDepth 100000 in
theorem z_cw_51 : lw_tbl[378]? = some (z_codeW 51) := by rfl
set_option maxRecDepth 100000 in
theorem z_cw_52 : lw_tbl[382]? = some (z_codeW 52) := by rfl
set_option maxRecDepth 100000 in
theorem z_cw_53 : lw_tbl[512]? = some (z_codeW 53) := by rfl
set_option maxRecDepth 100000 in
theorem z_cw_54 : lw_tbl[519]? = some (z_codeW 54) := by rfl
set_option maxRecDepth 100000 in
theorem z_cw_55 : lw_tbl[530]? = some (z_codeW 55) := by rfl
set_option maxRecDepth 100000 in
theorem z_cw_56 : lw_tbl[549]? = some (z_codeW 56) := by rfl
theorem z_cwa_0 (m : Nat) (h1 : 0 ≤ m) (h2 : m < 20) : z_codeW m ∈ lw_tbl := by
  rcases Nat.eq_or_lt_of_le h1 with h | h1
  · rw [← h]; exact List.mem_of_getElem? z_cw_0
  rcases Nat.eq_or_lt_of_le h1 with h | h1
  · rw [← h]; exact List.mem_of_getElem? z_cw_1
  rcases Nat.eq_or_lt_of_le h1 with h | h1
  · rw [← h]; exact List.mem_of_getElem? z_cw_2
  rcases Nat.eq_or_lt_of_le h1 with h | h1
  · rw [← h]; exact List.mem_of_getElem? z_cw_3
  rcases Nat.eq_or_lt_of_le h1 with h | h1
  · rw [← h]; exact List.mem_of_getElem? z_cw_4
  rcases Nat.eq_or_lt_of_le h1 with h | h1
  · rw [← h]; exact List.mem_of_getElem? z_cw_5
  rcases Nat.eq_or_lt_of_le h1 with h | h1
  · rw [← h]; exact List.mem_of_getElem? z_cw_6
  rcases Nat.eq_or_lt_of_le h1 with h | h1
  · rw [← h]; exact List.mem_of_getElem? z_cw_7
  rcases Nat.eq_or_lt_of_le h1 with h | h1
  · rw [← h]; exact List.mem_of_getElem? z_cw_8
  rcases Nat.eq_or_lt_of_le h1 with h | h1
  · rw [← h]; exact List.mem_of_getElem? z_cw_9
  rcases Nat.eq_or_lt_of_le h1 with h | h1
  · rw [← h]; exact List.mem_of_getElem? z_cw_10
  rcases Nat.eq_or_lt_of_le h1 with h | h1
  · rw [← h]; exact List.mem_of_getElem? z_cw_11
  rcases Nat.eq_or_lt_of_le h1 with h | h1
  · rw [← h]; exact List.mem_of_getElem? z_cw_12
  rcases Nat.eq_or_lt_of_le h1 with h | h1
  · rw [← h]; exact List.mem_of_getElem? z_cw_13
  rcases Nat.eq_or_lt_of_le h1 with h | h1
  · rw [← h]; exact List.mem_of_getElem? z_cw_14
  rcases Nat.eq_or_lt_of_le h1 with h | h1
  · rw [← h]; exact List.mem_of_getElem? z_cw_15
  rcases Nat.eq_or_lt_of_le h1 with h | h1
  · rw [← h]; exact List.mem_of_getElem? z_cw_16
  rcases Nat.eq_or_lt_of_le h1 with h | h1
  · rw [← h]; exact List.mem_of_getElem? z_cw_17
  rcases Nat.eq_or_lt_of_le h1 with h | h1
  · rw [← h]; exact List.mem_of_getElem? z_cw_18
  rcases Nat.eq_or_lt_of_le h1 with h | h1
  · rw [← h]; exact List.mem_of_getElem? z_cw_19
  omega
theorem z_cwa_20 (m : Nat) (h1 : 20 ≤ m) (h2 : m < 40) : z_codeW m ∈ lw_tbl := by
  rcases Nat.eq_or_lt_of_le h1 with h | h1
  · rw [← h]; exact List.mem_of_getElem? z_cw_20
  rcases Nat.eq_or_lt_of_le h1 with h | h1
  · rw [← h]; exact List.mem_of_getElem? z_cw_21
  rcases Nat.eq_or_lt_of_le h1 with h | h1
  · rw [← h]; exact List.mem_of_getElem? z_cw_22
  rcases Nat.eq_or_lt_of_le h1 with h | h1
  · rw [← h]; exact List.mem_of_getElem? z_cw_23
  rcases Nat.eq_or_lt_of_le h1 with h | h1
  · rw [← h]; exact List.mem_of_getElem? z_cw_24
  rcases Nat.eq_or_lt_of_le h1 with h | h1
  · rw [← h]; exact List.mem_of_getElem? z_cw_25
  rcases Nat.eq_or_lt_of_le h1 with h | h1
  · rw [← h]; exact List.mem_of_getElem? z_cw_26
  rcases Nat.eq_or_lt_of_le h1 with h | h1
  · rw [← h]; exact List.mem_of_getElem? z_cw_27
  rcases Nat.eq_or_lt_of_le h1 with h | h1
  · rw [← h]; exact List.mem_of_getElem? z_cw_28
  rcases Nat.eq_or_lt_of_le h1 with h | h1
  · rw [← h]; exact List.mem_of_getElem? z_cw_29
  rcases Nat.eq_or_lt_of_le h1 with h | h1
  · rw [← h]; exact List.mem_of_getElem? z_cw_30
  rcases Nat.eq_or_lt_of_le h1 with h | h1
  · rw [← h]; exact List.mem_of_getElem? z_cw_31
  rcases Nat.eq_or_lt_of_le h1 with h | h1
  · rw [← h]; exact List.mem_of_getElem? z_cw_32
  rcases Nat.eq_or_lt_of_le h1 with h | h1
  · rw [← h]; exact List.mem_of_getElem? z_cw_33
  rcases Nat.eq_or_lt_of_le h1 with h | h1
  · rw [← h]; exact List.mem_of_getElem? z_cw_34
  rcases Nat.eq_or_lt_of_le h1 with h | h1
  · rw [← h]; exact List.mem_of_getElem? z_cw_35
  rcases Nat.eq_or_lt_of_le h1 with h | h1
  · rw [← h]; exact List.mem_of_getElem? z_cw_36
  rcases Nat.eq_or_lt_of_le h1 with h | h1
  · rw [← h]; exact List.mem_of_getElem? z_cw_37
  rcases Nat.eq_or_lt_of_le h1 with h | h1
  · rw [← h]; exact List.mem_of_getElem? z_cw_38
  rcases Nat.eq_or_lt_of_le h1 with h | h1
  · rw [← h]; exact List.mem_of_getElem? z_cw_39
  omega
theorem z_cwa_40 (m : Nat) (h1 : 40 ≤ m) (h2 : m < 57) : z_codeW m ∈ lw_tbl := by
  rcases Nat.eq_or_lt_of_le h1 with h | h1
  · rw [← h]; exact List.mem_of_getElem? z_cw_40
  rcases Nat.eq_or_lt_of_le h1 with h | h1
  · rw [← h]; exact List.mem_of_getElem? z_cw_41
  rcases Nat.eq_or_lt_of_le h1 with h | h1
  · rw [← h]; exact List.mem_of_getElem? z_cw_42
  rcases Nat.eq_or_lt_of_le h1 with h | h1
  · rw [← h]; exact List.mem_of_getElem? z_cw_43
  rcases Nat.eq_or_lt_of_le h1 with h | h1
  · rw [← h]; exact List.mem_of_getElem? z_cw_44
  rcases Nat.eq_or_lt_of_le h1 with h | h1
  · rw [← h]; exact List.mem_of_getElem? z_cw_45
  rcases Nat.eq_or_lt_of_le h1 with h | h1
  · rw [← h]; exact List.mem_of_getElem? z_cw_46
  rcases Nat.eq_or_lt_of_le h1 with h | h1
  · rw [← h]; exact List.mem_of_getElem? z_cw_47
  rcases Nat.eq_or_lt_of_le h1 with h | h1
  · rw [← h]; exact List.mem_of_getElem? z_cw_48
  rcases Nat.eq_or_lt_of_le h1 with h | h1
  · rw [← h]; exact List.mem_of_getElem? z_cw_49
  rcases Nat.eq_or_lt_of_le h1 with h | h1
  · rw [← h]; exact List.mem_of_getElem? z_cw_50
  rcases Nat.eq_or_lt_of_le h1 with h | h1
  · rw [← h]; exact List.mem_of_getElem? z_cw_51
  rcases Nat.eq_or_lt_of_le h1 with h | h1
  · rw [← h]; exact List.mem_of_getElem? z_cw_52
  rcases Nat.eq_or_lt_of_le h1 with h | h1
  · rw [← h]; exact List.mem_of_getElem? z_cw_53
  rcases Nat.eq_or_lt_of_le h1 with h | h1
  · rw [← h]; exact List.mem_of_getElem? z_cw_54
  rcases Nat.eq_or_lt_of_le h1 with h | h1
  · rw [← h]; exact List.mem_of_getElem? z_cw_55
  rcases Nat.eq_or_lt_of_le h1 with h | h1
  · rw [← h]; exact List.mem_of_getElem? z_cw_56
  omega
theorem z_cw {m : Nat} (hm : m < 57) : z_codeW m ∈ lw_tbl := by
  rcases Nat.lt_or_ge m 20 with h | h
  · exact z_cwa_0 m (by omega) h
  rcases Nat.lt_or_ge m 40 with h | h
  · exact z_cwa_20 m (by omega) h
  rcases Nat.lt_or_ge m 57 with h | h
  · exact z_cwa_40 m (by omega) h
  omega
end
section
theorem z_ck_0 : (List.range 2).all (fun j => (List.range (z_len (0 + j))).all (z_ckI (0 + j))) = true := by decide +kernel
theorem z_ck_2 : (List.range 5).all (fun j => (List.range (z_len (2 + j))).all (z_ckI (2 + j))) = true := by decide +kernel
theorem z_ck_7 : (List.range 3).all (fun j => (List.range (z_len (7 + j))).all (z_ckI (7 + j))) = true := by decide +kernel
theorem z_ck_10 : (List.range 2).all (fun j => (List.range (z_len (10 + j))).all (z_ckI (10 + j))) = true := by decide +kernel
theorem z_ck_12 : (List.range 4).all (fun j => (List.range (z_len (12 + j))).all (z_ckI (12 + j))) = true := by decide +kernel
theorem z_ck_16 : (List.range 1).all (fun j => (List.range (z_len (16 + j))).all (z_ckI (16 + j))) = true := by decide +kernel
theorem z_ck_17 : (List.range 3).all (fun j => (List.range (z_len (17 + j))).all (z_ckI (17 + j))) = true := by decide +kernel
theorem z_ckl20_0 : (List.range 64).all (fun j => z_ckI 20 (0 + j)) = true := by decide +kernel
theorem z_ckl20_64 : (List.range 64).all (fun j => z_ckI 20 (64 + j)) = true := by decide +kernel
theorem z_ckl20_128 : (List.range 43).all (fun j => z_ckI 20 (128 + j)) = true := by decide +kernel
theorem z_ckl20 {pc : Nat} (hp : pc < 171) : z_ckI 20 pc = true := by
  rcases Nat.lt_or_ge pc 64 with h | h
  · have h1 := List.all_eq_true.mp z_ckl20_0 (pc - 0) (List.mem_range.mpr (by omega))
    rw [show 0 + (pc - 0) = pc by omega] at h1
    exact h1
  rcases Nat.lt_or_ge pc 128 with h | h
  · have h1 := List.all_eq_true.mp z_ckl20_64 (pc - 64) (List.mem_range.mpr (by omega))
    rw [show 64 + (pc - 64) = pc by omega] at h1
    exact h1
  rcases Nat.lt_or_ge pc 171 with h | h
  · have h1 := List.all_eq_true.mp z_ckl20_128 (pc - 128) (List.mem_range.mpr (by omega))
    rw [show 128 + (pc - 128) = pc by omega] at h1
    exact h1
  omega
theorem z_ck_21 : (List.range 1).all (fun j => (List.range (z_len (21 + j))).all (z_ckI (21 + j))) = true := by decide +kernel
theorem z_ckl22_0 : (List.range 64).all (fun j => z_ckI 22 (0 + j)) = true := by decide +kernel
theorem z_ckl22_64 : (List.range 64).all (fun j => z_ckI 22 (64 + j)) = true := by decide +kernel
theorem z_ckl22_128 : (List.range 35).all (fun j => z_ckI 22 (128 + j)) = true := by decide +kernel
theorem z_ckl22 {pc : Nat} (hp : pc < 163) : z_ckI 22 pc = true := by
  rcases Nat.lt_or_ge pc 64 with h | h
  · have h1 := List.all_eq_true.mp z_ckl22_0 (pc - 0) (List.mem_range.mpr (by omega))
    rw [show 0 + (pc - 0) = pc by omega] at h1
    exact h1
  rcases Nat.lt_or_ge pc 128 with h | h
  · have h1 := List.all_eq_true.mp z_ckl22_64 (pc - 64) (List.mem_range.mpr (by omega))
    rw [show 64 + (pc - 64) = pc by omega] at h1
    exact h1
  rcases Nat.lt_or_ge pc 163 with h | h
  · have h1 := List.all_eq_true.mp z_ckl22_128 (pc - 128) (List.mem_range.mpr (by omega))
    rw [show 128 + (pc - 128) = pc by omega] at h1
    exact h1
  omega
theorem z_ck_23 : (List.range 2).all (fun j => (List.range (z_len (23 + j))).all (z_ckI (23 + j))) = true := by decide +kernel
theorem z_ck_25 : (List.range 3).all (fun j => (List.range (z_len (25 + j))).all (z_ckI (25 + j))) = true := by decide +kernel
theorem z_ck_28 : (List.range 2).all (fun j => (List.range (z_len (28 + j))).all (z_ckI (28 + j))) = true := by decide +kernel
theorem z_ck_30 : (List.range 1).all (fun j => (List.range (z_len (30 + j))).all (z_ckI (30 + j))) = true := by decide +kernel
theorem z_ck_31 : (List.range 1).all (fun j => (List.range (z_len (31 + j))).all (z_ckI (31 + j))) = true := by decide +kernel
theorem z_ck_32 : (List.range 1).all (fun j => (List.range (z_len (32 + j))).all (z_ckI (32 + j))) = true := by decide +kernel
theorem z_ckl33_0 : (List.range 64).all (fun j => z_ckI 33 (0 + j)) = true := by decide +kernel
theorem z_ckl33_64 : (List.range 64).all (fun j => z_ckI 33 (64 + j)) = true := by decide +kernel
theorem z_ckl33_128 : (List.range 64).all (fun j => z_ckI 33 (128 + j)) = true := by decide +kernel
theorem z_ckl33_192 : (List.range 56).all (fun j => z_ckI 33 (192 + j)) = true := by decide +kernel
theorem z_ckl33 {pc : Nat} (hp : pc < 248) : z_ckI 33 pc = true := by
  rcases Nat.lt_or_ge pc 64 with h | h
  · have h1 := List.all_eq_true.mp z_ckl33_0 (pc - 0) (List.mem_range.mpr (by omega))
    rw [show 0 + (pc - 0) = pc by omega] at h1
    exact h1
  rcases Nat.lt_or_ge pc 128 with h | h
  · have h1 := List.all_eq_true.mp z_ckl33_64 (pc - 64) (List.mem_range.mpr (by omega))
    rw [show 64 + (pc - 64) = pc by omega] at h1
    exact h1
  rcases Nat.lt_or_ge pc 192 with h | h
  · have h1 := List.all_eq_true.mp z_ckl33_128 (pc - 128) (List.mem_range.mpr (by omega))
    rw [show 128 + (pc - 128) = pc by omega] at h1
    exact h1
  rcases Nat.lt_or_ge pc 248 with h | h
  · have h1 := List.all_eq_true.mp z_ckl33_192 (pc - 192) (List.mem_range.mpr (by omega))
    rw [show 192 + (pc - 192) = pc by omega] at h1
    exact h1
  omega
theorem z_ck_34 : (List.range 1).all (fun j => (List.range (z_len (34 + j))).all (z_ckI (34 + j))) = true := by decide +kernel
theorem z_ckl35_0 : (List.range 64).all (fun j => z_ckI 35 (0 + j)) = true := by decide +kernel
theorem z_ckl35_64 : (List.range 64).all (fun j => z_ckI 35 (64 + j)) = true := by decide +kernel
theorem z_ckl35_128 : (List.range 30).all (fun j => z_ckI 35 (128 + j)) = true := by decide +kernel
theorem z_ckl35 {pc : Nat} (hp : pc < 158) : z_ckI 35 pc = true := by
  rcases Nat.lt_or_ge pc 64 with h | h
  · have h1 := List.all_eq_true.mp z_ckl35_0 (pc - 0) (List.mem_range.mpr (by omega))
    rw [show 0 + (pc - 0) = pc by omega] at h1
    exact h1
  rcases Nat.lt_or_ge pc 128 with h | h
  · have h1 := List.all_eq_true.mp z_ckl35_64 (pc - 64) (List.mem_range.mpr (by omega))
    rw [show 64 + (pc - 64) = pc by omega] at h1
    exact h1
  rcases Nat.lt_or_ge pc 158 with h | h
  · have h1 := List.all_eq_true.mp z_ckl35_128 (pc - 128) (List.mem_range.mpr (by omega))
    rw [show 128 + (pc - 128) = pc by omega] at h1
    exact h1
  omega
theorem z_ck_36 : (List.range 2).all (fun j => (List.range (z_len (36 + j))).all (z_ckI (36 + j))) = true := by decide +kernel
theorem z_ckl38_0 : (List.range 64).all (fun j => z_ckI 38 (0 + j)) = true := by decide +kernel
theorem z_ckl38_64 : (List.range 64).all (fun j => z_ckI 38 (64 + j)) = true := by decide +kernel
theorem z_ckl38_128 : (List.range 45).all (fun j => z_ckI 38 (128 + j)) = true := by decide +kernel
theorem z_ckl38 {pc : Nat} (hp : pc < 173) : z_ckI 38 pc = true := by
  rcases Nat.lt_or_ge pc 64 with h | h
  · have h1 := List.all_eq_true.mp z_ckl38_0 (pc - 0) (List.mem_range.mpr (by omega))
    rw [show 0 + (pc - 0) = pc by omega] at h1
    exact h1
  rcases Nat.lt_or_ge pc 128 with h | h
  · have h1 := List.all_eq_true.mp z_ckl38_64 (pc - 64) (List.mem_range.mpr (by omega))
    rw [show 64 + (pc - 64) = pc by omega] at h1
    exact h1
  rcases Nat.lt_or_ge pc 173 with h | h
  · have h1 := List.all_eq_true.mp z_ckl38_128 (pc - 128) (List.mem_range.mpr (by omega))
    rw [show 128 + (pc - 128) = pc by omega] at h1
    exact h1
  omega
theorem z_ck_39 : (List.range 4).all (fun j => (List.range (z_len (39 + j))).all (z_ckI (39 + j))) = true := by decide +kernel
theorem z_ck_43 : (List.range 8).all (fun j => (List.range (z_len (43 + j))).all (z_ckI (43 + j))) = true := by decide +kernel
theorem z_ck_51 : (List.range 1).all (fun j => (List.range (z_len (51 + j))).all (z_ckI (51 + j))) = true := by decide +kernel
theorem z_ckl52_0 : (List.range 64).all (fun j => z_ckI 52 (0 + j)) = true := by decide +kernel
theorem z_ckl52_64 : (List.range 64).all (fun j => z_ckI 52 (64 + j)) = true := by decide +kernel
theorem z_ckl52_128 : (List.range 64).all (fun j => z_ckI 52 (128 + j)) = true := by decide +kernel
theorem z_ckl52_192 : (List.range 64).all (fun j => z_ckI 52 (192 + j)) = true := by decide +kernel
theorem z_ckl52_256 : (List.range 58).all (fun j => z_ckI 52 (256 + j)) = true := by decide +kernel
theorem z_ckl52 {pc : Nat} (hp : pc < 314) : z_ckI 52 pc = true := by
  rcases Nat.lt_or_ge pc 64 with h | h
  · have h1 := List.all_eq_true.mp z_ckl52_0 (pc - 0) (List.mem_range.mpr (by omega))
    rw [show 0 + (pc - 0) = pc by omega] at h1
    exact h1
  rcases Nat.lt_or_ge pc 128 with h | h
  · have h1 := List.all_eq_true.mp z_ckl52_64 (pc - 64) (List.mem_range.mpr (by omega))
    rw [show 64 + (pc - 64) = pc by omega] at h1
    exact h1
  rcases Nat.lt_or_ge pc 192 with h | h
  · have h1 := List.all_eq_true.mp z_ckl52_128 (pc - 128) (List.mem_range.mpr (by omega))
    rw [show 128 + (pc - 128) = pc by omega] at h1
    exact h1
  rcases Nat.lt_or_ge pc 256 with h | h
  · have h1 := List.all_eq_true.mp z_ckl52_192 (pc - 192) (List.mem_range.mpr (by omega))
    rw [show 192 + (pc - 192) = pc by omega] at h1
    exact h1
  rcases Nat.lt_or_ge pc 314 with h | h
  · have h1 := List.all_eq_true.mp z_ckl52_256 (pc - 256) (List.mem_range.mpr (by omega))
    rw [show 256 + (pc - 256) = pc by omega] at h1
    exact h1
  omega
theorem z_ckl53_0 : (List.range 64).all (fun j => z_ckI 53 (0 + j)) = true := by decide +kernel
theorem z_ckl53_64 : (List.range 64).all (fun j => z_ckI 53 (64 + j)) = true := by decide +kernel
theorem z_ckl53_128 : (List.range 64).all (fun j => z_ckI 53 (128 + j)) = true := by decide +kernel
theorem z_ckl53_192 : (List.range 64).all (fun j => z_ckI 53 (192 + j)) = true := by decide +kernel
theorem z_ckl53_256 : (List.range 64).all (fun j => z_ckI 53 (256 + j)) = true := by decide +kernel
theorem z_ckl53_320 : (List.range 64).all (fun j => z_ckI 53 (320 + j)) = true := by decide +kernel
theorem z_ckl53_384 : (List.range 64).all (fun j => z_ckI 53 (384 + j)) = true := by decide +kernel
theorem z_ckl53_448 : (List.range 64).all (fun j => z_ckI 53 (448 + j)) = true := by decide +kernel
theorem z_ckl53_512 : (List.range 64).all (fun j => z_ckI 53 (512 + j)) = true := by decide +kernel
theorem z_ckl53_576 : (List.range 64).all (fun j => z_ckI 53 (576 + j)) = true := by decide +kernel
theorem z_ckl53_640 : (List.range 15).all (fun j => z_ckI 53 (640 + j)) = true := by decide +kernel
theorem z_ckl53 {pc : Nat} (hp : pc < 655) : z_ckI 53 pc = true := by
  rcases Nat.lt_or_ge pc 64 with h | h
  · have h1 := List.all_eq_true.mp z_ckl53_0 (pc - 0) (List.mem_range.mpr (by omega))
    rw [show 0 + (pc - 0) = pc by omega] at h1
    exact h1
  rcases Nat.lt_or_ge pc 128 with h | h
  · have h1 := List.all_eq_true.mp z_ckl53_64 (pc - 64) (List.mem_range.mpr (by omega))
    rw [show 64 + (pc - 64) = pc by omega] at h1
    exact h1
  rcases Nat.lt_or_ge pc 192 with h | h
  · have h1 := List.all_eq_true.mp z_ckl53_128 (pc - 128) (List.mem_range.mpr (by omega))
    rw [show 128 + (pc - 128) = pc by omega] at h1
    exact h1
  rcases Nat.lt_or_ge pc 256 with h | h
  · have h1 := List.all_eq_true.mp z_ckl53_192 (pc - 192) (List.mem_range.mpr (by omega))
    rw [show 192 + (pc - 192) = pc by omega] at h1
    exact h1
  rcases Nat.lt_or_ge pc 320 with h | h
  · have h1 := List.all_eq_true.mp z_ckl53_256 (pc - 256) (List.mem_range.mpr (by omega))
    rw [show 256 + (pc - 256) = pc by omega] at h1
    exact h1
  rcases Nat.lt_or_ge pc 384 with h | h
  · have h1 := List.all_eq_true.mp z_ckl53_320 (pc - 320) (List.mem_range.mpr (by omega))
    rw [show 320 + (pc - 320) = pc by omega] at h1
    exact h1
  rcases Nat.lt_or_ge pc 448 with h | h
  · have h1 := List.all_eq_true.mp z_ckl53_384 (pc - 384) (List.mem_range.mpr (by omega))
    rw [show 384 + (pc - 384) = pc by omega] at h1
    exact h1
  rcases Nat.lt_or_ge pc 512 with h | h
  · have h1 := List.all_eq_true.mp z_ckl53_448 (pc - 448) (List.mem_range.mpr (by omega))
    rw [show 448 + (pc - 448) = pc by omega] at h1
    exact h1
  rcases Nat.lt_or_ge pc 576 with h | h
  · have h1 := List.all_eq_true.mp z_ckl53_512 (pc - 512) (List.mem_range.mpr (by omega))
    rw [show 512 + (pc - 512) = pc by omega] at h1
    exact h1
  rcases Nat.lt_or_ge pc 640 with h | h
  · have h1 := List.all_eq_true.mp z_ckl53_576 (pc - 576) (List.mem_range.mpr (by omega))
    rw [show 576 + (pc - 576) = pc by omega] at h1
    exact h1
  rcases Nat.lt_or_ge pc 655 with h | h
  · have h1 := List.all_eq_true.mp z_ckl53_640 (pc - 640) (List.mem_range.mpr (by omega))
    rw [show 640 + (pc - 640) = pc by omega] at h1
    exact h1
  omega
theorem z_ckl54_0 : (List.range 64).all (fun j => z_ckI 54 (0 + j)) = true := by decide +kernel
theorem z_ckl54_64 : (List.range 64).all (fun j => z_ckI 54 (64 + j)) = true := by decide +kernel
theorem z_ckl54_128 : (List.range 64).all (fun j => z_ckI 54 (128 + j)) = true := by decide +kernel
theorem z_ckl54_192 : (List.range 62).all (fun j => z_ckI 54 (192 + j)) = true := by decide +kernel
theorem z_ckl54 {pc : Nat} (hp : pc < 254) : z_ckI 54 pc = true := by
  rcases Nat.lt_or_ge pc 64 with h | h
  · have h1 := List.all_eq_true.mp z_ckl54_0 (pc - 0) (List.mem_range.mpr (by omega))
    rw [show 0 + (pc - 0) = pc by omega] at h1
    exact h1
  rcases Nat.lt_or_ge pc 128 with h | h
  · have h1 := List.all_eq_true.mp z_ckl54_64 (pc - 64) (List.mem_range.mpr (by omega))
    rw [show 64 + (pc - 64) = pc by omega] at h1
    exact h1
  rcases Nat.lt_or_ge pc 192 with h | h
  · have h1 := List.all_eq_true.mp z_ckl54_128 (pc - 128) (List.mem_range.mpr (by omega))
    rw [show 128 + (pc - 128) = pc by omega] at h1
    exact h1
  rcases Nat.lt_or_ge pc 254 with h | h
  · have h1 := List.all_eq_true.mp z_ckl54_192 (pc - 192) (List.mem_range.mpr (by omega))
    rw [show 192 + (pc - 192) = pc by omega] at h1
    exact h1
  omega
theorem z_ckl55_0 : (List.range 64).all (fun j => z_ckI 55 (0 + j)) = true := by decide +kernel
theorem z_ckl55_64 : (List.range 64).all (fun j => z_ckI 55 (64 + j)) = true := by decide +kernel
theorem z_ckl55_128 : (List.range 64).all (fun j => z_ckI 55 (128 + j)) = true := by decide +kernel
theorem z_ckl55_192 : (List.range 64).all (fun j => z_ckI 55 (192 + j)) = true := by decide +kernel
theorem z_ckl55_256 : (List.range 64).all (fun j => z_ckI 55 (256 + j)) = true := by decide +kernel
theorem z_ckl55_320 : (List.range 7).all (fun j => z_ckI 55 (320 + j)) = true := by decide +kernel
theorem z_ckl55 {pc : Nat} (hp : pc < 327) : z_ckI 55 pc = true := by
  rcases Nat.lt_or_ge pc 64 with h | h
  · have h1 := List.all_eq_true.mp z_ckl55_0 (pc - 0) (List.mem_range.mpr (by omega))
    rw [show 0 + (pc - 0) = pc by omega] at h1
    exact h1
  rcases Nat.lt_or_ge pc 128 with h | h
  · have h1 := List.all_eq_true.mp z_ckl55_64 (pc - 64) (List.mem_range.mpr (by omega))
    rw [show 64 + (pc - 64) = pc by omega] at h1
    exact h1
  rcases Nat.lt_or_ge pc 192 with h | h
  · have h1 := List.all_eq_true.mp z_ckl55_128 (pc - 128) (List.mem_range.mpr (by omega))
    rw [show 128 + (pc - 128) = pc by omega] at h1
    exact h1
  rcases Nat.lt_or_ge pc 256 with h | h
  · have h1 := List.all_eq_true.mp z_ckl55_192 (pc - 192) (List.mem_range.mpr (by omega))
    rw [show 192 + (pc - 192) = pc by omega] at h1
    exact h1
  rcases Nat.lt_or_ge pc 320 with h | h
  · have h1 := List.all_eq_true.mp z_ckl55_256 (pc - 256) (List.mem_range.mpr (by omega))
    rw [show 256 + (pc - 256) = pc by omega] at h1
    exact h1
  rcases Nat.lt_or_ge pc 327 with h | h
  · have h1 := List.all_eq_true.mp z_ckl55_320 (pc - 320) (List.mem_range.mpr (by omega))
    rw [show 320 + (pc - 320) = pc by omega] at h1
    exact h1
  omega
theorem z_ck_56 : (List.range 1).all (fun j => (List.range (z_len (56 + j))).all (z_ckI (56 + j))) = true := by decide +kernel
theorem z_ckl57_0 : (List.range 64).all (fun j => z_ckI 57 (0 + j)) = true := by decide +kernel
theorem z_ckl57_64 : (List.range 64).all (fun j => z_ckI 57 (64 + j)) = true := by decide +kernel
theorem z_ckl57_128 : (List.range 64).all (fun j => z_ckI 57 (128 + j)) = true := by decide +kernel
theorem z_ckl57_192 : (List.range 30).all (fun j => z_ckI 57 (192 + j)) = true := by decide +kernel
theorem z_ckl57 {pc : Nat} (hp : pc < 222) : z_ckI 57 pc = true := by
  rcases Nat.lt_or_ge pc 64 with h | h
  · have h1 := List.all_eq_true.mp z_ckl57_0 (pc - 0) (List.mem_range.mpr (by omega))
    rw [show 0 + (pc - 0) = pc by omega] at h1
    exact h1
  rcases Nat.lt_or_ge pc 128 with h | h
  · have h1 := List.all_eq_true.mp z_ckl57_64 (pc - 64) (List.mem_range.mpr (by omega))
    rw [show 64 + (pc - 64) = pc by omega] at h1
    exact h1
  rcases Nat.lt_or_ge pc 192 with h | h
  · have h1 := List.all_eq_true.mp z_ckl57_128 (pc - 128) (List.mem_range.mpr (by omega))
    rw [show 128 + (pc - 128) = pc by omega] at h1
    exact h1
  rcases Nat.lt_or_ge pc 222 with h | h
  · have h1 := List.all_eq_true.mp z_ckl57_192 (pc - 192) (List.mem_range.mpr (by omega))
    rw [show 192 + (pc - 192) = pc by omega] at h1
    exact h1
  omega
end
section
theorem z_ck {m pc : Nat} (hm : m < 58) (hp : pc < z_len m) : z_ckI m pc = true := by
  rcases Nat.lt_or_ge m 2 with h | h
  · have h1 := List.all_eq_true.mp (List.all_eq_true.mp z_ck_0 (m - 0) (List.mem_range.mpr (by omega))) pc (List.mem_range.mpr (by rw [show 0 + (m - 0) = m by omega]; exact hp))
    rw [show 0 + (m - 0) = m by omega] at h1
    exact h1
  rcases Nat.lt_or_ge m 7 with h | h
  · have h1 := List.all_eq_true.mp (List.all_eq_true.mp z_ck_2 (m - 2) (List.mem_range.mpr (by omega))) pc (List.mem_range.mpr (by rw [show 2 + (m - 2) = m by omega]; exact hp))
    rw [show 2 + (m - 2) = m by omega] at h1
    exact h1
  rcases Nat.lt_or_ge m 10 with h | h
  · have h1 := List.all_eq_true.mp (List.all_eq_true.mp z_ck_7 (m - 7) (List.mem_range.mpr (by omega))) pc (List.mem_range.mpr (by rw [show 7 + (m - 7) = m by omega]; exact hp))
    rw [show 7 + (m - 7) = m by omega] at h1
    exact h1
  rcases Nat.lt_or_ge m 12 with h | h
  · have h1 := List.all_eq_true.mp (List.all_eq_true.mp z_ck_10 (m - 10) (List.mem_range.mpr (by omega))) pc (List.mem_range.mpr (by rw [show 10 + (m - 10) = m by omega]; exact hp))
    rw [show 10 + (m - 10) = m by omega] at h1
    exact h1
  rcases Nat.lt_or_ge m 16 with h | h
  · have h1 := List.all_eq_true.mp (List.all_eq_true.mp z_ck_12 (m - 12) (List.mem_range.mpr (by omega))) pc (List.mem_range.mpr (by rw [show 12 + (m - 12) = m by omega]; exact hp))
    rw [show 12 + (m - 12) = m by omega] at h1
    exact h1
  rcases Nat.lt_or_ge m 17 with h | h
  · have h1 := List.all_eq_true.mp (List.all_eq_true.mp z_ck_16 (m - 16) (List.mem_range.mpr (by omega))) pc (List.mem_range.mpr (by rw [show 16 + (m - 16) = m by omega]; exact hp))
    rw [show 16 + (m - 16) = m by omega] at h1
    exact h1
  rcases Nat.lt_or_ge m 20 with h | h
  · have h1 := List.all_eq_true.mp (List.all_eq_true.mp z_ck_17 (m - 17) (List.mem_range.mpr (by omega))) pc (List.mem_range.mpr (by rw [show 17 + (m - 17) = m by omega]; exact hp))
    rw [show 17 + (m - 17) = m by omega] at h1
    exact h1
  rcases Nat.lt_or_ge m 21 with h | h
  · have h9 : m = 20 := by omega
    subst h9
    exact z_ckl20 hp
  rcases Nat.lt_or_ge m 22 with h | h
  · have h1 := List.all_eq_true.mp (List.all_eq_true.mp z_ck_21 (m - 21) (List.mem_range.mpr (by omega))) pc (List.mem_range.mpr (by rw [show 21 + (m - 21) = m by omega]; exact hp))
    rw [show 21 + (m - 21) = m by omega] at h1
    exact h1
  rcases Nat.lt_or_ge m 23 with h | h
  · have h9 : m = 22 := by omega
    subst h9
    exact z_ckl22 hp
  rcases Nat.lt_or_ge m 25 with h | h
  · have h1 := List.all_eq_true.mp (List.all_eq_true.mp z_ck_23 (m - 23) (List.mem_range.mpr (by omega))) pc (List.mem_range.mpr (by rw [show 23 + (m - 23) = m by omega]; exact hp))
    rw [show 23 + (m - 23) = m by omega] at h1
    exact h1
  rcases Nat.lt_or_ge m 28 with h | h
  · have h1 := List.all_eq_true.mp (List.all_eq_true.mp z_ck_25 (m - 25) (List.mem_range.mpr (by omega))) pc (List.mem_range.mpr (by rw [show 25 + (m - 25) = m by omega]; exact hp))
    rw [show 25 + (m - 25) = m by omega] at h1
    exact h1
  rcases Nat.lt_or_ge m 30 with h | h
  · have h1 := List.all_eq_true.mp (List.all_eq_true.mp z_ck_28 (m - 28) (List.mem_range.mpr (by omega))) pc (List.mem_range.mpr (by rw [show 28 + (m - 28) = m by omega]; exact hp))
    rw [show 28 + (m - 28) = m by omega] at h1
    exact h1
  rcases Nat.lt_or_ge m 31 with h | h
  · have h1 := List.all_eq_true.mp (List.all_eq_true.mp z_ck_30 (m - 30) (List.mem_range.mpr (by omega))) pc (List.mem_range.mpr (by rw [show 30 + (m - 30) = m by omega]; exact hp))
    rw [show 30 + (m - 30) = m by omega] at h1
    exact h1
  rcases Nat.lt_or_ge m 32 with h | h
  · have h1 := List.all_eq_true.mp (List.all_eq_true.mp z_ck_31 (m - 31) (List.mem_range.mpr (by omega))) pc (List.mem_range.mpr (by rw [show 31 + (m - 31) = m by omega]; exact hp))
    rw [show 31 + (m - 31) = m by omega] at h1
    exact h1
  rcases Nat.lt_or_ge m 33 with h | h
  · have h1 := List.all_eq_true.mp (List.all_eq_true.mp z_ck_32 (m - 32) (List.mem_range.mpr (by omega))) pc (List.mem_range.mpr (by rw [show 32 + (m - 32) = m by omega]; exact hp))
    rw [show 32 + (m - 32) = m by omega] at h1
    exact h1
  rcases Nat.lt_or_ge m 34 with h | h
  · have h9 : m = 33 := by omega
    subst h9
    exact z_ckl33 hp
  rcases Nat.lt_or_ge m 35 with h | h
  · have h1 := List.all_eq_true.mp (List.all_eq_true.mp z_ck_34 (m - 34) (List.mem_range.mpr (by omega))) pc (List.mem_range.mpr (by rw [show 34 + (m - 34) = m by omega]; exact hp))
    rw [show 34 + (m - 34) = m by omega] at h1
    exact h1
  rcases Nat.lt_or_ge m 36 with h | h
  · have h9 : m = 35 := by omega
    subst h9
    exact z_ckl35 hp
  rcases Nat.lt_or_ge m 38 with h | h
  · have h1 := List.all_eq_true.mp (List.all_eq_true.mp z_ck_36 (m - 36) (List.mem_range.mpr (by omega))) pc (List.mem_range.mpr (by rw [show 36 + (m - 36) = m by omega]; exact hp))
    rw [show 36 + (m - 36) = m by omega] at h1
    exact h1
  rcases Nat.lt_or_ge m 39 with h | h
  · have h9 : m = 38 := by omega
    subst h9
    exact z_ckl38 hp
  rcases Nat.lt_or_ge m 43 with h | h
  · have h1 := List.all_eq_true.mp (List.all_eq_true.mp z_ck_39 (m - 39) (List.mem_range.mpr (by omega))) pc (List.mem_range.mpr (by rw [show 39 + (m - 39) = m by omega]; exact hp))
    rw [show 39 + (m - 39) = m by omega] at h1
    exact h1
  rcases Nat.lt_or_ge m 51 with h | h
  · have h1 := List.all_eq_true.mp (List.all_eq_true.mp z_ck_43 (m - 43) (List.mem_range.mpr (by omega))) pc (List.mem_range.mpr (by rw [show 43 + (m - 43) = m by omega]; exact hp))
    rw [show 43 + (m - 43) = m by omega] at h1
    exact h1
  rcases Nat.lt_or_ge m 52 with h | h
  · have h1 := List.all_eq_true.mp (List.all_eq_true.mp z_ck_51 (m - 51) (List.mem_range.mpr (by omega))) pc (List.mem_range.mpr (by rw [show 51 + (m - 51) = m by omega]; exact hp))
    rw [show 51 + (m - 51) = m by omega] at h1
    exact h1
  rcases Nat.lt_or_ge m 53 with h | h
  · have h9 : m = 52 := by omega
    subst h9
    exact z_ckl52 hp
  rcases Nat.lt_or_ge m 54 with h | h
  · have h9 : m = 53 := by omega
    subst h9
    exact z_ckl53 hp
  rcases Nat.lt_or_ge m 55 with h | h
  · have h9 : m = 54 := by omega
    subst h9
    exact z_ckl54 hp
  rcases Nat.lt_or_ge m 56 with h | h
  · have h9 : m = 55 := by omega
    subst h9
    exact z_ckl55 hp
  rcases Nat.lt_or_ge m 57 with h | h
  · have h1 := List.all_eq_true.mp (List.all_eq_true.mp z_ck_56 (m - 56) (List.mem_range.mpr (by omega))) pc (List.mem_range.mpr (by rw [show 56 + (m - 56) = m by omega]; exact hp))
    rw [show 56 + (m - 56) = m by omega] at h1
    exact h1
  rcases Nat.lt_or_ge m 58 with h | h
  · have h9 : m = 57 := by omega
    subst h9
    exact z_ckl57 hp
  omega

theorem z_isW_in {v : Nat} {w : Cond} (h : z_isW v w = true) : w ∈ lw_tbl := by
  unfold z_isW at h
  split at h
  · rename_i x hx
    have e := of_decide_eq_true h
    subst e
    exact List.mem_of_getElem? hx
  · cases h
theorem z_ins_lt {m pc : Nat} {x : Instr × Nat × Int32} (h : z_ins m pc = some x) : m < 58 ∧ pc < z_len m := by
  unfold z_ins at h
  cases e : (Nat.blt m 58 && Nat.blt pc (z_len m))
  · rw [e] at h; cases h
  · obtain ⟨a, b⟩ := Bool.and_eq_true_iff.mp e
    exact ⟨Nat.ble_eq.mp a, Nat.ble_eq.mp b⟩
theorem z_ins_ck {m pc t : Nat} {i : Instr} {cs : Int32} (h : z_ins m pc = some (i, t, cs)) : (∃ n, decode (z_b m) pc = .ok (i, n) ∧ (z_sw i = true ∨ n = z_il i)) ∧ z_ccB pc i t cs = true ∧ z_lnk m i = true := by
  obtain ⟨h1, h2⟩ := z_ins_lt h
  have h3 := z_ck h1 h2
  unfold z_ckI at h3
  rw [h] at h3
  dsimp only at h3
  obtain ⟨h4, h5⟩ := Bool.and_eq_true_iff.mp h3
  obtain ⟨h6, h7⟩ := Bool.and_eq_true_iff.mp h4
  refine ⟨?_, h7, h5⟩
  cases hd : decode (z_b m) pc with
  | error _ => rw [hd] at h6; cases h6
  | ok q =>
    rw [hd] at h6
    obtain ⟨j, n⟩ := q
    obtain ⟨e1, e2⟩ := Bool.and_eq_true_iff.mp h6
    have e3 := of_decide_eq_true e1
    subst e3
    refine ⟨n, rfl, ?_⟩
    rcases Bool.or_eq_true_iff.mp e2 with e | e
    · exact Or.inl e
    · exact Or.inr (Nat.eq_of_beq_eq_true e)
end
section

/-! ONE STEP IS SOUND -/
theorem z_inb_vp {i : Int32} {n : Nat} (h : z_inb i n = true) : vp_in i n := by
  unfold z_inb at h
  obtain ⟨h1, h2⟩ := Bool.and_eq_true_iff.mp h
  have h3 : ¬ i < 0 := by simpa using h1
  have h4 : i.toNatClampNeg < n := Nat.ble_eq.mp h2
  intro q
  rcases q with q | q
  · exact h3 q
  · omega
theorem z_good_in {w : Cond} (h : w ∈ lw_tbl) (hg : goodWord w = true) : w ∈ z_good := List.mem_filter.mpr ⟨h, hg⟩
theorem z_misc_in {w : Cond} (h : w ∈ lw_tbl) (hg : z_isM w = true) : w ∈ z_misc := List.mem_filter.mpr ⟨h, hg⟩
theorem z_lays (c : Nat) (hc : c < 5) : ∀ w ∈ u_ws (z_on c) (z_T c) (z_nf c), w ∈ z_good := by
  have h : (List.range 5).all (fun c => (u_ws (z_on c) (z_T c) (z_nf c)).all (fun w => goodWord w && lw_tbl.any (fun x => decide (x = w)))) = true := by decide +kernel
  intro w hw
  have h1 := List.all_eq_true.mp (List.all_eq_true.mp h c (List.mem_range.mpr hc)) w hw
  obtain ⟨h2, h3⟩ := Bool.and_eq_true_iff.mp h1
  obtain ⟨x, hx, e⟩ := List.any_eq_true.mp h3
  have e2 := of_decide_eq_true e
  subst e2
  exact z_good_in hx h2
theorem z_cl_ok (c : Nat) (hc : c < 5) : vwCl[c]? = some (z_on c, z_T c, z_nf c) := by
  match c, hc with
  | 0, _ => rfl
  | 1, _ => rfl
  | 2, _ => rfl
  | 3, _ => rfl
  | 4, _ => rfl
theorem z_nm_ok (c : Nat) (hc : c < 5) : ∀ a, a < z_nf c → ∀ b, b < z_nf c → a ≠ b → (z_T c a).2.1 ≠ (z_T c b).2.1 := by
  match c, hc with
  | 0, _ => exact nmX0
  | 1, _ => exact nmX1
  | 2, _ => exact nmX2
  | 3, _ => exact nmX3
  | 4, _ => exact nmX4
theorem z_ty_ok (c : Nat) (hc : c < 5) : ∀ k, k < z_nf c → parseFieldDescriptor (z_T c k).2.2.1 = some (z_tyT c k) := by
  match c, hc with
  | 0, _ => exact tyX0_ok
  | 1, _ => exact tyX1_ok
  | 2, _ => exact tyX2_ok
  | 3, _ => exact tyX3_ok
  | 4, _ => exact tyX4_ok
theorem z_obj_nf {p c n : Nat} (h : z_obj p = some (c, n)) : c < 5 ∧ n = z_nf c := by
  unfold z_obj at h
  split at h <;> first | (cases h; decide) | cases h
/-- references read are good ones -/
theorem z_rd_ok {M : Mem} {f p k c n : Nat} (h : z_val f p = true) (ho : z_obj p = some (c, n)) (hk : k < n) : z_okv (z_rd M f p k) = true := by
  have hp : p = 0 ∨ p = 1 ∨ p = 16 ∨ p = 19 ∨ p = 23 := by
    unfold z_obj at ho
    split at ho <;> first | omega | cases ho
  have key : ∀ r, z_rk f p k = some r → z_okv r = true := by
    intro r hr
    rcases hp with rfl | rfl | rfl | rfl | rfl
    · cases ho
      match k, hk with
      | 0, _ => cases hr; exact h
      | 1, _ => cases hr; exact h
      | 2, _ => cases hr; exact h
      | 3, _ => cases hr
      | 4, _ => cases hr
      | 5, _ => cases hr
      | 6, _ => cases hr
      | j + 7, hk => exact absurd hk (by omega)
    · cases ho
      match k, hk with
      | 0, _ => cases hr; exact h
      | 1, _ => cases hr; exact h
      | 2, _ => cases hr; exact h
      | 3, _ => cases hr; exact h
      | 4, _ => cases hr; exact h
      | 5, _ => cases hr; exact h
      | 6, _ => cases hr; exact h
      | 7, _ => cases hr; exact h
      | j + 8, hk => exact absurd hk (by omega)
    · cases ho
      match k, hk with
      | 0, _ => cases hr; exact rfl
      | 1, _ => cases hr; exact rfl
      | 2, _ => cases hr; exact rfl
      | 3, _ => cases hr
      | 4, _ => cases hr
      | 5, _ => cases hr; exact rfl
      | 6, _ => cases hr
      | 7, _ => cases hr; exact rfl
      | 8, _ => cases hr; exact rfl
      | j + 9, hk => exact absurd hk (by omega)
    · cases ho
      match k, hk with
      | 0, _ => cases hr; exact rfl
      | 1, _ => cases hr; exact rfl
      | 2, _ => cases hr; exact rfl
      | 3, _ => cases hr
      | 4, _ => cases hr
      | j + 5, hk => exact absurd hk (by omega)
    · cases ho
      match k, hk with
      | 0, _ => cases hr; exact rfl
      | 1, _ => cases hr
      | 2, _ => cases hr
      | 3, _ => cases hr
      | 4, _ => cases hr
      | j + 5, hk => exact absurd hk (by omega)
  unfold z_rd
  cases hr : z_rk f p k with
  | some r => exact key r hr
  | none =>
    dsimp only
    cases (Nat.beq p 32 && Nat.beq k 18) <;> rfl
/-- a part that holds a reference is a part of the world, or the script -/
theorem z_okv_val {f p : Nat} (h : z_okv (.inr (.inr (.inr (f, p)))) = true) (hp : Nat.beq p 41 = false) : z_val f p = true := by
  have h1 : ((Nat.beq p 41 && Nat.beq f 0) || z_val f p) = true := h
  rw [hp] at h1
  exact h1
theorem z_okS_tl {v : AV} {t : List AV} (h : z_okS (v :: t) = true) : z_okS t = true := by
  have h1 : (z_okv v && z_okS t) = true := h
  exact (Bool.and_eq_true_iff.mp h1).2
theorem z_okS_hd {v : AV} {t : List AV} (h : z_okS (v :: t) = true) : z_okv v = true := by
  have h1 : (z_okv v && z_okS t) = true := h
  exact (Bool.and_eq_true_iff.mp h1).1
theorem z_okS_mk {v : AV} {t : List AV} (h1 : z_okv v = true) (h2 : z_okS t = true) : z_okS (v :: t) = true := by
  show (z_okv v && z_okS t) = true
  rw [h1, h2]
  rfl
theorem z_sl_map (ad : z_ad) : ∀ r : List AV, ((r.map (cv ad)).map fun v => v.category).sum = z_sl r
  | [] => rfl
  | v :: t => by
    have ih := z_sl_map ad t
    simp only [List.map_cons, List.sum_cons]
    rw [ih, cv_cat]
    show (if z_cat2 v = true then 2 else 1) + z_sl t = (bif z_cat2 v then 2 else 1) + z_sl t
    cases z_cat2 v <;> rfl
theorem z_isB_nar {x : Int32} (h : z_isB x = true) : narrow .boolean (.int x) = .int x := by
  unfold z_isB at h
  rcases Bool.or_eq_true_iff.mp h with e | e
  · rw [of_decide_eq_true e]; rfl
  · rw [of_decide_eq_true e]; rfl

theorem z_w_nat : Cond.native arraycopyName ∈ lw_tbl := List.mem_of_getElem? (i := 420) (by decide +kernel)
theorem z_w_stc : Cond.static arraycopyName ∈ lw_tbl := List.mem_of_getElem? (i := 419) (by decide +kernel)
theorem z_w_ini : Cond.initialized "java/lang/System" ∈ lw_tbl := List.mem_of_getElem? (i := 39) (by decide +kernel)
theorem z_w_mi : Cond.initialized "java/lang/Math" ∈ lw_tbl := List.mem_of_getElem? (i := 37) (by decide +kernel)
theorem z_w_mxs : Cond.static Lib.Math.max.name ∈ lw_tbl := List.mem_of_getElem? (i := 320) (by decide +kernel)
theorem z_w_mns : Cond.static Lib.Math.min.name ∈ lw_tbl := List.mem_of_getElem? (i := 309) (by decide +kernel)
theorem z_w_mxc : Cond.code Lib.Math.max.name Lib.Math.max.code 2 (some .int) ∈ lw_tbl := List.mem_of_getElem? (i := 321) (by decide +kernel)
theorem z_w_mnc : Cond.code Lib.Math.min.name Lib.Math.min.code 2 (some .int) ∈ lw_tbl := List.mem_of_getElem? (i := 310) (by decide +kernel)

theorem z_ti_eq {t : Int} {q : Nat} (h : z_ti t = some q) : t = (q : Int) := by
  unfold z_ti at h
  cases hc : decide (0 ≤ t)
  · rw [hc] at h; cases h
  · rw [hc] at h
    cases h
    exact (Int.toNat_of_nonneg (of_decide_eq_true hc)).symm
theorem z_natw {a : Nat} (h : a < 9) : a + (nativeFrameWords "java/lang/System" "arraycopy" 5 + 11) ≤ 40 := by
  have : nativeFrameWords "java/lang/System" "arraycopy" 5 = 7 := by decide +kernel
  omega
theorem z_beq_ne {a b : Nat} (h : a ≠ b) : Nat.beq a b = false := by
  cases hc : Nat.beq a b
  · rfl
  · exact absurd (Nat.eq_of_beq_eq_true hc) h
theorem z_okv_41 {f : Nat} (h : z_okv (.inr (.inr (.inr (f, 41)))) = true) : f = 0 := by
  have h1 : ((true && Nat.beq f 0) || false) = true := h
  have h2 : Nat.beq f 0 = true := by simpa using h1
  exact Nat.eq_of_beq_eq_true h2
theorem z_obj_41 {p c n : Nat} (h : z_obj p = some (c, n)) : Nat.beq p 41 = false := by
  refine z_beq_ne fun e => ?_
  subst e
  cases h
theorem z_ak_2 {p : Nat} (h : z_ak p = 2) : p = 17 := by
  unfold z_ak at h
  split at h <;> first | rfl | cases h
theorem z_ak_3 {p : Nat} (h : z_ak p = 3) : p = 10 := by
  unfold z_ak at h
  split at h <;> first | rfl | cases h
theorem z_ak_1 {p : Nat} (h : z_ak p = 1) : False := by
  unfold z_ak at h
  split at h <;> cases h
theorem z_en_any {ad : z_ad} {cs : Nat → ClassId} {M : Mem} {f p : Nat} (h : z_obj p = none) : ∃ (t0 : Nat) (cA : ClassId) (x : vp_A), z_en ad cs M f p = .inl (cA, x) ∧ (∃ ty, (z_tys cs)[t0]? = some (cA, ty)) ∧ x.1 = z_sz p := by
  unfold z_en
  rw [h]
  dsimp only
  split
  · exact ⟨0, _, _, rfl, ⟨_, rfl⟩, rfl⟩
  · rename_i hk; have e := z_ak_1 hk; exact e.elim
  · rename_i hk; have e := z_ak_2 hk; subst e; exact ⟨1, _, _, rfl, ⟨_, rfl⟩, rfl⟩
  · rename_i h0 h1 h2
    have e : p = 10 := by
      unfold z_ak at h0 h1 h2
      split at h0 <;> first | rfl | (exact absurd rfl h0) | (exact absurd rfl h1) | (exact absurd rfl h2) | (split at h1 <;> first | rfl | (exact absurd rfl h0) | (exact absurd rfl h1) | (exact absurd rfl h2))
    subst e
    exact ⟨2, _, _, rfl, ⟨_, rfl⟩, rfl⟩
theorem z_isB_fit {x : Int32} (h : z_isB x = true) : fits .boolean (.int x) = true := by
  unfold z_isB at h
  rcases Bool.or_eq_true_iff.mp h with e | e
  · rw [of_decide_eq_true e]; rfl
  · rw [of_decide_eq_true e]; rfl
/-- a field of the kind int is not final, and its type is int or boolean -/
theorem z_put_ok {M : Mem} {f p k c n : Nat} {y : Int32} (ho : z_obj p = some (c, n)) (hk : k < n) (hy : z_rd M f p k = .inl y) : (z_T c k).2.2.2 = false ∧ z_tyT c k = (bif z_fb p k then .boolean else .int) := by
  have hp : p = 0 ∨ p = 1 ∨ p = 16 ∨ p = 19 ∨ p = 23 := by
    unfold z_obj at ho
    split at ho <;> first | omega | cases ho
  rcases hp with rfl | rfl | rfl | rfl | rfl <;> cases ho
  · match k, hk with
    | 0, _ => cases hy
    | 1, _ => cases hy
    | 2, _ => cases hy
    | 3, _ => exact ⟨rfl, rfl⟩
    | 4, _ => exact ⟨rfl, rfl⟩
    | 5, _ => exact ⟨rfl, rfl⟩
    | 6, _ => exact ⟨rfl, rfl⟩
  · cases hy
  · match k, hk with
    | 0, _ => cases hy
    | 1, _ => cases hy
    | 2, _ => cases hy
    | 3, _ => exact ⟨rfl, rfl⟩
    | 4, _ => exact ⟨rfl, rfl⟩
    | 5, _ => cases hy
    | 6, _ => exact ⟨rfl, rfl⟩
    | 7, _ => cases hy
    | 8, _ => cases hy
  · match k, hk with
    | 0, _ => cases hy
    | 1, _ => cases hy
    | 2, _ => cases hy
    | 3, _ => exact ⟨rfl, rfl⟩
    | 4, _ => exact ⟨rfl, rfl⟩
  · match k, hk with
    | 0, _ => cases hy
    | 1, _ => exact ⟨rfl, rfl⟩
    | 2, _ => exact ⟨rfl, rfl⟩
    | 3, _ => exact ⟨rfl, rfl⟩
    | 4, _ => exact ⟨rfl, rfl⟩
theorem z_cpo_ok {sp dp n : Int32} {a b : Nat} (h : z_cpo sp dp n a b = true) : ¬ sp < 0 ∧ ¬ dp < 0 ∧ ¬ n < 0 ∧ sp.toNatClampNeg + n.toNatClampNeg ≤ a ∧ dp.toNatClampNeg + n.toNatClampNeg ≤ b := by
  unfold z_cpo at h
  obtain ⟨h, h5⟩ := Bool.and_eq_true_iff.mp h
  obtain ⟨h, h4⟩ := Bool.and_eq_true_iff.mp h
  obtain ⟨h, h3⟩ := Bool.and_eq_true_iff.mp h
  obtain ⟨h1, h2⟩ := Bool.and_eq_true_iff.mp h
  exact ⟨by simpa using h1, by simpa using h2, by simpa using h3, Nat.ble_eq.mp h4, Nat.ble_eq.mp h5⟩
theorem z_ri_lt {M : Mem} {f p k : Nat} (h : p < 32) : z_ri M f p k = M.1 f p k := by
  unfold z_ri
  rw [show Nat.blt p 32 = true from Nat.ble_eq.mpr h]
  rfl
theorem z_cpy_en {ad : z_ad} {cs : Nat → ClassId} {M : Mem} {f p f' p' sp dp n : Nat} (hv : z_val f' p' = true) (ho : z_obj p' = none) (ha : z_ak p' = 0) (h1 : p < 32) (h2 : p' < 32) :
    z_en ad cs (z_cpy M.1 f p f' p' sp dp n, M.2) f' p' = .inl (cs 0, z_sz p', .inl (va_cpy (fun k => z_ri M f p k) (fun k => z_ri M f' p' k) sp dp n)) := by
  unfold z_en
  rw [ho]
  dsimp only
  rw [ha]
  show (Sum.inl (cs 0, z_sz p', Sum.inl (fun j => z_ri (z_cpy M.1 f p f' p' sp dp n, M.2) f' p' j)) : va_E) = _
  refine congrArg (fun g => (Sum.inl (cs 0, z_sz p', Sum.inl g) : va_E)) (funext fun j => ?_)
  rw [z_ri_lt h2]
  show z_cpy M.1 f p f' p' sp dp n f' p' j = _
  unfold z_cpy
  rw [if_pos ⟨rfl, rfl⟩]
  unfold va_cpy
  simp only [z_ri_lt h1, z_ri_lt h2]
theorem z_cpy_ne {ad : z_ad} {cs : Nat → ClassId} {M : Mem} {f p f' p' sp dp n f9 p9 : Nat} (h : (f9, p9) ≠ (f', p')) : z_en ad cs M f9 p9 = z_en ad cs (z_cpy M.1 f p f' p' sp dp n, M.2) f9 p9 := by
  have e : z_cpy M.1 f p f' p' sp dp n f9 p9 = M.1 f9 p9 := by
    unfold z_cpy
    rw [if_neg (fun q => h (by rw [q.1, q.2]))]
  have e2 : ∀ k, z_ri (z_cpy M.1 f p f' p' sp dp n, M.2) f9 p9 k = z_ri M f9 p9 k := by
    intro k
    unfold z_ri
    dsimp only
    rw [e]
  refine z_en_ne e2 (fun k => ?_) rfl
  unfold z_rd
  rw [e2]
theorem z_arrV_congr {c : ClassId} {n : Nat} {f g : Nat → Value} (h : ∀ j, j < n → f j = g j) : arrV c n f = arrV c n g := by
  unfold arrV
  congr 1
  congr 1
  funext j
  exact h j.val j.isLt
/-- a cell of longs holds its first n alone -/
theorem z_P_len {D : va_G} {cl : List vw_C} {ws : va_W} {H : Heap} {q a n : Nat} {cA : ClassId} {f g : Nat → Int64} (h : va_P D cl (ws.set q (a, .inl (cA, n, .inr (.inl f)))) H) (hfg : ∀ k, k < n → f k = g k) : va_P D cl (ws.set q (a, .inl (cA, n, .inr (.inl g)))) H := by
  intro k r hr
  by_cases hk : q = k
  · subst hk
    rw [List.getElem?_set, if_pos rfl] at hr
    split at hr
    · rename_i hlt
      cases hr
      have h1 := h q (a, .inl (cA, n, .inr (.inl f))) (by rw [List.getElem?_set, if_pos rfl, if_pos hlt])
      show H[a]? = _
      have h2 : H[a]? = some (vp_cell cA (n, .inr (.inl f))) := h1
      rw [h2]
      exact congrArg some (z_arrV_congr (c := cA) (n := n) (f := fun j => .long (f j)) (g := fun j => .long (g j)) (fun j hj => by rw [hfg j hj]))
    · cases hr
  · refine h k r ?_
    rw [List.getElem?_set, if_neg hk] at hr ⊢
    exact hr

def z_rmB (m : Nat) (i : Instr) : Bool := match i with
  | .istore k => Nat.blt k (z_ml m)
  | .istore_n k => Nat.blt k.val (z_ml m)
  | .astore k => Nat.blt k (z_ml m)
  | .astore_n k => Nat.blt k.val (z_ml m)
  | .lstore k => Nat.blt (k + 1) (z_ml m)
  | .lstore_n k => Nat.blt (k.val + 1) (z_ml m)
  | .dstore k => Nat.blt (k + 1) (z_ml m)
  | .dstore_n k => Nat.blt (k.val + 1) (z_ml m)
  | .iinc k _ => Nat.blt k (z_ml m)
  | _ => true
def z_rmI (m pc : Nat) : Bool := match z_ins m pc with
  | none => true
  | some (i, _, _) => z_rmB m i
theorem z_rm_all : (List.range 58).all (fun m => (List.range (z_len m)).all (z_rmI m)) = true := by decide +kernel
theorem z_rm {m pc t : Nat} {i : Instr} {k : Int32} (h : z_ins m pc = some (i, t, k)) : z_rmB m i = true := by
  obtain ⟨h1, h2⟩ := z_ins_lt h
  have h3 := List.all_eq_true.mp (List.all_eq_true.mp z_rm_all m (List.mem_range.mpr h1)) pc (List.mem_range.mpr h2)
  unfold z_rmI at h3
  rw [h] at h3
  exact h3
theorem z_roomistore {m pc t : Nat} {k : Nat} {c : Int32} (h : z_ins m pc = some (.istore k, t, c)) : k < z_ml m := Nat.ble_eq.mp (z_rm h)
theorem z_roomistore_n {m pc t : Nat} {k : Fin 4} {c : Int32} (h : z_ins m pc = some (.istore_n k, t, c)) : k.val < z_ml m := Nat.ble_eq.mp (z_rm h)
theorem z_roomastore {m pc t : Nat} {k : Nat} {c : Int32} (h : z_ins m pc = some (.astore k, t, c)) : k < z_ml m := Nat.ble_eq.mp (z_rm h)
theorem z_roomastore_n {m pc t : Nat} {k : Fin 4} {c : Int32} (h : z_ins m pc = some (.astore_n k, t, c)) : k.val < z_ml m := Nat.ble_eq.mp (z_rm h)
theorem z_roomlstore {m pc t : Nat} {k : Nat} {c : Int32} (h : z_ins m pc = some (.lstore k, t, c)) : k + 1 < z_ml m := Nat.ble_eq.mp (z_rm h)
theorem z_roomlstore_n {m pc t : Nat} {k : Fin 4} {c : Int32} (h : z_ins m pc = some (.lstore_n k, t, c)) : k.val + 1 < z_ml m := Nat.ble_eq.mp (z_rm h)
theorem z_roomdstore {m pc t : Nat} {k : Nat} {c : Int32} (h : z_ins m pc = some (.dstore k, t, c)) : k + 1 < z_ml m := Nat.ble_eq.mp (z_rm h)
theorem z_roomdstore_n {m pc t : Nat} {k : Fin 4} {c : Int32} (h : z_ins m pc = some (.dstore_n k, t, c)) : k.val + 1 < z_ml m := Nat.ble_eq.mp (z_rm h)
theorem z_roomiinc {m pc t k : Nat} {n : Int} {c : Int32} (h : z_ins m pc = some (.iinc k n, t, c)) : k < z_ml m := Nat.ble_eq.mp (z_rm h)

section ZR
variable {p : Program} {l : Launch} {e : Env} {R : Room} {s : State} {m : MethodId} {args : Array Value} {below : List Frame} {meth : Method} {c : Code} {H : Heap} {locs : List Loc} {cells slots : Nat} {Q : State → Prop}
variable {cc : ByteArray} {pc : Nat} {ls : Array Slot} {rest : List Value} {D : va_G} {cl : List vw_C} {a : Nat} {cs : Nat → ClassId} {ws : va_W}
theorem z_aldr (hexec : p.tables.exec = Jvm.exec) (hb : c.code = cc) (hK : va_K D cl (z_tys cs) s) (hP : va_P D cl ws H) {q0 n : Nat} {f : Nat → Option Nat} (ha : ws[q0]? = some (a, .inl (cs 3, n, .inr (.inr (.inr (.inr f)))))) {i : Int32} (hin : vp_in i n) (hdg : decode cc pc = .ok (.aaload, 1))
    (kk : W p l e R s m args below meth c H locs cells slots Q (F0 m (pc + 1) ls (va_rf (f i.toNatClampNeg) :: rest))) : W p l e R s m args below meth c H locs cells slots Q (F0 m pc ls (.int i :: .ref a :: rest)) := by
  have hlt : i.toNatClampNeg < n := Nat.not_le.mp fun q => hin (Or.inr q)
  have ht : (z_tys cs)[2]? = some (cs 3, .array .int) := rfl
  exact W.aald (v := va_rf (f i.toNatClampNeg)) (ty := .array .int) hexec hb (hP q0 _ ha) ((hK.2 2 _ ht).1 n (fun j => va_rf (f j))) rfl (fun q => by cases q) (by show ¬ (i < 0 ∨ (arrV _ _ _).slots.size ≤ _); rw [arrV_size]; exact hin) (by show (arrV _ _ _).slots[_]? = _; rw [arrV_read _ _ hlt]) rfl rfl hdg kk
end ZR
section ZS
variable {p : Program} {l : Launch} {e : Env} {R : Room} {s : State} {mi : MethodId} {args : Array Value} {below : List Frame} {meth : Method} {c : Code} {cells slots : Nat} {Q : State → Prop}
variable {D : va_G} {ad : z_ad} {cs : Nat → ClassId} {A : Nat → Prop} {b L : Nat} {xs : Nat → Int32} {sa : Nat → Nat} {H0 : Heap}
/-- what stands while a method m walks -/
def z_On (p : Program) (R : Room) (s : State) (mi : MethodId) (args : Array Value) (c : Code) (cells slots : Nat) (D : va_G) (ad : z_ad) (cs : Nat → ClassId) (A : Nat → Prop) (b L : Nat) (xs : Nat → Int32) (sa : Nat → Nat) (m : Nat) : Prop :=
  p.tables.exec = Jvm.exec ∧ c.code = z_b m ∧ c.maxLocals = z_ml m ∧ s.vm.findClass (z_on (z_own m)) = some mi.cls ∧ (∀ w ∈ z_good, w.before args s = true) ∧ z_cx D cs A b L xs sa s ∧ z_AD A ad ∧ ad 0 41 = b ∧
  z_FR m ≤ R.frames ∧ z_LR m ≤ R.locals ∧ cells ≤ R.cells ∧ slots ≤ R.slots
/-- the world at a point of the walk -/
def z_Pt (D : va_G) (ad : z_ad) (cs : Nat → ClassId) (A : Nat → Prop) (H0 : Heap) (m : Nat) (LS : Array Slot) (ls : Lc) (st : List AV) (M : Mem) (H : Heap) (locs : List Loc) : Prop :=
  lv_has LS (z_ml m) (z_asc ad 0 ls) ∧ z_okL ls = true ∧ z_okS st = true ∧ va_P D vwCl (z_W ad cs M) H ∧ va_S A H0 H locs
theorem z_st1_snd {m : Nat} {i : Instr} {t : Nat} {k0 : Int32} {pc : Nat} {ls : Lc} {st : List AV} {M : Mem} {c' : Cf} {O : List Prop} 
    (C : z_On p R s mi args c cells slots D ad cs A b L xs sa m) (hH0 : H0 = s.heap) (hi : z_ins m pc = some (i, t, k0))
    (h : z_st1 xs L (z_own m) i t k0 pc ls st M = some (c', O)) (hA : z_all O)
    (kk : ∀ (H' : Heap) (locs' : List Loc) (LS' : Array Slot), z_Pt D ad cs A H0 m LS' c'.2.1 c'.2.2.1 c'.2.2.2 H' locs' → W p l e R s mi args below meth c H' locs' cells slots Q (F0 mi c'.1 LS' (c'.2.2.1.map (cv ad))))
    {H : Heap} {locs : List Loc} {LS : Array Slot} (hp : z_Pt D ad cs A H0 m LS ls st M H locs) :
    W p l e R s mi args below meth c H locs cells slots Q (F0 mi pc LS (st.map (cv ad))) := by
  obtain ⟨hx, hb, hml, hown, hts, hcx, hAD, hab, hfr, hlo, hce, hsl⟩ := C
  obtain ⟨hl, hol, hos, hP, hS⟩ := hp
  obtain ⟨⟨n9, hd, hn9⟩, hcc, hlk⟩ := z_ins_ck hi
  have hK := hcx.1
  have hD := z_W_D (cs := cs) (M := M) hAD
  cases i with
  | aload k =>
    have hd := (show decode (z_b m) pc = .ok (_, _) from hd)
    rcases hn9 with h9 | h9
    · cases h9
    subst h9
    dsimp only [z_st1] at h
    split at h
    · rename_i r hg
      cases h
      exact lv_aload hx hb hd (z_at hl hg) (kk H locs LS ⟨hl, hol, z_okS_mk (z_okL_get hol hg) hos, hP, hS⟩)
    · cases h
  | aload_n k =>
    have hd := (show decode (z_b m) pc = .ok (_, _) from hd)
    rcases hn9 with h9 | h9
    · cases h9
    subst h9
    dsimp only [z_st1] at h
    split at h
    · rename_i r hg
      cases h
      exact lv_aload_n hx hb hd rfl (z_at hl hg) (kk H locs LS ⟨hl, hol, z_okS_mk (z_okL_get hol hg) hos, hP, hS⟩)
    · cases h
  | iload k =>
    have hd := (show decode (z_b m) pc = .ok (_, _) from hd)
    rcases hn9 with h9 | h9
    · cases h9
    subst h9
    dsimp only [z_st1] at h
    split at h
    · rename_i r hg
      cases h
      exact lv_iload hx hb hd (z_at hl hg) (kk H locs LS ⟨hl, hol, hos, hP, hS⟩)
    · cases h
  | iload_n k =>
    have hd := (show decode (z_b m) pc = .ok (_, _) from hd)
    rcases hn9 with h9 | h9
    · cases h9
    subst h9
    dsimp only [z_st1] at h
    split at h
    · rename_i r hg
      cases h
      exact lv_iload_n hx hb hd rfl (z_at hl hg) (kk H locs LS ⟨hl, hol, hos, hP, hS⟩)
    · cases h
  | lload k =>
    have hd := (show decode (z_b m) pc = .ok (_, _) from hd)
    rcases hn9 with h9 | h9
    · cases h9
    subst h9
    dsimp only [z_st1] at h
    split at h
    · rename_i r hg
      cases h
      exact lv_lload hx hb hd (z_at hl hg) (kk H locs LS ⟨hl, hol, hos, hP, hS⟩)
    · cases h
  | lload_n k =>
    have hd := (show decode (z_b m) pc = .ok (_, _) from hd)
    rcases hn9 with h9 | h9
    · cases h9
    subst h9
    dsimp only [z_st1] at h
    split at h
    · rename_i r hg
      cases h
      exact lv_lload_n hx hb hd rfl (z_at hl hg) (kk H locs LS ⟨hl, hol, hos, hP, hS⟩)
    · cases h
  | dload k =>
    have hd := (show decode (z_b m) pc = .ok (_, _) from hd)
    rcases hn9 with h9 | h9
    · cases h9
    subst h9
    dsimp only [z_st1] at h
    split at h
    · rename_i r hg
      cases h
      exact lv_dload hx hb hd (z_at hl hg) (kk H locs LS ⟨hl, hol, hos, hP, hS⟩)
    · cases h
  | dload_n k =>
    have hd := (show decode (z_b m) pc = .ok (_, _) from hd)
    rcases hn9 with h9 | h9
    · cases h9
    subst h9
    dsimp only [z_st1] at h
    split at h
    · rename_i r hg
      cases h
      exact lv_dload_n hx hb hd rfl (z_at hl hg) (kk H locs LS ⟨hl, hol, hos, hP, hS⟩)
    · cases h
  | istore k =>
    have hd := (show decode (z_b m) pc = .ok (_, _) from hd)
    rcases hn9 with h9 | h9
    · cases h9
    subst h9
    dsimp only [z_st1] at h
    split at h
    · rename_i x r
      cases h
      exact lv_istore hx hb hd hl (z_roomistore hi) rfl (fun LS' hl' => kk H locs LS' ⟨z_store1 (v := .inl x) hl', z_okL_1 hol (rfl), z_okS_tl hos, hP, hS⟩)
    · cases h
  | istore_n k =>
    have hd := (show decode (z_b m) pc = .ok (_, _) from hd)
    rcases hn9 with h9 | h9
    · cases h9
    subst h9
    dsimp only [z_st1] at h
    split at h
    · rename_i x r
      cases h
      exact lv_istore_n hx hb hd rfl hl (z_roomistore_n hi) rfl (fun LS' hl' => kk H locs LS' ⟨z_store1 (v := .inl x) hl', z_okL_1 hol (rfl), z_okS_tl hos, hP, hS⟩)
    · cases h
  | astore k =>
    have hd := (show decode (z_b m) pc = .ok (_, _) from hd)
    rcases hn9 with h9 | h9
    · cases h9
    subst h9
    dsimp only [z_st1] at h
    split at h
    · rename_i x r
      cases h
      exact lv_astore hx hb hd hl (z_roomastore hi) rfl (fun LS' hl' => kk H locs LS' ⟨z_store1 (v := .inr (.inr (.inr x))) hl', z_okL_1 hol (z_okS_hd hos), z_okS_tl hos, hP, hS⟩)
    · cases h
  | astore_n k =>
    have hd := (show decode (z_b m) pc = .ok (_, _) from hd)
    rcases hn9 with h9 | h9
    · cases h9
    subst h9
    dsimp only [z_st1] at h
    split at h
    · rename_i x r
      cases h
      exact lv_astore_n hx hb hd rfl hl (z_roomastore_n hi) rfl (fun LS' hl' => kk H locs LS' ⟨z_store1 (v := .inr (.inr (.inr x))) hl', z_okL_1 hol (z_okS_hd hos), z_okS_tl hos, hP, hS⟩)
    · cases h
  | lstore k =>
    have hd := (show decode (z_b m) pc = .ok (_, _) from hd)
    rcases hn9 with h9 | h9
    · cases h9
    subst h9
    dsimp only [z_st1] at h
    split at h
    · rename_i x r
      cases h
      exact lv_lstore hx hb hd hl (z_roomlstore hi) rfl (fun LS' hl' => kk H locs LS' ⟨z_store2 (v := .inr (.inl x)) hl', z_okL_2 hol (rfl), z_okS_tl hos, hP, hS⟩)
    · cases h
  | lstore_n k =>
    have hd := (show decode (z_b m) pc = .ok (_, _) from hd)
    rcases hn9 with h9 | h9
    · cases h9
    subst h9
    dsimp only [z_st1] at h
    split at h
    · rename_i x r
      cases h
      exact lv_lstore_n hx hb hd rfl hl (z_roomlstore_n hi) rfl (fun LS' hl' => kk H locs LS' ⟨z_store2 (v := .inr (.inl x)) hl', z_okL_2 hol (rfl), z_okS_tl hos, hP, hS⟩)
    · cases h
  | dstore k =>
    have hd := (show decode (z_b m) pc = .ok (_, _) from hd)
    rcases hn9 with h9 | h9
    · cases h9
    subst h9
    dsimp only [z_st1] at h
    split at h
    · rename_i x r
      cases h
      exact lv_dstore hx hb hd hl (z_roomdstore hi) rfl (fun LS' hl' => kk H locs LS' ⟨z_store2 (v := .inr (.inr (.inl x))) hl', z_okL_2 hol (rfl), z_okS_tl hos, hP, hS⟩)
    · cases h
  | dstore_n k =>
    have hd := (show decode (z_b m) pc = .ok (_, _) from hd)
    rcases hn9 with h9 | h9
    · cases h9
    subst h9
    dsimp only [z_st1] at h
    split at h
    · rename_i x r
      cases h
      exact lv_dstore_n hx hb hd rfl hl (z_roomdstore_n hi) rfl (fun LS' hl' => kk H locs LS' ⟨z_store2 (v := .inr (.inr (.inl x))) hl', z_okL_2 hol (rfl), z_okS_tl hos, hP, hS⟩)
    · cases h
  | iconst k =>
    have hd := (show decode (z_b m) pc = .ok (_, _) from hd)
    rcases hn9 with h9 | h9
    · cases h9
    subst h9
    dsimp only [z_st1] at h
    cases h
    exact lv_iconst hx hb hd (of_decide_eq_true hcc) (kk H locs LS ⟨hl, hol, hos, hP, hS⟩)
  | bipush k =>
    have hd := (show decode (z_b m) pc = .ok (_, _) from hd)
    rcases hn9 with h9 | h9
    · cases h9
    subst h9
    dsimp only [z_st1] at h
    cases h
    exact lv_bipush hx hb hd (of_decide_eq_true hcc) (kk H locs LS ⟨hl, hol, hos, hP, hS⟩)
  | sipush k =>
    have hd := (show decode (z_b m) pc = .ok (_, _) from hd)
    rcases hn9 with h9 | h9
    · cases h9
    subst h9
    dsimp only [z_st1] at h
    cases h
    exact lv_sipush hx hb hd (of_decide_eq_true hcc) (kk H locs LS ⟨hl, hol, hos, hP, hS⟩)
  | ldc_w k =>
    have hd := (show decode (z_b m) pc = .ok (_, _) from hd)
    rcases hn9 with h9 | h9
    · cases h9
    subst h9
    dsimp only [z_st1] at h
    split at h
    · rename_i v w hg
      cases h
      have hk := hlk
      unfold z_lnk at hk
      dsimp only at hk
      rw [hg] at hk
      exact lv_ldcw hx hb hown (hts _ (z_good_in (z_isW_in hk) rfl)) hd (kk H locs LS ⟨hl, hol, hos, hP, hS⟩)
    · cases h
  | ldc k =>
    have hd := (show decode (z_b m) pc = .ok (_, _) from hd)
    rcases hn9 with h9 | h9
    · cases h9
    subst h9
    dsimp only [z_st1] at h
    split at h
    · rename_i v w hg
      cases h
      have hk := hlk
      unfold z_lnk at hk
      dsimp only at hk
      rw [hg] at hk
      exact lv_ldc hx hb hown (hts _ (z_good_in (z_isW_in hk) rfl)) hd (kk H locs LS ⟨hl, hol, hos, hP, hS⟩)
    · cases h
  | ldc2_w k =>
    have hd := (show decode (z_b m) pc = .ok (_, _) from hd)
    rcases hn9 with h9 | h9
    · cases h9
    subst h9
    dsimp only [z_st1] at h
    have hk := hlk
    unfold z_lnk at hk
    dsimp only at hk
    obtain ⟨hk1, hk2⟩ := Bool.and_eq_true_iff.mp hk
    split at h
    · rename_i v w hg
      cases h
      rw [hg] at hk1
      exact lv_ldc2 hx hb hown (hts _ (z_good_in (z_isW_in hk1) rfl)) hd (kk H locs LS ⟨hl, hol, hos, hP, hS⟩)
    · split at h
      · rename_i v w hg
        cases h
        rw [hg] at hk2
        exact lv_ldc2d hx hb hown (hts _ (z_good_in (z_isW_in hk2) rfl)) hd (kk H locs LS ⟨hl, hol, hos, hP, hS⟩)
      · cases h
  | lconst k =>
    have hd := (show decode (z_b m) pc = .ok (_, _) from hd)
    rcases hn9 with h9 | h9
    · cases h9
    subst h9
    dsimp only [z_st1] at h
    cases h
    exact lv_lconst hx hb hd rfl (kk H locs LS ⟨hl, hol, hos, hP, hS⟩)
  | dconst k =>
    have hd := (show decode (z_b m) pc = .ok (_, _) from hd)
    rcases hn9 with h9 | h9
    · cases h9
    subst h9
    dsimp only [z_st1] at h
    match k, hd, h with
    | ⟨0, _⟩, hd, h =>
      cases h
      exact lv_dconst0 hx hb hd (kk H locs LS ⟨hl, hol, hos, hP, hS⟩)
    | ⟨1, _⟩, hd, h =>
      cases h
      exact lv_dconst1 hx hb hd (kk H locs LS ⟨hl, hol, hos, hP, hS⟩)
  | iinc k n =>
    have hd := (show decode (z_b m) pc = .ok (_, _) from hd)
    rcases hn9 with h9 | h9
    · cases h9
    subst h9
    dsimp only [z_st1] at h
    split at h
    · rename_i x hg
      cases h
      obtain ⟨j, hj⟩ := List.getElem?_of_mem ((z_asc_in (ad := ad) ls 0 (k, .int x)).mpr ⟨k, .inl x, hg, by rw [Nat.zero_add]; rfl⟩)
      exact lv_iinc hx hb hd hl hj (by rw [of_decide_eq_true hcc]) (z_roomiinc hi) rfl (fun LS' hl' => kk H locs LS' ⟨z_store1 (v := .inl (x + k0)) hl', z_okL_1 hol rfl, hos, hP, hS⟩)
    · cases h
  | goto off =>
    have hd := (show decode (z_b m) pc = .ok (_, _) from hd)
    rcases hn9 with h9 | h9
    · cases h9
    subst h9
    dsimp only [z_st1] at h
    cases h
    exact lv_goto hx hb hd (of_decide_eq_true hcc) (kk H locs LS ⟨hl, hol, hos, hP, hS⟩)
  | ifCond cd off =>
    have hd := (show decode (z_b m) pc = .ok (_, _) from hd)
    rcases hn9 with h9 | h9
    · cases h9
    subst h9
    dsimp only [z_st1] at h
    split at h
    · rename_i x r
      cases h
      have hos' := z_okS_tl hos
      cases cd with
      | eq => exact lv_if_eq hx hb hd (of_decide_eq_true hcc) (fun q => by have kk := kk H locs LS ⟨hl, hol, hos', hP, hS⟩; rw [show z_j1 .eq x t (pc + 3) = t from if_pos q] at kk; exact kk) (fun q => by have kk := kk H locs LS ⟨hl, hol, hos', hP, hS⟩; rw [show z_j1 .eq x t (pc + 3) = pc + 3 from if_neg q] at kk; exact kk)
      | ne => exact lv_if_ne hx hb hd (of_decide_eq_true hcc) (fun q => by have kk := kk H locs LS ⟨hl, hol, hos', hP, hS⟩; rw [show z_j1 .ne x t (pc + 3) = t from if_neg q] at kk; exact kk) (fun q => by have kk := kk H locs LS ⟨hl, hol, hos', hP, hS⟩; rw [show z_j1 .ne x t (pc + 3) = pc + 3 from if_pos q] at kk; exact kk)
      | lt => exact lv_if_lt hx hb hd (of_decide_eq_true hcc) (fun q => by have kk := kk H locs LS ⟨hl, hol, hos', hP, hS⟩; rw [show z_j1 .lt x t (pc + 3) = t from if_pos q] at kk; exact kk) (fun q => by have kk := kk H locs LS ⟨hl, hol, hos', hP, hS⟩; rw [show z_j1 .lt x t (pc + 3) = pc + 3 from if_neg q] at kk; exact kk)
      | ge => exact lv_if_ge hx hb hd (of_decide_eq_true hcc) (fun q => by have kk := kk H locs LS ⟨hl, hol, hos', hP, hS⟩; rw [show z_j1 .ge x t (pc + 3) = t from if_pos q] at kk; exact kk) (fun q => by have kk := kk H locs LS ⟨hl, hol, hos', hP, hS⟩; rw [show z_j1 .ge x t (pc + 3) = pc + 3 from if_neg q] at kk; exact kk)
      | gt => exact lv_if_gt hx hb hd (of_decide_eq_true hcc) (fun q => by have kk := kk H locs LS ⟨hl, hol, hos', hP, hS⟩; rw [show z_j1 .gt x t (pc + 3) = t from if_pos q] at kk; exact kk) (fun q => by have kk := kk H locs LS ⟨hl, hol, hos', hP, hS⟩; rw [show z_j1 .gt x t (pc + 3) = pc + 3 from if_neg q] at kk; exact kk)
      | le => exact lv_if_le hx hb hd (of_decide_eq_true hcc) (fun q => by have kk := kk H locs LS ⟨hl, hol, hos', hP, hS⟩; rw [show z_j1 .le x t (pc + 3) = t from if_pos q] at kk; exact kk) (fun q => by have kk := kk H locs LS ⟨hl, hol, hos', hP, hS⟩; rw [show z_j1 .le x t (pc + 3) = pc + 3 from if_neg q] at kk; exact kk)
    · cases h
  | if_icmp cd off =>
    have hd := (show decode (z_b m) pc = .ok (_, _) from hd)
    rcases hn9 with h9 | h9
    · cases h9
    subst h9
    dsimp only [z_st1] at h
    split at h
    · rename_i y x r
      cases h
      have hos' := z_okS_tl (z_okS_tl hos)
      cases cd with
      | eq => exact lv_icmp_eq hx hb hd (of_decide_eq_true hcc) (fun q => by have kk := kk H locs LS ⟨hl, hol, hos', hP, hS⟩; rw [show z_j2 .eq x y t (pc + 3) = t from if_pos q] at kk; exact kk) (fun q => by have kk := kk H locs LS ⟨hl, hol, hos', hP, hS⟩; rw [show z_j2 .eq x y t (pc + 3) = pc + 3 from if_neg q] at kk; exact kk)
      | ne => exact lv_icmp_ne hx hb hd (of_decide_eq_true hcc) (fun q => by have kk := kk H locs LS ⟨hl, hol, hos', hP, hS⟩; rw [show z_j2 .ne x y t (pc + 3) = t from if_neg q] at kk; exact kk) (fun q => by have kk := kk H locs LS ⟨hl, hol, hos', hP, hS⟩; rw [show z_j2 .ne x y t (pc + 3) = pc + 3 from if_pos q] at kk; exact kk)
      | lt => exact lv_icmp_lt hx hb hd (of_decide_eq_true hcc) (fun q => by have kk := kk H locs LS ⟨hl, hol, hos', hP, hS⟩; rw [show z_j2 .lt x y t (pc + 3) = t from if_pos q] at kk; exact kk) (fun q => by have kk := kk H locs LS ⟨hl, hol, hos', hP, hS⟩; rw [show z_j2 .lt x y t (pc + 3) = pc + 3 from if_neg q] at kk; exact kk)
      | ge => exact lv_icmp_ge hx hb hd (of_decide_eq_true hcc) (fun q => by have kk := kk H locs LS ⟨hl, hol, hos', hP, hS⟩; rw [show z_j2 .ge x y t (pc + 3) = t from if_pos q] at kk; exact kk) (fun q => by have kk := kk H locs LS ⟨hl, hol, hos', hP, hS⟩; rw [show z_j2 .ge x y t (pc + 3) = pc + 3 from if_neg q] at kk; exact kk)
      | gt => exact lv_icmp_gt hx hb hd (of_decide_eq_true hcc) (fun q => by have kk := kk H locs LS ⟨hl, hol, hos', hP, hS⟩; rw [show z_j2 .gt x y t (pc + 3) = t from if_pos q] at kk; exact kk) (fun q => by have kk := kk H locs LS ⟨hl, hol, hos', hP, hS⟩; rw [show z_j2 .gt x y t (pc + 3) = pc + 3 from if_neg q] at kk; exact kk)
      | le => exact lv_icmp_le hx hb hd (of_decide_eq_true hcc) (fun q => by have kk := kk H locs LS ⟨hl, hol, hos', hP, hS⟩; rw [show z_j2 .le x y t (pc + 3) = t from if_pos q] at kk; exact kk) (fun q => by have kk := kk H locs LS ⟨hl, hol, hos', hP, hS⟩; rw [show z_j2 .le x y t (pc + 3) = pc + 3 from if_neg q] at kk; exact kk)
    · cases h
  | tableswitch d lo1 hi1 offs =>
    dsimp only [z_st1] at h
    split at h
    · rename_i x r
      split at h
      · rename_i q hq
        cases h
        unfold z_tab at hq
        cases hc : (decide (x.toInt < lo1) || decide (hi1 < x.toInt))
        · rw [hc] at hq
          dsimp only [cond] at hq
          obtain ⟨g1, g2⟩ := Bool.or_eq_false_iff.mp hc
          split at hq
          · rename_i o ho
            have ht := z_ti_eq hq
            exact lv_tableIn hx hb hd (of_decide_eq_false g1) (of_decide_eq_false g2) ho ht (kk H locs LS ⟨hl, hol, z_okS_tl hos, hP, hS⟩)
          · cases hq
        · rw [hc] at hq
          dsimp only [cond] at hq
          have ht := z_ti_eq hq
          exact lv_tableOut hx hb hd (by rcases Bool.or_eq_true_iff.mp hc with g | g
                                         · exact Or.inl (of_decide_eq_true g)
                                         · exact Or.inr (of_decide_eq_true g)) ht (kk H locs LS ⟨hl, hol, z_okS_tl hos, hP, hS⟩)
      · cases h
    · cases h
  | lookupswitch d ps =>
    dsimp only [z_st1] at h
    split at h
    · rename_i x r
      split at h
      · rename_i q hq
        cases h
        unfold z_lkp at hq
        cases hc : ((ps.toList.zip (ps.toList.drop 1)).all (fun (a, next) => a.1 < next.1))
        · rw [hc] at hq
          cases hq
        · rw [hc] at hq
          exact lv_lookup hx hb hd hc rfl (z_ti_eq hq) (kk H locs LS ⟨hl, hol, z_okS_tl hos, hP, hS⟩)
      · cases h
    · cases h
  | iadd =>
    have hd := (show decode (z_b m) pc = .ok (_, _) from hd)
    rcases hn9 with h9 | h9
    · cases h9
    subst h9
    dsimp only [z_st1] at h
    split at h
    · cases h
      exact lv_iadd hx hb hd (kk H locs LS ⟨hl, hol, hos, hP, hS⟩)
    · cases h
  | isub =>
    have hd := (show decode (z_b m) pc = .ok (_, _) from hd)
    rcases hn9 with h9 | h9
    · cases h9
    subst h9
    dsimp only [z_st1] at h
    split at h
    · cases h
      exact lv_isub hx hb hd (kk H locs LS ⟨hl, hol, hos, hP, hS⟩)
    · cases h
  | imul =>
    have hd := (show decode (z_b m) pc = .ok (_, _) from hd)
    rcases hn9 with h9 | h9
    · cases h9
    subst h9
    dsimp only [z_st1] at h
    split at h
    · cases h
      exact lv_imul hx hb hd (kk H locs LS ⟨hl, hol, hos, hP, hS⟩)
    · cases h
  | iand =>
    have hd := (show decode (z_b m) pc = .ok (_, _) from hd)
    rcases hn9 with h9 | h9
    · cases h9
    subst h9
    dsimp only [z_st1] at h
    split at h
    · cases h
      exact lv_iand hx hb hd (kk H locs LS ⟨hl, hol, hos, hP, hS⟩)
    · cases h
  | ior =>
    have hd := (show decode (z_b m) pc = .ok (_, _) from hd)
    rcases hn9 with h9 | h9
    · cases h9
    subst h9
    dsimp only [z_st1] at h
    split at h
    · cases h
      exact lv_ior hx hb hd (kk H locs LS ⟨hl, hol, hos, hP, hS⟩)
    · cases h
  | ixor =>
    have hd := (show decode (z_b m) pc = .ok (_, _) from hd)
    rcases hn9 with h9 | h9
    · cases h9
    subst h9
    dsimp only [z_st1] at h
    split at h
    · cases h
      exact lv_ixor hx hb hd (kk H locs LS ⟨hl, hol, hos, hP, hS⟩)
    · cases h
  | ishl =>
    have hd := (show decode (z_b m) pc = .ok (_, _) from hd)
    rcases hn9 with h9 | h9
    · cases h9
    subst h9
    dsimp only [z_st1] at h
    split at h
    · cases h
      exact lv_ishl hx hb hd (kk H locs LS ⟨hl, hol, hos, hP, hS⟩)
    · cases h
  | ishr =>
    have hd := (show decode (z_b m) pc = .ok (_, _) from hd)
    rcases hn9 with h9 | h9
    · cases h9
    subst h9
    dsimp only [z_st1] at h
    split at h
    · cases h
      exact lv_ishr hx hb hd (kk H locs LS ⟨hl, hol, hos, hP, hS⟩)
    · cases h
  | idiv =>
    have hd := (show decode (z_b m) pc = .ok (_, _) from hd)
    rcases hn9 with h9 | h9
    · cases h9
    subst h9
    dsimp only [z_st1] at h
    split at h
    · cases h
      exact lv_idiv hx hb hd hA.1 (kk H locs LS ⟨hl, hol, hos, hP, hS⟩)
    · cases h
  | irem =>
    have hd := (show decode (z_b m) pc = .ok (_, _) from hd)
    rcases hn9 with h9 | h9
    · cases h9
    subst h9
    dsimp only [z_st1] at h
    split at h
    · cases h
      exact lv_irem hx hb hd hA.1 (kk H locs LS ⟨hl, hol, hos, hP, hS⟩)
    · cases h
  | ineg =>
    have hd := (show decode (z_b m) pc = .ok (_, _) from hd)
    rcases hn9 with h9 | h9
    · cases h9
    subst h9
    dsimp only [z_st1] at h
    split at h
    · cases h
      exact lv_ineg hx hb hd (kk H locs LS ⟨hl, hol, hos, hP, hS⟩)
    · cases h
  | iushr =>
    have hd := (show decode (z_b m) pc = .ok (_, _) from hd)
    rcases hn9 with h9 | h9
    · cases h9
    subst h9
    dsimp only [z_st1] at h
    split at h
    · cases h
      exact lv_iushr hx hb hd rfl (kk H locs LS ⟨hl, hol, hos, hP, hS⟩)
    · cases h
  | i2l =>
    have hd := (show decode (z_b m) pc = .ok (_, _) from hd)
    rcases hn9 with h9 | h9
    · cases h9
    subst h9
    dsimp only [z_st1] at h
    split at h
    · cases h
      exact lv_i2l hx hb hd rfl (kk H locs LS ⟨hl, hol, hos, hP, hS⟩)
    · cases h
  | lshl =>
    have hd := (show decode (z_b m) pc = .ok (_, _) from hd)
    rcases hn9 with h9 | h9
    · cases h9
    subst h9
    dsimp only [z_st1] at h
    split at h
    · cases h
      exact lv_lshl hx hb hd rfl (kk H locs LS ⟨hl, hol, hos, hP, hS⟩)
    · cases h
  | i2d =>
    have hd := (show decode (z_b m) pc = .ok (_, _) from hd)
    rcases hn9 with h9 | h9
    · cases h9
    subst h9
    dsimp only [z_st1] at h
    split at h
    · cases h
      exact lv_i2d hx hb hd (kk H locs LS ⟨hl, hol, hos, hP, hS⟩)
    · cases h
  | d2l =>
    have hd := (show decode (z_b m) pc = .ok (_, _) from hd)
    rcases hn9 with h9 | h9
    · cases h9
    subst h9
    dsimp only [z_st1] at h
    split at h
    · cases h
      exact lv_d2l hx hb hd (kk H locs LS ⟨hl, hol, hos, hP, hS⟩)
    · cases h
  | ladd =>
    have hd := (show decode (z_b m) pc = .ok (_, _) from hd)
    rcases hn9 with h9 | h9
    · cases h9
    subst h9
    dsimp only [z_st1] at h
    split at h
    · cases h
      exact lv_ladd hx hb hd (kk H locs LS ⟨hl, hol, hos, hP, hS⟩)
    · cases h
  | lsub =>
    have hd := (show decode (z_b m) pc = .ok (_, _) from hd)
    rcases hn9 with h9 | h9
    · cases h9
    subst h9
    dsimp only [z_st1] at h
    split at h
    · cases h
      exact lv_lsub hx hb hd (kk H locs LS ⟨hl, hol, hos, hP, hS⟩)
    · cases h
  | lmul =>
    have hd := (show decode (z_b m) pc = .ok (_, _) from hd)
    rcases hn9 with h9 | h9
    · cases h9
    subst h9
    dsimp only [z_st1] at h
    split at h
    · cases h
      exact lv_lmul hx hb hd (kk H locs LS ⟨hl, hol, hos, hP, hS⟩)
    · cases h
  | dcmp cd =>
    have hd := (show decode (z_b m) pc = .ok (_, _) from hd)
    rcases hn9 with h9 | h9
    · cases h9
    subst h9
    dsimp only [z_st1] at h
    split at h
    · cases h
      exact lv_dcmp hx hb hd (kk H locs LS ⟨hl, hol, hos, hP, hS⟩)
    · cases h
  | lcmp =>
    have hd := (show decode (z_b m) pc = .ok (_, _) from hd)
    rcases hn9 with h9 | h9
    · cases h9
    subst h9
    dsimp only [z_st1] at h
    split at h
    · cases h
      exact W.lcmp hx hb hd (kk H locs LS ⟨hl, hol, hos, hP, hS⟩)
    · cases h
  | dmul =>
    have hd := (show decode (z_b m) pc = .ok (_, _) from hd)
    rcases hn9 with h9 | h9
    · cases h9
    subst h9
    dsimp only [z_st1] at h
    split at h
    · cases h
      exact lv_dmul hx hb hd hA.1 (kk H locs LS ⟨hl, hol, hos, hP, hS⟩)
    · cases h
  | dsub =>
    have hd := (show decode (z_b m) pc = .ok (_, _) from hd)
    rcases hn9 with h9 | h9
    · cases h9
    subst h9
    dsimp only [z_st1] at h
    split at h
    · cases h
      exact lv_dsub hx hb hd hA.1 (kk H locs LS ⟨hl, hol, hos, hP, hS⟩)
    · cases h
  | ddiv =>
    have hd := (show decode (z_b m) pc = .ok (_, _) from hd)
    rcases hn9 with h9 | h9
    · cases h9
    subst h9
    dsimp only [z_st1] at h
    split at h
    · cases h
      exact lv_ddiv hx hb hd hA.1 (kk H locs LS ⟨hl, hol, hos, hP, hS⟩)
    · cases h
  | dup =>
    have hd := (show decode (z_b m) pc = .ok (_, _) from hd)
    rcases hn9 with h9 | h9
    · cases h9
    subst h9
    dsimp only [z_st1] at h
    split at h
    · rename_i a r
      cases hc : z_cat2 a
      · rw [hc] at h
        cases h
        exact lv_dup hx hb hd (by rw [cv_cat, hc]; rfl) (kk H locs LS ⟨hl, hol, z_okS_mk (z_okS_hd hos) hos, hP, hS⟩)
      · rw [hc] at h; cases h
    · cases h
  | dup2 =>
    have hd := (show decode (z_b m) pc = .ok (_, _) from hd)
    rcases hn9 with h9 | h9
    · cases h9
    subst h9
    dsimp only [z_st1] at h
    split at h
    · rename_i u v r
      cases hc : (z_cat2 u || z_cat2 v)
      · rw [hc] at h
        cases h
        obtain ⟨g1, g2⟩ := Bool.or_eq_false_iff.mp hc
        exact lv_dup2_11 hx hb hd (by rw [cv_cat, g1]; rfl) (by rw [cv_cat, g2]; rfl) (kk H locs LS ⟨hl, hol, z_okS_mk (z_okS_hd hos) (z_okS_mk (z_okS_hd (z_okS_tl hos)) hos), hP, hS⟩)
      · rw [hc] at h; cases h
    · cases h
  | arraylength =>
    have hd := (show decode (z_b m) pc = .ok (_, _) from hd)
    rcases hn9 with h9 | h9
    · cases h9
    subst h9
    dsimp only [z_st1] at h
    split at h
    · rename_i f q r
      split at h
      · rename_i hob
        cases h
        cases hq : Nat.beq q 41
        · rw [hq] at kk
          have hv := z_okv_val (z_okS_hd hos) hq
          obtain ⟨t0, cA, vA, ha, ht0, hsz⟩ := z_en_any (ad := ad) (cs := cs) (M := M) (f := f) hob
          obtain ⟨ty, ht0⟩ := ht0
          have hg := z_W_get (ad := ad) (cs := cs) (M := M) hv
          rw [ha] at hg
          have kk2 := kk H locs LS ⟨hl, hol, z_okS_tl hos, hP, hS⟩
          exact va_alen (v := Int32.ofNat (z_sz q)) hx hb hK hP _ t0 hg ht0 (by rw [hsz]) hd kk2
        · have e1 := Nat.eq_of_beq_eq_true hq
          subst e1
          have e2 := z_okv_41 (z_okS_hd hos)
          subst e2
          obtain ⟨-, -, -, -, -, -, -, -, -, hX, hbl, hbA⟩ := hcx
          rw [← hab] at hX hbl hbA
          rw [← hH0] at hX hbl
          exact va_slen hx hb hX hbl hbA hS hd (kk H locs LS ⟨hl, hol, z_okS_tl hos, hP, hS⟩)
      · cases h
    · cases h
  | iaload =>
    have hd := (show decode (z_b m) pc = .ok (_, _) from hd)
    rcases hn9 with h9 | h9
    · cases h9
    subst h9
    dsimp only [z_st1] at h
    split at h
    · rename_i j f q r
      split at h
      · cases h
      · rename_i hob
        split at h
        · rename_i hak
          cases hq : Nat.beq q 41
          · rw [hq] at h
            cases h
            have hv := z_okv_val (z_okS_hd (z_okS_tl hos)) hq
            have hg := z_W_get (ad := ad) (cs := cs) (M := M) hv
            rw [show z_en ad cs M f q = .inl (cs 0, z_sz q, .inl (fun k => z_ri M f q k)) by unfold z_en; rw [hob]; dsimp only; rw [hak]; rfl] at hg
            exact va_iald hx hb hK hP _ 0 hg rfl (z_inb_vp hA.1) hd (kk H locs LS ⟨hl, hol, z_okS_tl (z_okS_tl hos), hP, hS⟩)
          · rw [hq] at h
            cases h
            have e1 := Nat.eq_of_beq_eq_true hq
            subst e1
            have e2 := z_okv_41 (z_okS_hd (z_okS_tl hos))
            subst e2
            obtain ⟨-, -, -, -, -, -, -, -, -, hX, hbl, hbA⟩ := hcx
            rw [← hab] at hX hbl hbA
            rw [← hH0] at hX hbl
            exact va_sld hx hb hX hbl hbA hS (z_inb_vp hA.1) hd (kk H locs LS ⟨hl, hol, z_okS_tl (z_okS_tl hos), hP, hS⟩)
        · cases h
    · cases h
  | iastore =>
    have hd := (show decode (z_b m) pc = .ok (_, _) from hd)
    rcases hn9 with h9 | h9
    · cases h9
    subst h9
    dsimp only [z_st1] at h
    split at h
    · rename_i x j f q r
      split at h
      · cases h
      · rename_i hob
        split at h
        · rename_i hak
          cases hq : Nat.beq q 41
          · rw [hq] at h
            cases h
            have hos3 := z_okS_tl (z_okS_tl hos)
            have hv := z_okv_val (z_okS_hd hos3) hq
            have hg := z_W_get (ad := ad) (cs := cs) (M := M) hv
            rw [show z_en ad cs M f q = .inl (cs 0, z_sz q, .inl (fun k => z_ri M f q k)) by unfold z_en; rw [hob]; dsimp only; rw [hak]; rfl] at hg
            refine va_iast hx hb hK hP hD hS _ 0 hg rfl (z_inb_vp hA.1) hd (fun H1 locs1 hP1 _ hS1 => ?_)
            rw [z_W_set (M' := z_wi M f q j.toNatClampNeg x) hv (z_en_arr hv hob hak) (fun f' p' h1 h2 => z_wi_ne hv h1 h2)] at hP1
            exact kk H1 locs1 LS ⟨hl, hol, z_okS_tl hos3, hP1, hS1⟩
          · rw [hq] at h
            cases h
        · cases h
    · cases h
  | aaload =>
    have hd := (show decode (z_b m) pc = .ok (_, _) from hd)
    rcases hn9 with h9 | h9
    · cases h9
    subst h9
    dsimp only [z_st1] at h
    split at h
    · rename_i j f q r
      have hq : Nat.beq q 41 = false := by
        cases hq : Nat.beq q 41
        · rfl
        · have e1 := Nat.eq_of_beq_eq_true hq
          subst e1
          cases h
      have hv := z_okv_val (z_okS_hd (z_okS_tl hos)) hq
      have hg := z_W_get (ad := ad) (cs := cs) (M := M) hv
      split at h
      · rename_i hak
        cases h
        have e1 : q = 17 := z_ak_2 hak
        subst e1
        have hin := z_inb_vp hA.1
        refine va_aldq hx hb hK hP _ 1 hg rfl hin hd (kk H locs LS ⟨hl, hol, z_okS_mk ?_ (z_okS_tl (z_okS_tl hos)), hP, hS⟩)
        have h3 : ¬ 6 ≤ j.toNatClampNeg := fun q => hin (Or.inr q)
        exact Nat.ble_eq.mpr (by omega : 2 + j.toNatClampNeg + 1 ≤ 8)
      · rename_i hak
        cases h
        have e1 : q = 10 := z_ak_3 hak
        subst e1
        have hin := z_inb_vp hA.1
        have h3 : ¬ 7 ≤ j.toNatClampNeg := fun q => hin (Or.inr q)
        have hf8 : f + 1 ≤ 8 := Nat.ble_eq.mp hv
        refine z_aldr hx hb hK hP hg hin hd (kk H locs LS ⟨hl, hol, z_okS_mk ?_ (z_okS_tl (z_okS_tl hos)), hP, hS⟩)
        exact Nat.ble_eq.mpr (by omega : 7 * f + j.toNatClampNeg + 1 ≤ 56)
      · cases h
    · cases h
  | getfield k =>
    have hd := (show decode (z_b m) pc = .ok (_, _) from hd)
    rcases hn9 with h9 | h9
    · cases h9
    subst h9
    dsimp only [z_st1] at h
    split at h
    · rename_i f q r
      cases hf : z_fld (z_own m) k with
      | none => rw [hf] at h; cases h
      | some w =>
      obtain ⟨c1, s1, n1, v1⟩ := w
      cases hob : z_obj q with
      | none => rw [hf, hob] at h; cases h
      | some w2 =>
      obtain ⟨c2, n2⟩ := w2
      rw [hf, hob] at h
      dsimp only at h
      · skip
        cases hc : (Nat.beq c1 c2 && Nat.blt s1 n2)
        · rw [hc] at h; cases h
        · rw [hc] at h
          cases h
          obtain ⟨g1, g2⟩ := Bool.and_eq_true_iff.mp hc
          have e1 := Nat.eq_of_beq_eq_true g1
          subst e1
          have g3 : s1 < n2 := Nat.ble_eq.mp g2
          obtain ⟨hc6, hn2⟩ := z_obj_nf hob
          subst hn2
          have hv := z_okv_val (z_okS_hd hos) (z_obj_41 hob)
          have hg := z_W_get (ad := ad) (cs := cs) (M := M) hv
          rw [show z_en ad cs M f q = .inr (c1, (List.range (z_nf c1)).map fun k => cv ad (z_rd M f q k)) by unfold z_en; rw [hob]] at hg
          have hk := hlk
          unfold z_lnk at hk
          dsimp only at hk
          rw [hf] at hk
          dsimp only at hk
          have hw := z_isW_in (Bool.and_eq_true_iff.mp (Bool.and_eq_true_iff.mp hk).1).1
          have hval : ((List.range (z_nf c1)).map fun k => cv ad (z_rd M f q k))[s1]? = some (cv ad (z_rd M f q s1)) := by rw [List.getElem?_map, List.getElem?_range g3]; rfl
          have kk := kk H locs LS ⟨hl, hol, z_okS_mk (z_rd_ok hv hob g3) (z_okS_tl hos), hP, hS⟩
          cases n1 with
          | false => exact va_get (ref := (z_T c1 s1).1) hx hb hts (z_lays c1 hc6) hown hK hP _ hg (z_cl_ok c1 hc6) s1 g3 (hts _ (z_good_in hw rfl)) (fun _ h9 => h9) hval hd kk
          | true => exact va_getN (ref := (z_T c1 s1).1) (host := "IslandReserve") hx hb hts (z_lays c1 hc6) hown hK hP _ hg (z_cl_ok c1 hc6) s1 g3 (va_Nw.use rfl (hcx.2.2.2.1 _ (z_misc_in hw rfl))) (fun _ h9 => h9) hval hd kk
    · cases h
  | putfield k =>
    have hd := (show decode (z_b m) pc = .ok (_, _) from hd)
    rcases hn9 with h9 | h9
    · cases h9
    subst h9
    dsimp only [z_st1] at h
    split at h
    · rename_i x f q r
      cases hf : z_fld (z_own m) k with
      | none => rw [hf] at h; cases h
      | some w =>
      obtain ⟨c1, s1, n1, v1⟩ := w
      cases hob : z_obj q with
      | none => rw [hf, hob] at h; cases h
      | some w2 =>
      obtain ⟨c2, n2⟩ := w2
      rw [hf, hob] at h
      dsimp only at h
      · skip
        cases hc : (Nat.beq c1 c2 && Nat.blt s1 n2)
        · rw [hc] at h; cases h
        · rw [hc] at h
          dsimp only [cond] at h
          obtain ⟨g1, g2⟩ := Bool.and_eq_true_iff.mp hc
          have e1 := Nat.eq_of_beq_eq_true g1
          subst e1
          have g3 : s1 < n2 := Nat.ble_eq.mp g2
          obtain ⟨hc6, hn2⟩ := z_obj_nf hob
          subst hn2
          have hv := z_okv_val (z_okS_hd (z_okS_tl hos)) (z_obj_41 hob)
          have hg := z_W_get (ad := ad) (cs := cs) (M := M) hv
          rw [show z_en ad cs M f q = .inr (c1, (List.range (z_nf c1)).map fun k => cv ad (z_rd M f q k)) by unfold z_en; rw [hob]] at hg
          have hk := hlk
          unfold z_lnk at hk
          dsimp only at hk
          rw [hf] at hk
          dsimp only at hk
          have hw := z_isW_in (Bool.and_eq_true_iff.mp (Bool.and_eq_true_iff.mp hk).1).1
          split at h
          · rename_i y hy
            have hc' : c' = (pc + 3, ls, r, z_wi M f q s1 x) ∧ (z_fb q s1 = true → z_isB x = true) := by
              cases hfb : z_fb q s1
              · rw [hfb] at h; cases h; exact ⟨rfl, fun w => by cases w⟩
              · rw [hfb] at h; cases h; exact ⟨rfl, fun _ => hA.1⟩
            obtain ⟨e2, hbool⟩ := hc'
            subst e2
            obtain ⟨hfin, hty⟩ := z_put_ok hob g3 hy
            have hnar : narrow (z_tyT c1 s1) (.int x) = .int x ∧ fits (z_tyT c1 s1) (.int x) = true := by
              rw [hty]
              cases hfb : z_fb q s1
              · exact ⟨rfl, rfl⟩
              · exact ⟨z_isB_nar (hbool hfb), z_isB_fit (hbool hfb)⟩
            have hln : s1 < ((List.range (z_nf c1)).map fun k => cv ad (z_rd M f q k)).length := by rw [List.length_map, List.length_range]; exact g3
            have kk : ∀ (H1 : Heap) (locs1 : List Loc), va_P D vwCl ((z_W ad cs M).set (z_ix f q) (ad f q, .inr (c1, ((List.range (z_nf c1)).map fun k => cv ad (z_rd M f q k)).set s1 (.int x)))) H1 → va_D A ((z_W ad cs M).set (z_ix f q) (ad f q, .inr (c1, ((List.range (z_nf c1)).map fun k => cv ad (z_rd M f q k)).set s1 (.int x)))) → va_S A H0 H1 locs1 → W p l e R s mi args below meth c H1 locs1 cells slots Q (F0 mi (pc + 3) LS (r.map (cv ad))) := by
              intro H1 locs1 hP1 _ hS1
              rw [z_W_set (M' := z_wi M f q s1 x) hv (z_en_obj hv hob hy g3) (fun f' p' h1 h2 => z_wi_ne hv h1 h2)] at hP1
              exact kk H1 locs1 LS ⟨hl, hol, z_okS_tl (z_okS_tl hos), hP1, hS1⟩
            cases n1 with
            | false => exact va_put (ref := (z_T c1 s1).1) hx hb hts (z_lays c1 hc6) (z_tyT c1) (z_ty_ok c1 hc6) (z_nm_ok c1 hc6) hown hK hP hD hS _ hg (z_cl_ok c1 hc6) s1 g3 (hts _ (z_good_in hw rfl)) (fun _ h9 => h9) hfin (z_ty_ok c1 hc6 s1 g3) hnar.1 hnar.2 hln hd kk
            | true => exact va_putN (ref := (z_T c1 s1).1) (host := "IslandReserve") hx hb hts (z_lays c1 hc6) (z_tyT c1) (z_ty_ok c1 hc6) (z_nm_ok c1 hc6) hown hK hP hD hS _ hg (z_cl_ok c1 hc6) s1 g3 (va_Nw.use rfl (hcx.2.2.2.1 _ (z_misc_in hw rfl))) (fun _ h9 => h9) hfin (z_ty_ok c1 hc6 s1 g3) hnar.1 hnar.2 hln hd kk
          · cases h
    · cases h
  | invokestatic k =>
    have hd := (show decode (z_b m) pc = .ok (_, _) from hd)
    rcases hn9 with h9 | h9
    · cases h9
    subst h9
    dsimp only [z_st1] at h
    have hk := hlk
    unfold z_lnk at hk
    dsimp only at hk
    split at h
    · rename_i hsp
      rw [hsp] at hk
      dsimp only at hk
      have hw := z_isW_in (Bool.and_eq_true_iff.mp (Bool.and_eq_true_iff.mp (Bool.and_eq_true_iff.mp hk).1).1).1
      have hf1 := Nat.ble_eq.mp (Bool.and_eq_true_iff.mp (Bool.and_eq_true_iff.mp (Bool.and_eq_true_iff.mp hk).1).1).2
      have hf2 := Nat.ble_eq.mp (Bool.and_eq_true_iff.mp (Bool.and_eq_true_iff.mp hk).1).2
      split at h
      · rename_i n dp f2 p2 sp f1 p1 r
        split at h
        · rename_i ho1 ho2
          cases hc : (Nat.beq (z_ak p1) 0 && Nat.beq (z_ak p2) 0 && Nat.blt p1 32 && Nat.blt p2 32 && Nat.blt (z_sl r) 9)
          · rw [hc] at h; cases h
          · rw [hc] at h
            cases h
            obtain ⟨g1, g5⟩ := Bool.and_eq_true_iff.mp hc
            obtain ⟨g1, g4⟩ := Bool.and_eq_true_iff.mp g1
            obtain ⟨g1, g3⟩ := Bool.and_eq_true_iff.mp g1
            obtain ⟨g1, g2⟩ := Bool.and_eq_true_iff.mp g1
            have k1 := Nat.eq_of_beq_eq_true g1
            have k2 := Nat.eq_of_beq_eq_true g2
            have k3 : p1 < 32 := Nat.ble_eq.mp g3
            have k4 : p2 < 32 := Nat.ble_eq.mp g4
            have k5 : z_sl r < 9 := Nat.ble_eq.mp g5
            have hos4 := z_okS_tl (z_okS_tl hos)
            have hos6 := z_okS_tl (z_okS_tl hos4)
            have hv2 := z_okv_val (z_okS_hd hos4) (z_beq_ne (by omega))
            have hv1 := z_okv_val (z_okS_hd hos6) (z_beq_ne (by omega))
            have hg1 := z_W_get (ad := ad) (cs := cs) (M := M) hv1
            have hg2 := z_W_get (ad := ad) (cs := cs) (M := M) hv2
            rw [show z_en ad cs M f1 p1 = .inl (cs 0, z_sz p1, .inl (fun k => z_ri M f1 p1 k)) by unfold z_en; rw [ho1]; dsimp only; rw [k1]; rfl] at hg1
            rw [show z_en ad cs M f2 p2 = .inl (cs 0, z_sz p2, .inl (fun k => z_ri M f2 p2 k)) by unfold z_en; rw [ho2]; dsimp only; rw [k2]; rfl] at hg2
            obtain ⟨q1, q2, q3, q4, q5⟩ := z_cpo_ok hA.1
            refine va_copyi hx hb (hml.trans hl.1.symm) hown (hts _ (z_good_in hw rfl)) (hts _ (z_good_in z_w_nat rfl)) (hts _ (z_good_in z_w_stc rfl)) (hts _ (z_good_in z_w_ini rfl)) hK hP hD hS _ _ 0 0 hg1 hg2 rfl rfl rfl q1 q2 q3 q4 q5 (fun _ _ => rfl) (by omega) (by rw [z_sl_map]; exact Nat.le_trans (z_natw k5) (by omega)) hd (fun H1 locs1 hP1 _ hS1 => ?_)
            rw [z_W_set (M' := (z_cpy M.1 f1 p1 f2 p2 sp.toNatClampNeg dp.toNatClampNeg n.toNatClampNeg, M.2)) hv2 (z_cpy_en hv2 ho2 k2 k3 k4) (fun f' p' h1 h2 => z_cpy_ne h2)] at hP1
            exact kk H1 locs1 LS ⟨hl, hol, z_okS_tl hos6, hP1, hS1⟩
        · cases h
      · cases h
    · rename_i hsp
      rw [hsp] at hk
      dsimp only at hk
      have hw := z_isW_in (Bool.and_eq_true_iff.mp (Bool.and_eq_true_iff.mp (Bool.and_eq_true_iff.mp hk).1).1).1
      have hf1 := Nat.ble_eq.mp (Bool.and_eq_true_iff.mp (Bool.and_eq_true_iff.mp (Bool.and_eq_true_iff.mp hk).1).1).2
      have hf2 := Nat.ble_eq.mp (Bool.and_eq_true_iff.mp (Bool.and_eq_true_iff.mp hk).1).2
      split at h
      · rename_i y x r
        cases hc : Nat.blt (z_sl r) 9
        · rw [hc] at h; cases h
        · rw [hc] at h
          cases h
          have k5 : z_sl r < 9 := Nat.ble_eq.mp hc
          exact va_mmax hx hb (hml.trans hl.1.symm) hown (hts _ (z_good_in hw rfl)) (hts _ (z_good_in z_w_mxs rfl)) (hts _ (z_good_in z_w_mi rfl)) (hts _ (z_good_in z_w_mxc rfl)) (by omega) (by rw [z_sl_map]; omega) hce hsl hd (kk H locs LS ⟨hl, hol, z_okS_tl (z_okS_tl hos), hP, hS⟩)
      · cases h
    · rename_i hsp
      rw [hsp] at hk
      dsimp only at hk
      have hw := z_isW_in (Bool.and_eq_true_iff.mp (Bool.and_eq_true_iff.mp (Bool.and_eq_true_iff.mp hk).1).1).1
      have hf1 := Nat.ble_eq.mp (Bool.and_eq_true_iff.mp (Bool.and_eq_true_iff.mp (Bool.and_eq_true_iff.mp hk).1).1).2
      have hf2 := Nat.ble_eq.mp (Bool.and_eq_true_iff.mp (Bool.and_eq_true_iff.mp hk).1).2
      split at h
      · rename_i y x r
        cases hc : Nat.blt (z_sl r) 9
        · rw [hc] at h; cases h
        · rw [hc] at h
          cases h
          have k5 : z_sl r < 9 := Nat.ble_eq.mp hc
          exact va_mmin hx hb (hml.trans hl.1.symm) hown (hts _ (z_good_in hw rfl)) (hts _ (z_good_in z_w_mns rfl)) (hts _ (z_good_in z_w_mi rfl)) (hts _ (z_good_in z_w_mnc rfl)) (by omega) (by rw [z_sl_map]; omega) hce hsl hd (kk H locs LS ⟨hl, hol, z_okS_tl (z_okS_tl hos), hP, hS⟩)
      · cases h
    · cases h
  | _ => (dsimp only [z_st1] at h; cases h)
end ZS
end
section

/-! A RUN IS SOUND: what the interpreter runs, the machine runs -/
def z_ex (e : Nat) : String := match e with
  | 0 => "java/lang/IllegalArgumentException"
  | 1 => "java/lang/IllegalStateException"
  | _ => "java/lang/IndexOutOfBoundsException"
def z_Qc (D : va_G) (ad : z_ad) (cs : Nat → ClassId) (A : Nat → Prop) (o : z_Rs) (M' : Mem) : Array Value → State → Outcome → State → Prop := fun _ st oc t => (∃ v, o = .inl v ∧ oc = .returned (v.map (cv ad)) ∧ va_P D vwCl (z_W ad cs M') t.heap) ∧ va_F A st t
def z_XC (D : va_G) (ad : z_ad) (cs : Nat → ClassId) (A : Nat → Prop) (o : z_Rs) (M' : Mem) : String → State → State → Prop := fun E st t => (∃ e, o = .inr e ∧ E = z_ex e ∧ va_P D vwCl (z_W ad cs M') t.heap) ∧ va_F A st t
def z_Pc (D : va_G) (ad : z_ad) (cs : Nat → ClassId) (A : Nat → Prop) (b L : Nat) (xs : Nat → Int32) (sa : Nat → Nat) (M : Mem) (as : List AV) : Array Value → State → Prop := va_Pc (as.map (cv ad)) (fun U => z_cx D cs A b L xs sa U ∧ va_P D vwCl (z_W ad cs M) U.heap)
def z_room (m k : Nat) : Room := { frames := z_FR m, cells := k, slots := 6 * k, locals := z_LR m }
def z_ws (m : Nat) : List Cond := z_codeW m :: z_good
-- the entry
theorem z_asc_ent (ad : z_ad) : ∀ (as : List AV) (i : Nat), z_asc ad i (z_entL as) = lv_args i (as.map (cv ad))
  | [], _ => rfl
  | v :: t, i => by
    have hc := cv_cat ad v
    cases h2 : z_cat2 v with
    | true =>
      rw [h2] at hc
      have h1 : (cv ad v).category = 2 := hc
      unfold z_entL
      rw [h2]
      show (i, cv ad v) :: z_asc ad (i + 2) (z_entL t) = (i, cv ad v) :: lv_args (if (cv ad v).category = 2 then i + 2 else i + 1) (t.map (cv ad))
      rw [if_pos h1, z_asc_ent ad t]
    | false =>
      rw [h2] at hc
      have h1 : (cv ad v).category = 1 := hc
      unfold z_entL
      rw [h2]
      show (i, cv ad v) :: z_asc ad (i + 1) (z_entL t) = (i, cv ad v) :: lv_args (if (cv ad v).category = 2 then i + 2 else i + 1) (t.map (cv ad))
      rw [if_neg (by omega), z_asc_ent ad t]
theorem z_get_pad : ∀ (n : Nat) (l : Lc) (j : Nat) (v : AV), z_get (z_pad n l) j = some v → z_get l j = some v
  | 0, l, j, v, h => h
  | n + 1, [], 0, v, h => by cases h
  | n + 1, [], j + 1, v, h => by have h1 := z_get_pad n [] j v h; cases h1
  | n + 1, x :: t, 0, v, h => h
  | n + 1, x :: t, j + 1, v, h => z_get_pad n t j v h
theorem z_has_entry {ad : z_ad} {as : List AV} {n : Nat} {LS : Array Slot} (h : lv_has LS n (lv_args 0 (as.map (cv ad)))) : lv_has LS n (z_asc ad 0 (z_pad n (z_entL as))) := by
  refine z_has_mem h fun q hq => ?_
  obtain ⟨j, v, h1, h2⟩ := (z_asc_in _ _ _).mp hq
  rw [← z_asc_ent]
  exact (z_asc_in _ _ _).mpr ⟨j, v, z_get_pad _ _ _ _ h1, h2⟩
theorem z_okL_pad : ∀ (n : Nat) (l : Lc), z_okL l = true → z_okL (z_pad n l) = true
  | 0, l, h => h
  | n + 1, [], _ => z_okL_pad n [] rfl
  | n + 1, none :: t, h => z_okL_pad n t h
  | n + 1, some v :: t, h => by
    have h' : (z_okv v && z_okL t) = true := h
    obtain ⟨h1, h2⟩ := Bool.and_eq_true_iff.mp h'
    show (z_okv v && z_okL (z_pad n t)) = true
    rw [h1, z_okL_pad n t h2]
    rfl
theorem z_okL_ent : ∀ (as : List AV), z_okS as = true → z_okL (z_entL as) = true
  | [], _ => rfl
  | v :: t, h => by
    have ih := z_okL_ent t (z_okS_tl h)
    unfold z_entL
    cases z_cat2 v
    · show (z_okv v && z_okL (z_entL t)) = true
      rw [z_okS_hd h, ih]
      rfl
    · show (z_okv v && z_okL (z_entL t)) = true
      rw [z_okS_hd h, ih]
      rfl
theorem z_sl_lg (ad : z_ad) : ∀ as : List AV, (lg_sl (as.map (cv ad))).length = z_sl as
  | [] => rfl
  | v :: t => by
    have ih := z_sl_lg ad t
    have hc := cv_cat ad v
    unfold lg_sl at ih ⊢
    rw [List.map_cons, List.flatMap_cons, List.length_append, ih]
    show _ = (bif z_cat2 v then 2 else 1) + z_sl t
    rw [hc]
    cases z_cat2 v <;> rfl
theorem z_okS_app : ∀ {a b : List AV}, z_okS (a ++ b) = true → z_okS a = true ∧ z_okS b = true
  | [], b, h => ⟨rfl, h⟩
  | v :: t, b, h => by
    obtain ⟨h1, h2⟩ := z_okS_app (a := t) (b := b) (z_okS_tl h)
    exact ⟨z_okS_mk (z_okS_hd h) h1, h2⟩
theorem z_okS_in {a : List AV} : z_okS a = true ↔ ∀ v ∈ a, z_okv v = true := List.all_eq_true
theorem z_okS_rev {a : List AV} (h : z_okS a.reverse = true) : z_okS a = true := z_okS_in.mpr fun v hv => z_okS_in.mp h v (List.mem_reverse.mpr hv)
theorem z_codeW_good (m : Nat) : goodWord (z_codeW m) = true := by
  unfold z_codeW
  split <;> rfl
theorem z_ws_in {m : Nat} (hm : m < 57) : GoodIn z_good (z_ws m) := by
  intro w hw
  rcases List.mem_cons.mp hw with e | h
  · subst e
    exact ⟨z_good_in (z_cw hm) (z_codeW_good m), good_of_word (z_codeW_good m)⟩
  · exact ⟨h, good_of_word (List.mem_filter.mp h).2⟩
-- handlers
def z_isIn (w : Cond) : Bool := lw_tbl.any (fun x => decide (x = w))
theorem z_isIn_in {w : Cond} (h : z_isIn w = true) : w ∈ lw_tbl := by
  obtain ⟨x, hx, e⟩ := List.any_eq_true.mp h
  have e2 := of_decide_eq_true e
  subst e2
  exact hx
def z_hk (m h ct e hp sl : Nat) : Bool := !(Nat.beq ct 0) && z_isIn (.classLink (z_on (z_own m)) ct (z_ex e)) && z_isIn (.castable (z_ex e) (z_ex e)) && (match z_ins m h with
  | some (.astore k, _, _) => Nat.beq k sl && Nat.beq hp (h + 2) && Nat.blt k (z_ml m)
  | some (.astore_n k, _, _) => Nat.beq k.val sl && Nat.beq hp (h + 1) && Nat.blt k.val (z_ml m)
  | _ => false)
def z_hp (m ct e : Nat) : Bool := !(Nat.beq ct 0) && ((Nat.beq e 1 && z_isIn (.classLink (z_on (z_own m)) ct "java/lang/IllegalArgumentException")) || (Nat.beq e 0 && z_isIn (.classLink (z_on (z_own m)) ct "java/lang/IndexOutOfBoundsException")))
def z_hck (m e : Nat) : Bool := match z_han m e with
  | none => true
  | some (hp, sl) => match z_hh m with
    | [(_, _, h, ct)] => z_hk m h ct e hp sl
    | [(_, _, h, ct), (_, _, h2, ct2)] => z_hk m h ct e hp sl || (z_hp m ct e && z_hk m h2 ct2 e hp sl)
    | _ => false
theorem z_hck_all : (List.range 58).all (fun m => (List.range 3).all (z_hck m)) = true := by decide +kernel
theorem z_han_lt {m e : Nat} {x : Nat × Nat} (h : z_han m e = some x) : e < 3 := by
  unfold z_han at h
  cases he : Nat.blt e 3
  · rw [he] at h; cases h
  · exact Nat.ble_eq.mp he
section ZC
variable {p : Program} {l : Launch} {e : Env} {R : Room} {s : State} {mi : MethodId} {args : Array Value} {below : List Frame} {meth : Method} {c : Code} {cells slots : Nat} {Q : State → Prop}
variable {D : va_G} {ad : z_ad} {cs : Nat → ClassId} {A : Nat → Prop} {b L : Nat} {xs : Nat → Int32} {sa : Nat → Nat} {H0 : Heap}
/-- behind a call, whatever it answers -/
theorem z_callG {H : Heap} {locs : List Loc} {mc ms pc : Nat} {ls : Array Slot} {st0 rest : List Value} {o : z_Rs} {M' : Mem} {a : Array Value} (hr : vx_Run p l e R s mi args below meth c H locs cells slots mc ms (F0 mi pc ls st0) rest (z_Qc D ad cs A o M' a) (z_XC D ad cs A o M') A) (hS : va_S A H0 H locs)
    (kx : ∀ (er : Nat) (ce : Cell) (q9 : Addr) (H1 : Heap) (locs1 : List Loc), o = .inr er → va_P D vwCl (z_W ad cs M') H1 → va_S A H0 H1 locs1 → H1[q9]? = some ce → ce.vm = .none → s.vm.findClass (z_ex er) = some ce.cls → vx_W p l e R s mi args below meth c H1 locs1 (cells + mc) (slots + ms) Q (F0 mi pc ls rest) q9)
    (kk : ∀ (v : Option AV) (H1 : Heap) (locs1 : List Loc), o = .inl v → va_P D vwCl (z_W ad cs M') H1 → va_S A H0 H1 locs1 → W p l e R s mi args below meth c H1 locs1 (cells + mc) (slots + ms) Q (F0 mi (pc + 3) ls ((v.map (cv ad)).toList ++ rest))) : W p l e R s mi args below meth c H locs cells slots Q (F0 mi pc ls st0) := by
  intro T hT X
  rcases hr T hT X with ⟨v, st₀, t, T', L9, h0, X', hL, e1, e2, ⟨⟨w, hw, hv, hP⟩, hF⟩, st⟩ | ⟨q, st₀, t, T', L9, E, ce, h0, X', hL, e1, e2, ⟨⟨er, ho, hE, hP⟩, hF⟩, hce, hcv, hcl, st⟩
  · cases hv
    obtain ⟨k1, k2, k3⟩ := vx_keep h0 e1 hS (fun q _ h => h) (fun q h => h) hL hF
    obtain ⟨t2, a1, b1⟩ := kk w T'.heap (locs ++ L9) hw (by rw [e1]; exact hP) k3 T' rfl X'
    exact ⟨t2, st t2 a1, b1⟩
  · obtain ⟨k1, k2, k3⟩ := vx_keep h0 e1 hS (fun q _ h => h) (fun q h => h) hL hF
    subst hE
    obtain ⟨t2, a1, b1⟩ := kx er ce q T'.heap (locs ++ L9) ho (by rw [e1]; exact hP) k3 (by rw [e1]; exact hce) hcv hcl T' rfl X'
    exact ⟨t2, st.trans a1, b1⟩
/-- the class's receiver -/
theorem z_recv {M : Mem} {f q cn n : Nat} {H : Heap} (hK : va_K D vwCl (z_tys cs) s) (hP : va_P D vwCl (z_W ad cs M) H) (hv : z_val f q = true) (ho : z_obj q = some (cn, n)) : ∃ cell : Cell, H[ad f q]? = some cell ∧ cell.vm.isStatics = false ∧ s.vm.findClass (z_on cn) = some cell.cls := by
  obtain ⟨hc6, hn⟩ := z_obj_nf ho
  have hg := z_W_get (ad := ad) (cs := cs) (M := M) hv
  rw [show z_en ad cs M f q = .inr (cn, (List.range n).map fun k => cv ad (z_rd M f q k)) by unfold z_en; rw [ho]] at hg
  exact va_recv hK hP (z_cl_ok cn hc6) hg
theorem z_blind (M : Mem) (as : List AV) : FrameBlind (z_Pc D ad cs A b L xs sa M as) := by
  intro a U g mk h
  obtain ⟨h1, h2, h3⟩ := h
  exact ⟨h1, z_cx_moved (U := U.calling g mk a) (locs := []) (State.WarmedH.refl U) va_S.rf h2, h3⟩
theorem z_mB_use {m : Nat} (hm : m < 57) : Cond.initialized (z_y m).cls ∈ z_good ∧ (z_stc m = true → Cond.static (z_y m) ∈ z_good) ∧ (z_stc m = false → Cond.instanceMethod (z_y m) ∈ z_good ∧ Cond.selects (z_on (z_own m)) (z_y m) (z_y m) ∈ z_good ∧ 0 < z_na m) ∧
    (z_y m).cls = z_on (z_own m) ∧ plainName (z_y m).cls = true ∧ ((z_y m).cls ≠ "java/lang/invoke/MethodHandle" ∧ (z_y m).cls ≠ "java/lang/invoke/VarHandle") ∧ (parseMethodDescriptor (z_y m).desc).map (fun d => d.parameters.length) = some (bif z_stc m then z_na m else z_na m - 1) := by
  have h := z_mB_all hm
  unfold z_mB at h
  obtain ⟨h, g8⟩ := Bool.and_eq_true_iff.mp h
  obtain ⟨h, g7⟩ := Bool.and_eq_true_iff.mp h
  obtain ⟨h, g6⟩ := Bool.and_eq_true_iff.mp h
  obtain ⟨h, g5⟩ := Bool.and_eq_true_iff.mp h
  obtain ⟨h, g4⟩ := Bool.and_eq_true_iff.mp h
  obtain ⟨h, g3⟩ := Bool.and_eq_true_iff.mp h
  obtain ⟨g1, g2⟩ := Bool.and_eq_true_iff.mp h
  refine ⟨z_good_in (z_isW_in g1) rfl, fun e => ?_, fun e => ?_, of_decide_eq_true g3, g4, ⟨of_decide_eq_true g5, of_decide_eq_true g6⟩, of_decide_eq_true g7⟩
  · rw [e] at g2
    exact z_good_in (z_isW_in g2) rfl
  · rw [e] at g2 g8
    obtain ⟨k1, k2⟩ := Bool.and_eq_true_iff.mp g2
    exact ⟨z_good_in (z_isW_in k1) rfl, z_good_in (z_isW_in k2) rfl, Nat.ble_eq.mp g8⟩
end ZC


def z_rOK (m : Nat) (i : Instr) (o : z_Rs) (st : List AV) : Prop := match i with
  | .return_ => z_rt m = 0 ∧ st = [] ∧ o = .inl none
  | .ireturn => ∃ x, st = [.inl x] ∧ o = .inl (some (.inl x)) ∧ (z_rt m = 1 ∨ (z_rt m = 2 ∧ z_isB x = true))
  | .lreturn => ∃ x, st = [.inr (.inl x)] ∧ o = .inl (some (.inr (.inl x))) ∧ z_rt m = 3
  | .dreturn => ∃ x, st = [.inr (.inr (.inl x))] ∧ o = .inl (some (.inr (.inr (.inl x)))) ∧ z_rt m = 4
  | _ => False
/-- all that a walk of m from a point needs besides the point -/
def z_Env (p : Program) (l : Launch) (R : Room) (s : State) (mi : MethodId) (args : Array Value) (meth : Method) (c : Code) (cells slots : Nat) (D : va_G) (ad : z_ad) (cs : Nat → ClassId) (A : Nat → Prop) (b L : Nat) (xs : Nat → Int32) (sa : Nat → Nat) (m : Nat) : Prop :=
  z_On p R s mi args c cells slots D ad cs A b L xs sa m ∧ l.stackTraces = false ∧ meth.locks = false ∧ c.exceptionTable.toList = tableOf (z_hh m)
/-- the soundness of all runs of at most n steps -/
def z_Snd (l : Launch) (D : va_G) (ad : z_ad) (cs : Nat → ClassId) (A : Nat → Prop) (b L : Nat) (xs : Nat → Int32) (sa : Nat → Nat) (n : Nat) : Prop :=
  ∀ (m : Nat) (cf : Cf) (o : z_Rs) (M' : Mem) (k : Nat), z_Ex xs L n m cf o M' k → ∀ {p : Program} {e : Env} {R : Room} {s : State} {mi : MethodId} {args : Array Value} {below : List Frame} {meth : Method} {c : Code} {cells slots : Nat} {Q : State → Prop} {H : Heap} {locs : List Loc} {LS : Array Slot},
    z_Env p l R s mi args meth c cells slots D ad cs A b L xs sa m → cells + k ≤ R.cells → slots + 6 * k ≤ R.slots → z_Pt D ad cs A s.heap m LS cf.2.1 cf.2.2.1 cf.2.2.2 H locs →
    (∀ er, o = .inr er → Q = vx_MQ below (z_Qc D ad cs A o M') (z_XC D ad cs A o M') args s (cells + k) (slots + 6 * k) A) →
    (∀ (H' : Heap) (locs' : List Loc) (pc' : Nat) (LS' : Array Slot) (st' : List AV) (i : Instr) (t : Nat) (k0 : Int32), z_ins m pc' = some (i, t, k0) → z_rOK m i o st' → va_P D vwCl (z_W ad cs M') H' → va_S A s.heap H' locs' → W p l e R s mi args below meth c H' locs' (cells + k) (slots + 6 * k) Q (F0 mi pc' LS' (st'.map (cv ad)))) →
    W p l e R s mi args below meth c H locs cells slots Q (F0 mi cf.1 LS (cf.2.2.1.map (cv ad)))
/-- a method's contract out of its run -/
theorem z_met {l : Launch} {D : va_G} {ad : z_ad} {cs : Nat → ClassId} {A : Nat → Prop} {b L : Nat} {xs : Nat → Int32} {sa : Nat → Nat} {n : Nat} (ih : z_Snd l D ad cs A b L xs sa n) (hAD : z_AD A ad) (hab : ad 0 41 = b) (hl : l.stackTraces = false) {m : Nat} (hm : m < 57) {as : List AV} {M M1 : Mem} {o1 : z_Rs} {k1 : Nat}
    (hex : z_Ex xs L n m (0, z_pad (z_ml m) (z_entL as), [], M) o1 M1 k1) (hos : z_okS as = true) (hsl : z_sl as ≤ z_ml m) :
    vx_Met l (z_y m) (z_ws m) (z_room m k1) (z_Pc D ad cs A b L xs sa M as) (z_Qc D ad cs A o1 M1) (z_XC D ad cs A o1 M1) k1 (6 * k1) A := by
  obtain ⟨-, -, -, hcls, hpl, -, -⟩ := z_mB_use hm
  have body : ∀ (p : Program) (e : Env) (s : State) (mi : MethodId) (args : Array Value) (below : List Frame) (meth : Method) (c : Code) (s₁ : State), BodyLoose p l (z_y m) (headSpec (z_ws m) (z_room m k1)) (z_b m) (z_ml m) (z_ret m) e s mi args below meth c s₁ → c.maxLocals = z_ml m → c.exceptionTable.toList = tableOf (z_hh m) → z_Pc D ad cs A b L xs sa M as args s →
      W p l e (headSpec (z_ws m) (z_room m k1)).room s mi args below meth c s.heap [] 0 0 (vx_MQ below (z_Qc D ad cs A o1 M1) (z_XC D ad cs A o1 M1) args s k1 (6 * k1) A) (entryFrame mi args (z_ml m)) := by
    intro p e s mi args below meth c s₁ B hml htab hv
    obtain ⟨rfl, hcx, hP⟩ := hv
    have hx := B.exec
    have hb := B.bytes
    have hr := B.returns
    have hlocks := B.notSynchronized
    have hts0 := atoms_spec (ws := z_ws m) B.pre
    have hown : s.vm.findClass (z_on (z_own m)) = some mi.cls := by
      rw [← hcls]
      exact findClass_of_methodNamed B.named
    have hl9 := lv_entry (as.map (cv ad)) (n := z_ml m) (by rw [z_sl_lg]; exact hsl)
    rw [lg_entry_eq]
    generalize (lg_sl (as.map (cv ad)) ++ List.replicate (z_ml m - (lg_sl (as.map (cv ad))).length) Slot.unset).toArray = LS at hl9 ⊢
    have hE : z_Env p l (headSpec (z_ws m) (z_room m k1)).room s mi (as.map (cv ad)).toArray meth c 0 0 D ad cs A b L xs sa m :=
      ⟨⟨hx, hb, hml, hown, fun w hw => hts0 w (List.mem_cons_of_mem _ hw), hcx, hAD, hab, Nat.le_refl _, Nat.le_refl _, Nat.zero_le _, Nat.zero_le _⟩, hl, hlocks, htab⟩
    refine ih m _ o1 M1 k1 hex hE (by rw [Nat.zero_add]; exact Nat.le_refl k1) (by rw [Nat.zero_add]; exact Nat.le_refl (6 * k1)) ⟨z_has_entry hl9, z_okL_pad _ _ (z_okL_ent as hos), rfl, hP, va_S.rf⟩ ?_ ?_
    · intro er _
      simp only [Nat.zero_add]
    · intro H' locs' pc' LS' st' i t k0 hi hrk hP' hS'
      simp only [Nat.zero_add]
      obtain ⟨⟨n9, hd, hn9⟩, -, -⟩ := z_ins_ck hi
      have hrt : meth.sig.returnType = z_ret m := hr
      refine vx_ret ?_
      have hq : ∀ (v : Option AV), o1 = .inl v → ∀ t9 : State, t9.heap = H' → s.WarmedH t9.vm → z_Qc D ad cs A o1 M1 (as.map (cv ad)).toArray s (.returned (v.map (cv ad))) t9 := fun v hv t9 ht9 _ => ⟨⟨v, hv, rfl, by rw [ht9]; exact hP'⟩, hS'.F ht9⟩
      cases i with
      | return_ =>
        rcases hn9 with h9 | h9
        · cases h9
        subst h9
        obtain ⟨r1, rfl, r3⟩ := hrk
        exact W.vret hx hb (by rw [hrt]; unfold z_ret; rw [r1]; rfl) (hq none r3) hS'.2.2 hd
      | ireturn =>
        rcases hn9 with h9 | h9
        · cases h9
        subst h9
        obtain ⟨x9, rfl, r2, r3⟩ := hrk
        rcases r3 with r3 | ⟨r3, r4⟩
        · exact W.zret (ty := .int) hx hb (by rw [hrt]; unfold z_ret; rw [r3]; rfl) rfl (hq (some (.inl x9)) r2) hS'.2.2 hd
        · exact W.zret (ty := .boolean) hx hb (by rw [hrt]; unfold z_ret; rw [r3]; rfl) (z_isB_nar r4) (hq (some (.inl x9)) r2) hS'.2.2 hd
      | lreturn =>
        rcases hn9 with h9 | h9
        · cases h9
        subst h9
        obtain ⟨x9, rfl, r2, r3⟩ := hrk
        exact W.lret hx hb (by rw [hrt]; unfold z_ret; rw [r3]; rfl) (hq (some (.inr (.inl x9))) r2) hS'.2.2 hd
      | dreturn =>
        rcases hn9 with h9 | h9
        · cases h9
        subst h9
        obtain ⟨x9, rfl, r2, r3⟩ := hrk
        exact W.dret hx hb (by rw [hrt]; unfold z_ret; rw [r3]; rfl) (hq (some (.inr (.inr (.inl x9)))) r2) hS'.2.2 hd
      | _ => exact absurd hrk (fun q => q)
  cases hh : z_hh m with
  | nil =>
    refine vx_ofW (cc := z_b m) (maxL := z_ml m) (ret := z_ret m) (ws' := z_good) hpl (by unfold z_ws z_codeW; rw [hh]) ?_
    intro p e s mi args below meth c s₁ B hml hnone hv
    refine body p e s mi args below meth c s₁ B hml ?_ hv
    rw [hh]
    cases ht : c.exceptionTable.toList with
    | nil => rfl
    | cons x t => exact absurd (hnone x (by rw [ht]; exact List.mem_cons_self)) (fun q => q)
  | cons x t =>
    have hcw : z_codeW m = Cond.codeWith (z_y m) (z_b m) (z_ml m) (z_ret m) (z_hh m) := by
      unfold z_codeW
      rw [hh]
    refine vx_ofWH (cc := z_b m) (maxL := z_ml m) (ret := z_ret m) (hh := z_hh m) (ws' := z_good) hpl (by unfold z_ws; rw [hcw]) ?_
    intro p e s mi args below meth c s₁ B hml hv
    refine body p e s mi args below meth c s₁ B hml ?_ hv
    refine vx_table (x := z_y m) (bytes := z_b m) (maxL' := z_ml m) (ret' := z_ret m) B ?_
    rw [← hcw]
    exact atoms_spec (ws := z_ws m) B.pre _ List.mem_cons_self
end
section

theorem z_Ex_okv {xs : Nat → Int32} {L : Nat} : ∀ (n m : Nat) (cf : Cf) (o : z_Rs) (M' : Mem) (k : Nat), z_Ex xs L n m cf o M' k → ∀ v, o = .inl (some v) → z_okv v = true
  | 0, _, _, _, _, _, h, _, _ => absurd h (fun q => q)
  | n + 1, m, (pc, ls, st, M), o, M', k, h, v, hv => by
    subst hv
    unfold z_Ex at h
    split at h
    · obtain ⟨_, _, _, h2, _⟩ := h
      cases h2
    · split at h
      · obtain ⟨_, _, h2, _⟩ := h
        cases h2
      · obtain ⟨x, _, h2, _⟩ := h
        cases h2; rfl
      · obtain ⟨x, _, h2, _⟩ := h
        cases h2; rfl
      · obtain ⟨x, _, h2, _⟩ := h
        cases h2; rfl
      · obtain ⟨m', b, w, as, r, o1, M1, k1, k2, -, -, -, -, -, -, -, -, h⟩ := h
        cases o1 with
        | inl v1 => exact z_Ex_okv n _ _ _ _ _ h _ rfl
        | inr e1 =>
          rcases h with ⟨-, h2, -⟩ | ⟨h1, s1, -, -, h⟩
          · cases h2
          · exact z_Ex_okv n _ _ _ _ _ h _ rfl
      · split at h
        · obtain ⟨c', O, -, -, h⟩ := h
          exact z_Ex_okv n _ _ _ _ _ h _ rfl
        · obtain ⟨m', b, w, as, r, o1, M1, k1, k2, -, -, -, -, -, -, -, h⟩ := h
          cases o1 with
          | inl v1 => exact z_Ex_okv n _ _ _ _ _ h _ rfl
          | inr e1 =>
            obtain ⟨-, h2, -⟩ := h
            cases h2
      · obtain ⟨c', O, -, -, h⟩ := h
        exact z_Ex_okv n _ _ _ _ _ h _ rfl
theorem z_thr_in {m pc e : Nat} (h : z_thr m pc = some e) : (m = 42 ∧ pc = 4 ∧ e = 0) ∨ (m = 43 ∧ pc = 4 ∧ e = 1) ∨ (m = 44 ∧ pc = 9 ∧ e = 2) := by
  unfold z_thr at h

  cases c0 : (Nat.beq m 42 && Nat.beq pc 4)
  · rw [c0] at h; dsimp only [cond] at h
    cases c1 : (Nat.beq m 43 && Nat.beq pc 4)
    · rw [c1] at h; dsimp only [cond] at h
      cases c2 : (Nat.beq m 44 && Nat.beq pc 9)
      · rw [c2] at h; dsimp only [cond] at h
        cases h
      · rw [c2] at h
        cases h
        obtain ⟨g1, g2⟩ := Bool.and_eq_true_iff.mp c2
        exact Or.inr (Or.inr (⟨Nat.eq_of_beq_eq_true g1, Nat.eq_of_beq_eq_true g2, rfl⟩))
    · rw [c1] at h
      cases h
      obtain ⟨g1, g2⟩ := Bool.and_eq_true_iff.mp c1
      exact Or.inr (Or.inl ⟨Nat.eq_of_beq_eq_true g1, Nat.eq_of_beq_eq_true g2, rfl⟩)
  · rw [c0] at h
    cases h
    obtain ⟨g1, g2⟩ := Bool.and_eq_true_iff.mp c0
    exact Or.inl ⟨Nat.eq_of_beq_eq_true g1, Nat.eq_of_beq_eq_true g2, rfl⟩

def z_names : List String := ["java/lang/RuntimeException", "java/lang/Exception"]
def z_atB (ik is ic e : Nat) : Bool := (Cond.classLink RX4 ik (z_ex e) :: Cond.initialized (z_ex e) :: vx_atS RX4 ic (z_ex e) z_names).all (fun w => z_isIn w && (goodWord w || z_isM w) && vx_ot w)
theorem z_M_tab {w : Cond} (h : z_isM w = true) : w.onTables = true := by
  cases w <;> first | rfl | cases h
section ZD
variable {p : Program} {l : Launch} {e : Env} {R : Room} {s : State} {mi : MethodId} {args : Array Value} {below : List Frame} {meth : Method} {c : Code} {cells slots : Nat} {Q : State → Prop}
variable {D : va_G} {ad : z_ad} {cs : Nat → ClassId} {A : Nat → Prop} {b L : Nat} {xs : Nat → Int32} {sa : Nat → Nat}
theorem z_word {args : Array Value} {w : Cond} (hts : ∀ w ∈ z_good, w.before args s = true) (hcx : z_cx D cs A b L xs sa s) (hw : w ∈ lw_tbl) (hg : (goodWord w || z_isM w) = true) : w.before args s = true := by
  cases hgw : goodWord w with
  | true => exact hts w (z_good_in hw hgw)
  | false =>
    rw [hgw] at hg
    exact va_Nw.use (z_M_tab hg) (hcx.2.2.2.1 w (z_misc_in hw hg))
theorem z_keptP {M : Mem} {H H1 : Heap} (h : va_P D vwCl (z_W ad cs M) H) (hk : ∀ q : Nat, q < H.size → H1[q]? = H[q]?) : va_P D vwCl (z_W ad cs M) H1 := h.kept fun k q hq => hk q.1 (vx_lt h hq)
/-- an exception that is made and thrown -/
theorem z_throw {m pc er ik is ic : Nat} {text : String} {M : Mem} {ls : Lc} {st : List AV} {H : Heap} {locs : List Loc} {LS : Array Slot} (hl : l.stackTraces = false) (hE : z_Env p l R s mi args meth c cells slots D ad cs A b L xs sa m) (hown : z_own m = 4) (hm : z_hh m = []) (hfr : z_FR m = 6) (hlr : z_LR m = 90)
    (hat : z_atB ik is ic er = true) (hfit : Bundle.fit (z_ex er) = true) {sx : Nat} (hstr : vk_R RX4 is text sx s)
    (d0 : decode (z_b m) pc = .ok (.new ik, 3)) (d3 : decode (z_b m) (pc + 3) = .ok (.dup, 1)) (d4 : decode (z_b m) (pc + 4) = .ok (.ldc_w is, 3)) (d7 : decode (z_b m) (pc + 7) = .ok (.invokespecial ic, 3)) (d10 : decode (z_b m) (pc + 10) = .ok (.athrow, 1))
    (hst : st = []) (hc : cells + 1 ≤ R.cells) (hs : slots + 6 * 1 ≤ R.slots) (hp : z_Pt D ad cs A s.heap m LS ls st M H locs) :
    W p l e R s mi args below meth c H locs cells slots (vx_MQ below (z_Qc D ad cs A (.inr er) M) (z_XC D ad cs A (.inr er) M) args s (cells + 1) (slots + 6 * 1) A) (F0 mi pc LS (st.map (cv ad))) := by
  obtain ⟨⟨hx, hb, hml, hcl, hts, hcx, hAD, hab, hfr9, hlo9, -, -⟩, -, hlocks, htab⟩ := hE
  obtain ⟨hLS, -, -, hP, hS⟩ := hp
  subst hst
  rw [hown] at hcl
  have hat9 := fun w hw => List.all_eq_true.mp hat w hw
  have hw9 : ∀ w ∈ Cond.classLink RX4 ik (z_ex er) :: Cond.initialized (z_ex er) :: vx_atS RX4 ic (z_ex er) z_names, w.before args s = true ∧ vx_ot w = true := by
    intro w hw
    obtain ⟨h1, h2⟩ := Bool.and_eq_true_iff.mp (hat9 w hw)
    obtain ⟨h3, h4⟩ := Bool.and_eq_true_iff.mp h1
    exact ⟨z_word hts hcx (z_isIn_in h3) h4, h2⟩
  refine vx_throwSW (own := RX4) (cls := z_ex er) (text := text) (names := z_names) (ik := ik) (is := is) (ic := ic) (sa := sx) (A := A) hx hb hl hcl hfit (by decide +kernel) (hw9 _ List.mem_cons_self).1 (hw9 _ (List.mem_cons_of_mem _ List.mem_cons_self)).1 hstr
    (fun w hw => (hw9 w (List.mem_cons_of_mem _ (List.mem_cons_of_mem _ hw))).1) (fun w hw => (hw9 w hw).2) hcx.2.1 hcx.2.2.1 hS (hLS.1.trans hml.symm) d0 d3 d4 d7 d10 ?_ ?_ ?_ hc (by omega) hlocks ?_ hS.2.2 (Nat.le_refl _) (Nat.le_refl _)
  · intro x hx9
    rw [htab, hm] at hx9
    cases hx9
  · show 2 + 3 < R.frames
    rw [hfr] at hfr9
    omega
  · show 0 + (13 * (2 + 1) + 43) ≤ R.locals
    rw [hlr] at hlo9
    omega
  · intro t _ hz hk
    refine ⟨⟨er, rfl, rfl, z_keptP hP hk⟩, Nat.le_trans hS.1 hz, fun q h1 h2 => ?_⟩
    rw [hk q (Nat.lt_of_lt_of_le h1 hS.1)]
    exact hS.2.1 q h1 h2
/-- an exception that goes on to the caller -/
theorem z_pass {m pc er : Nat} {M : Mem} {H : Heap} {locs : List Loc} {LS : Array Slot} {rest : List Value} {ce : Cell} {q9 : Addr} (hE : z_Env p l R s mi args meth c cells slots D ad cs A b L xs sa m) (hm : z_hh m = []) {k1 s1 : Nat} (hP : va_P D vwCl (z_W ad cs M) H) (hS : va_S A s.heap H locs) (hce : H[q9]? = some ce) (hcv : ce.vm = .none) (hcl : s.vm.findClass (z_ex er) = some ce.cls) :
    vx_W p l e R s mi args below meth c H locs k1 s1 (vx_MQ below (z_Qc D ad cs A (.inr er) M) (z_XC D ad cs A (.inr er) M) args s k1 s1 A) (F0 mi pc LS rest) q9 := by
  obtain ⟨-, -, hlocks, htab⟩ := hE
  refine vx_out (E := z_ex er) (fun x hx => ?_) hlocks hce hcv hcl (fun t ht hv => ?_) hS.2.2 (Nat.le_refl _) (Nat.le_refl _)
  · rw [htab, hm] at hx
    cases hx
  · exact ⟨⟨er, rfl, rfl, by rw [ht]; exact hP⟩, hS.F ht⟩
/-- an exception that a wrapper catches -/
theorem z_caught {m pc er hp sl : Nat} {M : Mem} {ls : Lc} {H : Heap} {locs : List Loc} {LS : Array Slot} {rest : List Value} {ce : Cell} {q9 : Addr} (hm : m < 58) (hE : z_Env p l R s mi args meth c cells slots D ad cs A b L xs sa m) (hh : z_han m er = some (hp, sl)) (hcov : z_cov m pc = true) {k1 s1 : Nat} (hP : va_P D vwCl (z_W ad cs M) H) (hS : va_S A s.heap H locs) (hce : H[q9]? = some ce) (hcv : ce.vm = .none) (hcl : s.vm.findClass (z_ex er) = some ce.cls)
    (hl : lv_has LS (z_ml m) (z_asc ad 0 ls)) (hol : z_okL ls = true)
    (kk : ∀ (LS' : Array Slot), z_Pt D ad cs A s.heap m LS' (z_set (z_clr ls sl) sl none) [] M H locs → W p l e R s mi args below meth c H locs k1 s1 Q (F0 mi hp LS' [])) :
    vx_W p l e R s mi args below meth c H locs k1 s1 Q (F0 mi pc LS rest) q9 := by
  have h0 : z_han m er = none := by
    unfold z_han
    cases Nat.blt er 3 <;> rfl
  rw [h0] at hh
  cases hh
end ZD
end
section

section ZE
variable {l : Launch} {D : va_G} {ad : z_ad} {cs : Nat → ClassId} {A : Nat → Prop} {b L : Nat} {xs : Nat → Int32} {sa : Nat → Nat}
/-- what the links of a call say -/
theorem z_lnkV {m j m' w : Nat} {nb : Bool} (h : z_lnk m (.invokevirtual j) = true) (hc : z_cal (z_own m) j = some (m', nb, w)) : z_mw (z_own m) j m' nb ∈ lw_tbl ∧ z_FR m' < z_FR m ∧ 8 + (z_ml m' + 11) + z_LR m' ≤ z_LR m ∧ m' < 57 ∧ z_hh m' = [] := by
  unfold z_lnk at h
  dsimp only at h
  rw [hc] at h
  dsimp only at h
  obtain ⟨h, g5⟩ := Bool.and_eq_true_iff.mp h
  obtain ⟨h, g4⟩ := Bool.and_eq_true_iff.mp h
  obtain ⟨h, g3⟩ := Bool.and_eq_true_iff.mp h
  obtain ⟨g1, g2⟩ := Bool.and_eq_true_iff.mp h
  exact ⟨z_isW_in g1, Nat.ble_eq.mp g2, Nat.ble_eq.mp g3, Nat.ble_eq.mp g4, of_decide_eq_true g5⟩
theorem z_lnkS {m j m' w : Nat} {nb : Bool} (h : z_lnk m (.invokestatic j) = true) (hs : z_sp (z_own m) j = 0) (hc : z_cal (z_own m) j = some (m', nb, w)) : z_mw (z_own m) j m' nb ∈ lw_tbl ∧ z_FR m' < z_FR m ∧ 8 + (z_ml m' + 11) + z_LR m' ≤ z_LR m ∧ m' < 57 ∧ (nb = true → z_hh m' = []) := by
  unfold z_lnk at h
  dsimp only at h
  rw [hs] at h
  dsimp only at h
  rw [hc] at h
  dsimp only at h
  obtain ⟨h, g5⟩ := Bool.and_eq_true_iff.mp h
  obtain ⟨h, g4⟩ := Bool.and_eq_true_iff.mp h
  obtain ⟨h, g3⟩ := Bool.and_eq_true_iff.mp h
  obtain ⟨g1, g2⟩ := Bool.and_eq_true_iff.mp h
  exact ⟨z_isW_in g1, Nat.ble_eq.mp g2, Nat.ble_eq.mp g3, Nat.ble_eq.mp g4, fun e => by rw [e] at g5; exact of_decide_eq_true g5⟩
theorem z_codeW0 {m : Nat} (h : z_hh m = []) : z_codeW m = Cond.code (z_y m) (z_b m) (z_ml m) (z_ret m) := by
  unfold z_codeW
  rw [h]
theorem z_codeWh {m : Nat} {x : Nat × Nat × Nat × Nat} {t : List (Nat × Nat × Nat × Nat)} (h : z_hh m = x :: t) : z_codeW m = Cond.codeWith (z_y m) (z_b m) (z_ml m) (z_ret m) (z_hh m) := by
  unfold z_codeW
  rw [h]
theorem z_np {m n : Nat} (h : (parseMethodDescriptor (z_y m).desc).map (fun d => d.parameters.length) = some n) : ∀ sig, parseMethodDescriptor (z_y m).desc = some sig → n = sig.parameters.length := by
  intro sig hs
  rw [hs] at h
  exact (Option.some.inj h).symm
set_option maxHeartbeats 4000000 in
theorem z_snd (hAD : z_AD A ad) (hab : ad 0 41 = b) (hl : l.stackTraces = false) : ∀ n : Nat, z_Snd l D ad cs A b L xs sa n
  | 0 => fun m cf o M' k h => absurd h (fun q => q)
  | n + 1 => by
    have ih := z_snd hAD hab hl n
    intro m cf o M' k h p e R s mi args below meth c cells slots Q H locs LS hE hcell hslot hp hX hI
    obtain ⟨pc, ls, st, M⟩ := cf
    have hE0 := hE
    obtain ⟨⟨hx, hb, hml, hown, hts, hcx, -, -, hfr, hlo, hce, hsl⟩, -, hlocks, htab⟩ := hE
    have hend : ∀ (i : Instr) (t : Nat) (k0 : Int32), z_ins m pc = some (i, t, k0) → z_rOK m i o st → M' = M → k = 0 → W p l e R s mi args below meth c H locs cells slots Q (F0 mi pc LS (st.map (cv ad))) := by
      intro i t k0 hi hr hM hk
      subst hM
      subst hk
      exact hI H locs pc LS st i t k0 hi hr hp.2.2.2.1 hp.2.2.2.2
    unfold z_Ex at h
    split at h
    · -- an exception of its own
      rename_i hi
      obtain ⟨hstn, er, hthr, ho, hM, hk⟩ := h
      subst ho
      subst hM
      subst hk
      have hQ := hX er rfl
      subst hQ
      have hcx9 := hcx
      have hpn := hp
      dsimp only at hpn
      rcases z_thr_in hthr with ⟨e1, e2, e3⟩ | ⟨e1, e2, e3⟩ | ⟨e1, e2, e3⟩
      · subst e1
        subst e2
        subst e3
        exact z_throw (m := 42) (pc := 4) hl hE0 rfl rfl rfl rfl (ik := 271) (is := 273) (ic := 275) (by decide +kernel) (by decide +kernel) hcx9.2.2.2.2.1 (by decide +kernel) (by decide +kernel) (by decide +kernel) (by decide +kernel) (by decide +kernel) hstn hcell hslot hp
      · subst e1
        subst e2
        subst e3
        exact z_throw (m := 43) (pc := 4) hl hE0 rfl rfl rfl rfl (ik := 278) (is := 280) (ic := 282) (by decide +kernel) (by decide +kernel) hcx9.2.2.2.2.2.1 (by decide +kernel) (by decide +kernel) (by decide +kernel) (by decide +kernel) (by decide +kernel) hstn hcell hslot hp
      · subst e1
        subst e2
        subst e3
        exact z_throw (m := 44) (pc := 9) hl hE0 rfl rfl rfl rfl (ik := 283) (is := 285) (ic := 287) (by decide +kernel) (by decide +kernel) hcx9.2.2.2.2.2.2.1 (by decide +kernel) (by decide +kernel) (by decide +kernel) (by decide +kernel) (by decide +kernel) hstn hcell hslot hp
    · rename_i i t k0 hi
      obtain ⟨-, -, hlk⟩ := z_ins_ck hi
      obtain ⟨hmN, -⟩ := z_ins_lt hi
      split at h
      · obtain ⟨h1, h2, h3, h4, h5⟩ := h
        exact hend _ _ _ hi ⟨h1, h2, h3⟩ h4 h5
      · obtain ⟨x, h1, h2, h3, h4, h5⟩ := h
        exact hend _ _ _ hi ⟨x, h1, h2, h5⟩ h3 h4
      · obtain ⟨x, h1, h2, h3, h4, h5⟩ := h
        exact hend _ _ _ hi ⟨x, h1, h2, h5⟩ h3 h4
      · obtain ⟨x, h1, h2, h3, h4, h5⟩ := h
        exact hend _ _ _ hi ⟨x, h1, h2, h5⟩ h3 h4
      · -- a virtual call
        rename_i j
        obtain ⟨m', nb, w, as, r, o1, M1, k1, k2, hcal, hst, hstk, hlen, hrcv, h8, hex, hk, hcont⟩ := h
        obtain ⟨hw, hf1, hf2, hm', hh'⟩ := z_lnkV hlk hcal
        obtain ⟨⟨n9, hd, hn9⟩, -, -⟩ := z_ins_ck hi
        rcases hn9 with h9 | h9
        · cases h9
        subst h9
        obtain ⟨g8a, g8b⟩ := Bool.and_eq_true_iff.mp h8
        have g9 : z_sl r < 9 := Nat.ble_eq.mp g8a
        have g10 : z_sl as ≤ z_ml m' := Nat.ble_eq.mp g8b
        obtain ⟨hLS, hol, hos, hP, hS⟩ := hp
        dsimp only at hLS hol hos hP
        rw [hstk] at hos
        obtain ⟨hoa, hor⟩ := z_okS_app hos
        have hoas := z_okS_rev hoa
        have hM := z_met (l := l) ih hAD hab hl hm' hex hoas g10
        obtain ⟨hini, -, hvi, hcls, -, hmh, hnp⟩ := z_mB_use hm'
        obtain ⟨hvi1, hvi2, hna⟩ := hvi hst
        rw [hst] at hnp
        cases as with
        | nil => cases hrcv
        | cons v as' =>
        match v, hrcv with
        | .inr (.inr (.inr (f, q))), hrcv =>
        have hrc : ∃ cn n, z_obj q = some (cn, n) ∧ cn = z_own m' := by
          unfold z_rcv at hrcv
          dsimp only at hrcv
          split at hrcv
          · rename_i cn n hob
            exact ⟨cn, n, hob, Nat.eq_of_beq_eq_true hrcv⟩
          · cases hrcv
        obtain ⟨cn, nq, hob, hcn⟩ := hrc
        subst hcn
        have hv := z_okv_val (z_okS_hd hoas) (z_obj_41 hob)
        have hrec := z_recv (ad := ad) (M := M) hcx.1 hP hv hob
        have hlen' : (as'.map (cv ad)).length = z_na m' - 1 := by
          rw [List.length_map]
          have h1 : as'.length + 1 = z_na m' := hlen
          omega
        have hpv : PreV s H (z_on (z_own m')) (ad f q) (z_Pc D ad cs A b L xs sa M (.inr (.inr (.inr (f, q))) :: as')) (as'.map (cv ad)) :=
          ⟨z_blind M _, hrec, fun U hU hW => ⟨rfl, z_cx_moved hW (by rw [hU]; exact hS) hcx, by rw [hU]; exact hP⟩⟩
        have hstack : (F0 mi pc LS (st.map (cv ad))).stack = (as'.map (cv ad)).reverse ++ .ref (ad f q) :: r.map (cv ad) := by
          show st.map (cv ad) = _
          rw [hstk]
          simp [cv]
        have hroom : 2 * (F0 mi pc LS (st.map (cv ad))).monitorRoom + ((r.map (cv ad)).map fun v => v.category).sum ≤ 8 := by
          rw [z_sl_map]
          show 2 * 0 + z_sl r ≤ 8
          omega
        have hws := pay_in hts (z_ws_in hm')
        have hcw : z_codeW m' ∈ z_ws m' := List.mem_cons_self
        have hcw2 : (z_codeW m').before args s = true := hts _ (z_ws_in hm' _ hcw).1
        rw [z_codeW0 hh'] at hcw hcw2
        have hrun : vx_Run p l e R s mi args below meth c H locs cells slots k1 (6 * k1) (F0 mi pc LS (st.map (cv ad))) (r.map (cv ad)) (z_Qc D ad cs A o1 M1 (Value.ref (ad f q) :: as'.map (cv ad)).toArray) (z_XC D ad cs A o1 M1) A := by
          cases nb with
          | false =>
            refine vx_runV (C := z_on (z_own m')) (bytes := z_b m') (maxL := z_ml m') (ret := z_ret m') (ws := z_ws m') (rm := z_room m' k1) (n := z_na m' - 1) (own := z_on (z_own m)) (index := j) (y := z_y m') (nL := z_ml m) (cc := z_b m) (Ts := z_good) ⟨hx, hb, hml, hown, hts⟩ hM
              ⟨⟨rfl, rfl, ?_, ?_, hws, hcw, hcw2, hts _ hini, hmh, z_np hnp, hts _ (z_good_in hw rfl)⟩, hts _ hvi1, hts _ hvi2⟩ hpv rfl hlen' hLS.1 hstack hroom hd ⟨by omega, by omega⟩
            · show z_FR m' + 1 ≤ R.frames
              omega
            · show 8 + (z_ml m' + 11) + z_LR m' ≤ R.locals
              omega
          | true =>
            refine vx_runVN (C := z_on (z_own m')) (bytes := z_b m') (maxL := z_ml m') (ret := z_ret m') (ws := z_ws m') (rm := z_room m' k1) (n := z_na m' - 1) (own := z_on (z_own m)) (host := "IslandReserve") (index := j) (y := z_y m') (nL := z_ml m) (cc := z_b m) (Ts := z_good) ⟨hx, hb, hml, hown, hts⟩ hM
              ⟨⟨⟨rfl, rfl, ?_, ?_, hws, hcw⟩, hcw2, hts _ hini, hmh, z_np hnp, va_Nw.use rfl (hcx.2.2.2.1 _ (z_misc_in hw rfl))⟩, hts _ hvi1, hts _ hvi2⟩ hpv rfl hlen' hLS.1 hstack hroom hd ⟨by omega, by omega⟩
            · show z_FR m' + 1 ≤ R.frames
              omega
            · show 8 + (z_ml m' + 11) + z_LR m' ≤ R.locals
              omega
        have hOn : z_Env p l R s mi args meth c (cells + k1) (slots + 6 * k1) D ad cs A b L xs sa m := ⟨⟨hx, hb, hml, hown, hts, hcx, hAD, hab, hfr, hlo, by omega, by omega⟩, hl, hlocks, htab⟩
        refine z_callG hrun hS ?_ ?_
        · intro er ce q9 H1 locs1 ho1 hP1 hS1 hce9 hcv9 hcl9
          subst ho1
          rcases hcont with ⟨hh, ho, hM9, hk9⟩ | ⟨hp9, sl9, hhan, hcov, hex2⟩
          · subst ho
            subst hM9
            have hQ := hX er rfl
            have ek : cells + k1 = cells + k := by omega
            have es : slots + 6 * k1 = slots + 6 * k := by omega
            rw [hQ, ek, es]
            exact z_pass hE0 hh hP1 hS1 hce9 hcv9 hcl9
          · refine z_caught hmN hE0 hhan hcov hP1 hS1 hce9 hcv9 hcl9 hLS hol (fun LS' hp' => ?_)
            refine ih m _ o M' k2 hex2 hOn (by omega) (by omega) hp' (fun er9 ho9 => ?_) (fun H' locs' pc' LS9 st' i9 t9 k9 hi9 hr9 hP9 hS9 => ?_)
            · have hQ := hX er9 ho9
              rw [show cells + k1 + k2 = cells + k by omega, show slots + 6 * k1 + 6 * k2 = slots + 6 * k by omega]
              exact hQ
            · rw [show cells + k1 + k2 = cells + k by omega, show slots + 6 * k1 + 6 * k2 = slots + 6 * k by omega]
              exact hI H' locs' pc' LS9 st' i9 t9 k9 hi9 hr9 hP9 hS9
        · intro v9 H1 locs1 ho1 hP1 hS1
          subst ho1
          dsimp only at hcont
          have hos9 : z_okS (v9.toList ++ r) = true := by
            cases v9 with
            | none => exact hor
            | some v8 => exact z_okS_mk (z_Ex_okv _ _ _ _ _ _ hex v8 rfl) hor
          have e9 : (v9.map (cv ad)).toList ++ r.map (cv ad) = (v9.toList ++ r).map (cv ad) := by cases v9 <;> rfl
          rw [e9]
          refine ih m _ o M' k2 hcont hOn (by omega) (by omega) ⟨hLS, hol, hos9, hP1, hS1⟩ (fun er9 ho9 => ?_) (fun H' locs' pc' LS9 st' i9 t9 k9 hi9 hr9 hP9 hS9 => ?_)
          · have hQ := hX er9 ho9
            rw [show cells + k1 + k2 = cells + k by omega, show slots + 6 * k1 + 6 * k2 = slots + 6 * k by omega]
            exact hQ
          · rw [show cells + k1 + k2 = cells + k by omega, show slots + 6 * k1 + 6 * k2 = slots + 6 * k by omega]
            exact hI H' locs' pc' LS9 st' i9 t9 k9 hi9 hr9 hP9 hS9
      · -- a static call, or one with a row of its own
        rename_i j
        split at h
        · obtain ⟨c', O, h1, h2, h3⟩ := h
          exact z_st1_snd hE0.1 rfl hi h1 h2 (fun H' locs' LS' hp' => ih m c' o M' k h3 hE0 hcell hslot hp' hX hI) hp
        · rename_i hsp
          obtain ⟨m', nb, w, as, r, o1, M1, k1, k2, hcal, hst, hstk, hlen, h8, hex, hk, hcont⟩ := h
          obtain ⟨hw, hf1, hf2, hm', hh'⟩ := z_lnkS hlk hsp hcal
          obtain ⟨⟨n9, hd, hn9⟩, -, -⟩ := z_ins_ck hi
          rcases hn9 with h9 | h9
          · cases h9
          subst h9
          obtain ⟨g8a, g8b⟩ := Bool.and_eq_true_iff.mp h8
          have g9 : z_sl r < 9 := Nat.ble_eq.mp g8a
          have g10 : z_sl as ≤ z_ml m' := Nat.ble_eq.mp g8b
          obtain ⟨hLS, hol, hos, hP, hS⟩ := hp
          dsimp only at hLS hol hos hP
          rw [hstk] at hos
          obtain ⟨hoa, hor⟩ := z_okS_app hos
          have hoas := z_okS_rev hoa
          have hM := z_met (l := l) ih hAD hab hl hm' hex hoas g10
          obtain ⟨hini, hvi, -, hcls, -, hmh, hnp⟩ := z_mB_use hm'
          have hvi1 := hvi hst
          rw [hst] at hnp
          have hlen' : (as.map (cv ad)).length = z_na m' := by rw [List.length_map]; exact hlen
          have hpv : PreS s H (z_Pc D ad cs A b L xs sa M as) (as.map (cv ad)) :=
            ⟨z_blind M _, fun U hU hW => ⟨rfl, z_cx_moved hW (by rw [hU]; exact hS) hcx, by rw [hU]; exact hP⟩⟩
          have hstack : (F0 mi pc LS (st.map (cv ad))).stack = (as.map (cv ad)).reverse ++ r.map (cv ad) := by
            show st.map (cv ad) = _
            rw [hstk]
            simp
          have hroom : 2 * (F0 mi pc LS (st.map (cv ad))).monitorRoom + ((r.map (cv ad)).map fun v => v.category).sum ≤ 8 := by
            rw [z_sl_map]
            show 2 * 0 + z_sl r ≤ 8
            omega
          have hws := pay_in hts (z_ws_in hm')
          have hcw : z_codeW m' ∈ z_ws m' := List.mem_cons_self
          have hcw2 : (z_codeW m').before args s = true := hts _ (z_ws_in hm' _ hcw).1
          have hrun : vx_Run p l e R s mi args below meth c H locs cells slots k1 (6 * k1) (F0 mi pc LS (st.map (cv ad))) (r.map (cv ad)) (z_Qc D ad cs A o1 M1 (as.map (cv ad)).toArray) (z_XC D ad cs A o1 M1) A := by
            cases hhh : z_hh m' with
            | nil =>
              rw [z_codeW0 hhh] at hcw hcw2
              cases nb with
              | false =>
                refine vx_runS (bytes := z_b m') (maxL := z_ml m') (ret := z_ret m') (ws := z_ws m') (rm := z_room m' k1) (n := z_na m') (own := z_on (z_own m)) (index := j) (y := z_y m') (nL := z_ml m) (cc := z_b m) (Ts := z_good) ⟨hx, hb, hml, hown, hts⟩ hM
                  ⟨⟨rfl, rfl, ?_, ?_, hws, hcw, hcw2, hts _ hini, hmh, z_np hnp, hts _ (z_good_in hw rfl)⟩, hts _ hvi1⟩ hpv rfl hlen' hLS.1 hstack hroom hd ⟨by omega, by omega⟩
                · show z_FR m' + 1 ≤ R.frames
                  omega
                · show 8 + (z_ml m' + 11) + z_LR m' ≤ R.locals
                  omega
              | true =>
                refine vx_runSN (bytes := z_b m') (maxL := z_ml m') (ret := z_ret m') (ws := z_ws m') (rm := z_room m' k1) (n := z_na m') (own := z_on (z_own m)) (host := "IslandReserve") (index := j) (y := z_y m') (nL := z_ml m) (cc := z_b m) (Ts := z_good) ⟨hx, hb, hml, hown, hts⟩ hM
                  ⟨⟨⟨rfl, rfl, ?_, ?_, hws, hcw⟩, hcw2, hts _ hini, hmh, z_np hnp, va_Nw.use rfl (hcx.2.2.2.1 _ (z_misc_in hw rfl))⟩, hts _ hvi1, trivial⟩ hpv rfl hlen' hLS.1 hstack hroom hd ⟨by omega, by omega⟩
                · show z_FR m' + 1 ≤ R.frames
                  omega
                · show 8 + (z_ml m' + 11) + z_LR m' ≤ R.locals
                  omega
            | cons x9 t9 =>
              rw [z_codeWh hhh] at hcw hcw2
              cases nb with
              | true =>
                rw [hh' rfl] at hhh
                cases hhh
              | false =>
                refine vx_runSX (hh := z_hh m') (bytes := z_b m') (maxL := z_ml m') (ret := z_ret m') (ws := z_ws m') (rm := z_room m' k1) (n := z_na m') (own := z_on (z_own m)) (index := j) (y := z_y m') (nL := z_ml m) (cc := z_b m) (Ts := z_good) ⟨hx, hb, hml, hown, hts⟩ hM
                  ⟨⟨rfl, rfl, ?_, ?_, hws, hcw⟩, hcw2, hts _ hini, hmh, z_np hnp, hts _ (z_good_in hw rfl), hts _ hvi1⟩ hpv rfl hlen' hLS.1 hstack hroom hd ⟨by omega, by omega⟩
                · show z_FR m' + 1 ≤ R.frames
                  omega
                · show 8 + (z_ml m' + 11) + z_LR m' ≤ R.locals
                  omega
          have hOn : z_Env p l R s mi args meth c (cells + k1) (slots + 6 * k1) D ad cs A b L xs sa m := ⟨⟨hx, hb, hml, hown, hts, hcx, hAD, hab, hfr, hlo, by omega, by omega⟩, hl, hlocks, htab⟩
          refine z_callG hrun hS ?_ ?_
          · intro er ce q9 H1 locs1 ho1 hP1 hS1 hce9 hcv9 hcl9
            subst ho1
            obtain ⟨hh, ho, hM9, hk9⟩ := hcont
            subst ho
            subst hM9
            have hQ := hX er rfl
            have ek : cells + k1 = cells + k := by omega
            have es : slots + 6 * k1 = slots + 6 * k := by omega
            rw [hQ, ek, es]
            exact z_pass hE0 hh hP1 hS1 hce9 hcv9 hcl9
          · intro v9 H1 locs1 ho1 hP1 hS1
            subst ho1
            dsimp only at hcont
            have hos9 : z_okS (v9.toList ++ r) = true := by
              cases v9 with
              | none => exact hor
              | some v8 => exact z_okS_mk (z_Ex_okv _ _ _ _ _ _ hex v8 rfl) hor
            have e9 : (v9.map (cv ad)).toList ++ r.map (cv ad) = (v9.toList ++ r).map (cv ad) := by cases v9 <;> rfl
            rw [e9]
            refine ih m _ o M' k2 hcont hOn (by omega) (by omega) ⟨hLS, hol, hos9, hP1, hS1⟩ (fun er9 ho9 => ?_) (fun H' locs' pc' LS9 st' i9 t9 k9 hi9 hr9 hP9 hS9 => ?_)
            · have hQ := hX er9 ho9
              rw [show cells + k1 + k2 = cells + k by omega, show slots + 6 * k1 + 6 * k2 = slots + 6 * k by omega]
              exact hQ
            · rw [show cells + k1 + k2 = cells + k by omega, show slots + 6 * k1 + 6 * k2 = slots + 6 * k by omega]
              exact hI H' locs' pc' LS9 st' i9 t9 k9 hi9 hr9 hP9 hS9
      · obtain ⟨c', O, h1, h2, h3⟩ := h
        exact z_st1_snd hE0.1 rfl hi h1 h2 (fun H' locs' LS' hp' => ih m c' o M' k h3 hE0 hcell hslot hp' hX hI) hp
end ZE
end
section
/-! RUNS, BY PIECES -/
/-- m comes from the point c to its end, with the answer o, the memory M', and k exceptions made -/
def z_Ev (xs : Nat → Int32) (L m : Nat) (c : Cf) (o : z_Rs) (M' : Mem) (k : Nat) : Prop := ∃ n, z_Ex xs L n m c o M' k
/-- a call of m with the arguments as -/
def z_Mt (xs : Nat → Int32) (L m : Nat) (as : List AV) (M : Mem) (o : z_Rs) (M' : Mem) (k : Nat) : Prop := z_Ev xs L m (0, z_pad (z_ml m) (z_entL as), [], M) o M' k
section EV
variable {xs : Nat → Int32} {L : Nat}
theorem z_Ex_mono : ∀ (n m : Nat) (c : Cf) (o : z_Rs) (M' : Mem) (k : Nat), z_Ex xs L n m c o M' k → z_Ex xs L (n + 1) m c o M' k
  | 0, _, _, _, _, _, h => absurd h (fun q => q)
  | n + 1, m, (pc, ls, st, M), o, M', k, h => by
    unfold z_Ex at h ⊢
    cases hi : z_ins m pc with
    | none => rw [hi] at h; exact h
    | some x =>
      obtain ⟨i, t, k0⟩ := x
      rw [hi] at h
      dsimp only at h ⊢
      split at h
      · exact h
      · exact h
      · exact h
      · exact h
      · obtain ⟨m', b, w, as, r, o1, M1, k1, k2, g1, g2, g3, g4, g5, g6, g7, g8, g9⟩ := h
        refine ⟨m', b, w, as, r, o1, M1, k1, k2, g1, g2, g3, g4, g5, g6, z_Ex_mono n _ _ _ _ _ g7, g8, ?_⟩
        cases o1 with
        | inl v => exact z_Ex_mono n _ _ _ _ _ g9
        | inr e =>
          rcases g9 with g9 | ⟨h1, s1, q1, q2, q3⟩
          · exact Or.inl g9
          · exact Or.inr ⟨h1, s1, q1, q2, z_Ex_mono n _ _ _ _ _ q3⟩
      · split at h
        · obtain ⟨c', O, g1, g2, g3⟩ := h
          exact ⟨c', O, g1, g2, z_Ex_mono n _ _ _ _ _ g3⟩
        · obtain ⟨m', b, w, as, r, o1, M1, k1, k2, g1, g2, g3, g4, g5, g6, g7, g8⟩ := h
          refine ⟨m', b, w, as, r, o1, M1, k1, k2, g1, g2, g3, g4, g5, z_Ex_mono n _ _ _ _ _ g6, g7, ?_⟩
          cases o1 with
          | inl v => exact z_Ex_mono n _ _ _ _ _ g8
          | inr e => exact g8
      · rename_i n1 n2 n3 n4 n5 n6
        obtain ⟨c', O, g1, g2, g3⟩ := h
        have hh : ∃ c' O, z_st1 xs L (z_own m) i t k0 pc ls st M = some (c', O) ∧ z_all O ∧ z_Ex xs L (n + 1) m c' o M' k := ⟨c', O, g1, g2, z_Ex_mono n _ _ _ _ _ g3⟩
        cases i <;> first | exact hh | exact absurd rfl (by assumption) | exact absurd rfl (n5 _) | exact absurd rfl (n6 _)
theorem z_Ex_le {n n' m : Nat} {c : Cf} {o : z_Rs} {M' : Mem} {k : Nat} (h : z_Ex xs L n m c o M' k) (hn : n ≤ n') : z_Ex xs L n' m c o M' k := by
  obtain ⟨d, rfl⟩ := Nat.le.dest hn
  induction d with
  | zero => exact h
  | succ d ih => exact z_Ex_mono _ _ _ _ _ _ (ih (Nat.le_add_right _ _))
/-- one step -/
theorem z_Ev_st {m pc t : Nat} {i : Instr} {k0 : Int32} {ls : Lc} {st : List AV} {M : Mem} {c' : Cf} {O : List Prop} {o : z_Rs} {M' : Mem} {k : Nat} (hi : z_ins m pc = some (i, t, k0)) (h : z_st1 xs L (z_own m) i t k0 pc ls st M = some (c', O)) (hO : z_all O) (hk : z_Ev xs L m c' o M' k) : z_Ev xs L m (pc, ls, st, M) o M' k := by
  obtain ⟨n, hn⟩ := hk
  refine ⟨n + 1, ?_⟩
  unfold z_Ex
  rw [hi]
  dsimp only
  have hh : ∃ c' O, z_st1 xs L (z_own m) i t k0 pc ls st M = some (c', O) ∧ z_all O ∧ z_Ex xs L n m c' o M' k := ⟨c', O, h, hO, hn⟩
  cases i with
  | return_ => cases h
  | ireturn => cases h
  | lreturn => cases h
  | dreturn => cases h
  | invokevirtual j => cases h
  | invokestatic j =>
    dsimp only
    split
    · exact hh
    · rename_i hs
      dsimp only [z_st1] at h
      rw [hs] at h
      cases h
  | _ => exact hh
theorem z_all_app : ∀ {a b : List Prop}, z_all (a ++ b) → z_all a ∧ z_all b
  | [], b, h => ⟨trivial, h⟩
  | x :: t, b, h => by
    have h' : x ∧ z_all (t ++ b) := h
    obtain ⟨h1, h2⟩ := z_all_app (a := t) h'.2
    exact ⟨⟨h'.1, h1⟩, h2⟩
/-- a stretch without calls -/
theorem z_Ev_blk {m : Nat} : ∀ (n : Nat) {c c' : Cf} {O : List Prop} {o : z_Rs} {M' : Mem} {k : Nat}, z_blk xs L m n c = some (c', O) → z_all O → z_Ev xs L m c' o M' k → z_Ev xs L m c o M' k
  | 0, c, c', O, o, M', k, h, _, hk => by
    cases h
    exact hk
  | n + 1, (pc, ls, st, M), c', O, o, M', k, h, hO, hk => by
    unfold z_blk at h
    split at h
    · cases h
    · rename_i i t k0 hi
      split at h
      · cases h
      · rename_i c1 O1 h1
        split at h
        · cases h
        · rename_i c2 O2 h2
          cases h
          obtain ⟨a1, a2⟩ := z_all_app hO
          exact z_Ev_st hi h1 a1 (z_Ev_blk n h2 a2 hk)
theorem z_Ev_ite {m a b : Nat} {P : Prop} [Decidable P] {r : Lc × List AV × Mem} {o : z_Rs} {M' : Mem} {k : Nat} (h1 : P → z_Ev xs L m (a, r) o M' k) (h2 : ¬ P → z_Ev xs L m (b, r) o M' k) : z_Ev xs L m (if P then a else b, r) o M' k := by
  by_cases h : P
  · rw [if_pos h]; exact h1 h
  · rw [if_neg h]; exact h2 h
theorem z_Ev_if {m a b : Nat} {P : Prop} [Decidable P] {r : Lc × List AV × Mem} {o : z_Rs} {M' : Mem} {k : Nat} (h : P) (h1 : z_Ev xs L m (a, r) o M' k) : z_Ev xs L m (if P then a else b, r) o M' k := by
  rw [if_pos h]; exact h1
theorem z_Ev_else {m a b : Nat} {P : Prop} [Decidable P] {r : Lc × List AV × Mem} {o : z_Rs} {M' : Mem} {k : Nat} (h : ¬ P) (h1 : z_Ev xs L m (b, r) o M' k) : z_Ev xs L m (if P then a else b, r) o M' k := by
  rw [if_neg h]; exact h1
/-- does m at pc call m' -/
def z_isC (m pc m' : Nat) (as r : List AV) : Bool := match z_ins m pc with
  | some (.invokevirtual j, _, _) => (match z_cal (z_own m) j with
    | some (m2, _, _) => Nat.beq m2 m' && !(z_stc m')
    | none => false) && z_rcv m' as && Nat.beq as.length (z_na m') && z_cal8 m' as r
  | some (.invokestatic j, _, _) => Nat.beq (z_sp (z_own m) j) 0 && (match z_cal (z_own m) j with
    | some (m2, _, _) => Nat.beq m2 m' && z_stc m'
    | none => false) && Nat.beq as.length (z_na m') && z_cal8 m' as r
  | _ => false
theorem z_Ev_call {m pc m' : Nat} {as r : List AV} {ls : Lc} {st : List AV} {M M1 : Mem} {v : Option AV} {o : z_Rs} {M' : Mem} {k1 k2 : Nat} (hM : z_Mt xs L m' as M (.inl v) M1 k1) (hc : z_isC m pc m' as r = true) (hst : st = as.reverse ++ r) (hk : z_Ev xs L m (pc + 3, ls, v.toList ++ r, M1) o M' k2) : z_Ev xs L m (pc, ls, st, M) o M' (k1 + k2) := by
  obtain ⟨n1, hn1⟩ := hM
  obtain ⟨n2, hn2⟩ := hk
  have e1 := z_Ex_le hn1 (Nat.le_max_left n1 n2)
  have e2 := z_Ex_le hn2 (Nat.le_max_right n1 n2)
  refine ⟨max n1 n2 + 1, ?_⟩
  unfold z_isC at hc
  unfold z_Ex
  split at hc
  · rename_i j t k0 hi
    rw [hi]
    obtain ⟨hc, c4⟩ := Bool.and_eq_true_iff.mp hc
    obtain ⟨hc, c3⟩ := Bool.and_eq_true_iff.mp hc
    obtain ⟨c1, c2⟩ := Bool.and_eq_true_iff.mp hc
    split at c1
    · rename_i m2 b w hcal
      obtain ⟨g1, g2⟩ := Bool.and_eq_true_iff.mp c1
      have e := Nat.eq_of_beq_eq_true g1
      subst e
      exact ⟨m2, b, w, as, r, .inl v, M1, k1, k2, hcal, by simpa using g2, hst, Nat.eq_of_beq_eq_true c3, c2, c4, e1, rfl, e2⟩
    · cases c1
  · rename_i j t k0 hi
    rw [hi]
    obtain ⟨hc, c4⟩ := Bool.and_eq_true_iff.mp hc
    obtain ⟨hc, c3⟩ := Bool.and_eq_true_iff.mp hc
    obtain ⟨c0, c1⟩ := Bool.and_eq_true_iff.mp hc
    have hs := Nat.eq_of_beq_eq_true c0
    split at c1
    · rename_i m2 b w hcal
      obtain ⟨g1, g2⟩ := Bool.and_eq_true_iff.mp c1
      have e := Nat.eq_of_beq_eq_true g1
      subst e
      dsimp only
      rw [hs]
      exact ⟨m2, b, w, as, r, .inl v, M1, k1, k2, hcal, g2, hst, Nat.eq_of_beq_eq_true c3, c4, e1, rfl, e2⟩
    · cases c1
  · cases hc
theorem z_Ev_call0 {m pc m' : Nat} {as r : List AV} {ls : Lc} {st : List AV} {M M1 : Mem} {v : Option AV} {o : z_Rs} {M' : Mem} {k : Nat} (hM : z_Mt xs L m' as M (.inl v) M1 0) (hc : z_isC m pc m' as r = true) (hst : st = as.reverse ++ r) (hk : z_Ev xs L m (pc + 3, ls, v.toList ++ r, M1) o M' k) : z_Ev xs L m (pc, ls, st, M) o M' k := by
  have h := z_Ev_call hM hc hst hk
  rw [Nat.zero_add] at h
  exact h
/-- a callee throws, and m has no handler -/
theorem z_Ev_thru {m pc m' e : Nat} {as r : List AV} {ls : Lc} {st : List AV} {M M1 : Mem} {k1 : Nat} (hM : z_Mt xs L m' as M (.inr e) M1 k1) (hc : z_isC m pc m' as r = true) (hst : st = as.reverse ++ r) (hh : z_hh m = []) : z_Ev xs L m (pc, ls, st, M) (.inr e) M1 k1 := by
  obtain ⟨n1, e1⟩ := hM
  refine ⟨n1 + 1, ?_⟩
  unfold z_isC at hc
  unfold z_Ex
  split at hc
  · rename_i j t k0 hi
    rw [hi]
    obtain ⟨hc, c4⟩ := Bool.and_eq_true_iff.mp hc
    obtain ⟨hc, c3⟩ := Bool.and_eq_true_iff.mp hc
    obtain ⟨c1, c2⟩ := Bool.and_eq_true_iff.mp hc
    split at c1
    · rename_i m2 b w hcal
      obtain ⟨g1, g2⟩ := Bool.and_eq_true_iff.mp c1
      have e := Nat.eq_of_beq_eq_true g1
      subst e
      exact ⟨m2, b, w, as, r, .inr _, M1, k1, 0, hcal, by simpa using g2, hst, Nat.eq_of_beq_eq_true c3, c2, c4, e1, rfl, Or.inl ⟨hh, rfl, rfl, rfl⟩⟩
    · cases c1
  · rename_i j t k0 hi
    rw [hi]
    obtain ⟨hc, c4⟩ := Bool.and_eq_true_iff.mp hc
    obtain ⟨hc, c3⟩ := Bool.and_eq_true_iff.mp hc
    obtain ⟨c0, c1⟩ := Bool.and_eq_true_iff.mp hc
    have hs := Nat.eq_of_beq_eq_true c0
    split at c1
    · rename_i m2 b w hcal
      obtain ⟨g1, g2⟩ := Bool.and_eq_true_iff.mp c1
      have e := Nat.eq_of_beq_eq_true g1
      subst e
      dsimp only
      rw [hs]
      exact ⟨m2, b, w, as, r, .inr _, M1, k1, 0, hcal, g2, hst, Nat.eq_of_beq_eq_true c3, c4, e1, rfl, ⟨hh, rfl, rfl, rfl⟩⟩
    · cases c1
  · cases hc
/-- a callee throws, and m catches -/
theorem z_Ev_catch {m pc m' e h s : Nat} {as r : List AV} {ls : Lc} {st : List AV} {M M1 : Mem} {o : z_Rs} {M' : Mem} {k1 k2 : Nat} (hM : z_Mt xs L m' as M (.inr e) M1 k1) (hc : z_isC m pc m' as r = true) (hv : z_stc m' = false) (hst : st = as.reverse ++ r) (hh : z_han m e = some (h, s)) (hcv : z_cov m pc = true) (hk : z_Ev xs L m (h, z_set (z_clr ls s) s none, [], M1) o M' k2) : z_Ev xs L m (pc, ls, st, M) o M' (k1 + k2) := by
  obtain ⟨n1, hn1⟩ := hM
  obtain ⟨n2, hn2⟩ := hk
  have e1 := z_Ex_le hn1 (Nat.le_max_left n1 n2)
  have e2 := z_Ex_le hn2 (Nat.le_max_right n1 n2)
  refine ⟨max n1 n2 + 1, ?_⟩
  unfold z_isC at hc
  unfold z_Ex
  split at hc
  · rename_i j t k0 hi
    rw [hi]
    obtain ⟨hc, c4⟩ := Bool.and_eq_true_iff.mp hc
    obtain ⟨hc, c3⟩ := Bool.and_eq_true_iff.mp hc
    obtain ⟨c1, c2⟩ := Bool.and_eq_true_iff.mp hc
    split at c1
    · rename_i m2 b w hcal
      obtain ⟨g1, g2⟩ := Bool.and_eq_true_iff.mp c1
      have e := Nat.eq_of_beq_eq_true g1
      subst e
      exact ⟨m2, b, w, as, r, .inr _, M1, k1, k2, hcal, by simpa using g2, hst, Nat.eq_of_beq_eq_true c3, c2, c4, e1, rfl, Or.inr ⟨h, s, hh, hcv, e2⟩⟩
    · cases c1
  · obtain ⟨hc, c4⟩ := Bool.and_eq_true_iff.mp hc
    obtain ⟨hc, c3⟩ := Bool.and_eq_true_iff.mp hc
    obtain ⟨c0, c1⟩ := Bool.and_eq_true_iff.mp hc
    split at c1
    · obtain ⟨g1, g2⟩ := Bool.and_eq_true_iff.mp c1
      have e := Nat.eq_of_beq_eq_true g1
      subst e
      rw [hv] at g2
      cases g2
    · cases c1
  · cases hc
def z_isR (m pc : Nat) (i : Instr) : Bool := match z_ins m pc with
  | some (j, _, _) => decide (j = i)
  | none => false
theorem z_isR_use {m pc : Nat} {i : Instr} (h : z_isR m pc i = true) : ∃ t k0, z_ins m pc = some (i, t, k0) := by
  unfold z_isR at h
  split at h
  · rename_i j t k0 hj
    have e := of_decide_eq_true h
    subst e
    exact ⟨t, k0, hj⟩
  · cases h
theorem z_Ev_iret {m pc : Nat} {ls : Lc} {x : Int32} {M : Mem} (h : z_isR m pc .ireturn = true) (hr : z_rt m = 1) : z_Ev xs L m (pc, ls, [.inl x], M) (.inl (some (.inl x))) M 0 := by
  obtain ⟨t, k0, hi⟩ := z_isR_use h
  refine ⟨1, ?_⟩
  unfold z_Ex
  rw [hi]
  exact ⟨x, rfl, rfl, rfl, rfl, Or.inl hr⟩
theorem z_Ev_zret {m pc : Nat} {ls : Lc} {x : Int32} {M : Mem} (h : z_isR m pc .ireturn = true) (hr : z_rt m = 2) (hx : z_isB x = true) : z_Ev xs L m (pc, ls, [.inl x], M) (.inl (some (.inl x))) M 0 := by
  obtain ⟨t, k0, hi⟩ := z_isR_use h
  refine ⟨1, ?_⟩
  unfold z_Ex
  rw [hi]
  exact ⟨x, rfl, rfl, rfl, rfl, Or.inr ⟨hr, hx⟩⟩
theorem z_Ev_lret {m pc : Nat} {ls : Lc} {x : Int64} {M : Mem} (h : z_isR m pc .lreturn = true) (hr : z_rt m = 3) : z_Ev xs L m (pc, ls, [.inr (.inl x)], M) (.inl (some (.inr (.inl x)))) M 0 := by
  obtain ⟨t, k0, hi⟩ := z_isR_use h
  refine ⟨1, ?_⟩
  unfold z_Ex
  rw [hi]
  exact ⟨x, rfl, rfl, rfl, rfl, hr⟩
theorem z_Ev_dret {m pc : Nat} {ls : Lc} {x : UInt64} {M : Mem} (h : z_isR m pc .dreturn = true) (hr : z_rt m = 4) : z_Ev xs L m (pc, ls, [.inr (.inr (.inl x))], M) (.inl (some (.inr (.inr (.inl x))))) M 0 := by
  obtain ⟨t, k0, hi⟩ := z_isR_use h
  refine ⟨1, ?_⟩
  unfold z_Ex
  rw [hi]
  exact ⟨x, rfl, rfl, rfl, rfl, hr⟩
theorem z_Ev_vret {m pc : Nat} {ls : Lc} {M : Mem} (h : z_isR m pc .return_ = true) (hr : z_rt m = 0) : z_Ev xs L m (pc, ls, [], M) (.inl none) M 0 := by
  obtain ⟨t, k0, hi⟩ := z_isR_use h
  refine ⟨1, ?_⟩
  unfold z_Ex
  rw [hi]
  exact ⟨hr, rfl, rfl, rfl, rfl⟩
theorem z_Ev_throw {m pc e : Nat} {ls : Lc} {M : Mem} (hi : z_ins m pc = none) (ht : z_thr m pc = some e) : z_Ev xs L m (pc, ls, [], M) (.inr e) M 1 := by
  refine ⟨1, ?_⟩
  unfold z_Ex
  rw [hi]
  exact ⟨rfl, e, ht, rfl, rfl, rfl⟩
theorem z_Ev_iretE {m pc : Nat} {ls : Lc} {x y : Int32} {M M' : Mem} (h : z_isR m pc .ireturn = true) (hr : z_rt m = 1) (e : x = y) (eM : M = M') : z_Ev xs L m (pc, ls, [.inl x], M) (.inl (some (.inl y))) M' 0 := by
  subst e; subst eM
  exact z_Ev_iret h hr
theorem z_Ev_zretE {m pc : Nat} {ls : Lc} {x y : Int32} {M M' : Mem} (h : z_isR m pc .ireturn = true) (hr : z_rt m = 2) (hx : z_isB x = true) (e : x = y) (eM : M = M') : z_Ev xs L m (pc, ls, [.inl x], M) (.inl (some (.inl y))) M' 0 := by
  subst e; subst eM
  exact z_Ev_zret h hr hx
theorem z_Ev_lretE {m pc : Nat} {ls : Lc} {x y : Int64} {M M' : Mem} (h : z_isR m pc .lreturn = true) (hr : z_rt m = 3) (e : x = y) (eM : M = M') : z_Ev xs L m (pc, ls, [.inr (.inl x)], M) (.inl (some (.inr (.inl y)))) M' 0 := by
  subst e; subst eM
  exact z_Ev_lret h hr
theorem z_Ev_dretE {m pc : Nat} {ls : Lc} {x y : UInt64} {M M' : Mem} (h : z_isR m pc .dreturn = true) (hr : z_rt m = 4) (e : x = y) (eM : M = M') : z_Ev xs L m (pc, ls, [.inr (.inr (.inl x))], M) (.inl (some (.inr (.inr (.inl y))))) M' 0 := by
  subst e; subst eM
  exact z_Ev_dret h hr
theorem z_Ev_vretE {m pc : Nat} {ls : Lc} {M M' : Mem} (h : z_isR m pc .return_ = true) (hr : z_rt m = 0) (eM : M = M') : z_Ev xs L m (pc, ls, [], M) (.inl none) M' 0 := by
  subst eM
  exact z_Ev_vret h hr
end EV
end
section
/-! LOCALS MAY BE FORGOTTEN -/
def z_R (a b : Lc) : Prop := a.length = b.length ∧ ∀ k v, z_get a k = some v → z_get b k = some v
theorem z_set_len : ∀ (l : Lc) (k : Nat) (o : Option AV), (z_set l k o).length = l.length
  | [], _, _ => rfl
  | _ :: t, 0, _ => rfl
  | _ :: t, k + 1, o => by
    show (z_set t k o).length + 1 = t.length + 1
    rw [z_set_len t k o]
theorem z_get_len : ∀ (l : Lc) (k : Nat) (v : AV), z_get l k = some v → k < l.length
  | x :: t, 0, _, _ => Nat.succ_pos _
  | x :: t, k + 1, v, h => Nat.succ_lt_succ (z_get_len t k v h)
theorem z_get_same : ∀ (l : Lc) (k : Nat) (o : Option AV), k < l.length → z_get (z_set l k o) k = o
  | x :: t, 0, o, _ => rfl
  | x :: t, k + 1, o, h => z_get_same t k o (Nat.lt_of_succ_lt_succ h)
theorem z_get_other : ∀ (l : Lc) (k j : Nat) (o : Option AV), j ≠ k → z_get (z_set l k o) j = z_get l j
  | [], _, _, _, _ => rfl
  | x :: t, 0, 0, _, h => absurd rfl h
  | x :: t, 0, j + 1, _, _ => rfl
  | x :: t, k + 1, 0, _, _ => rfl
  | x :: t, k + 1, j + 1, o, h => z_get_other t k j o (fun e => h (by rw [e]))
theorem z_R_set {a b : Lc} (h : z_R a b) (k : Nat) (o : Option AV) : z_R (z_set a k o) (z_set b k o) := by
  refine ⟨by rw [z_set_len, z_set_len, h.1], fun j v hj => ?_⟩
  rcases z_get_set _ _ _ _ _ hj with ⟨e1, e2⟩ | ⟨e1, e2⟩
  · subst e1
    have hl := z_get_len _ _ _ hj
    rw [z_set_len, h.1] at hl
    rw [z_get_same _ _ _ hl, e2]
  · rw [z_get_other _ _ _ _ e1]
    exact h.2 j v e2
theorem z_R_none {a b : Lc} (h : z_R a b) (k : Nat) (hk : ∀ v, z_get a k = some v → False) : z_R a (z_set b k none) := by
  refine ⟨by rw [z_set_len, h.1], fun j v hj => ?_⟩
  by_cases e : j = k
  · subst e
    exact absurd hj (fun q => hk v q)
  · rw [z_get_other _ _ _ _ e]
    exact h.2 j v hj
theorem z_R_clr {a b : Lc} (h : z_R a b) (k : Nat) : z_R (z_clr a k) (z_clr b k) := by
  cases k with
  | zero => exact h
  | succ k =>
    unfold z_clr
    dsimp only
    cases ha : z_get a k with
    | some v =>
      rw [h.2 k v ha]
      dsimp only
      cases z_cat2 v
      · exact h
      · exact z_R_set h k none
    | none =>
      dsimp only
      cases hb : z_get b k with
      | none => exact h
      | some w =>
        dsimp only
        cases z_cat2 w
        · exact h
        · exact z_R_none h k (fun v hv => by rw [ha] at hv; cases hv)
theorem z_R_1 {a b : Lc} (h : z_R a b) (k : Nat) (v : AV) : z_R (z_st1w a k v) (z_st1w b k v) := z_R_set (z_R_clr h k) k _
theorem z_R_2 {a b : Lc} (h : z_R a b) (k : Nat) (v : AV) : z_R (z_st2w a k v) (z_st2w b k v) := z_R_set (z_R_set (z_R_clr h k) k _) _ _
theorem z_R_st1 {xs : Nat → Int32} {L o t pc : Nat} {i : Instr} {k0 : Int32} {a b : Lc} {st : List AV} {M : Mem} {c' : Cf} {O : List Prop} (hR : z_R a b) (h : z_st1 xs L o i t k0 pc a st M = some (c', O)) : ∃ l, z_st1 xs L o i t k0 pc b st M = some ((c'.1, l, c'.2.2), O) ∧ z_R c'.2.1 l := by
  cases i <;> first
    | (dsimp only [z_st1] at h ⊢; cases h; done)
    | (dsimp only [z_st1] at h ⊢; cases h; exact ⟨_, rfl, hR⟩)
    | (dsimp only [z_st1] at h ⊢
       split at h
       · rename_i hg
         cases h
         rw [hR.2 _ _ hg]
         exact ⟨_, rfl, hR⟩
       · cases h)
    | (dsimp only [z_st1] at h ⊢
       split at h
       · rename_i hg
         cases h
         rw [hR.2 _ _ hg]
         exact ⟨_, rfl, z_R_1 hR _ _⟩
       · cases h)
    | (dsimp only [z_st1] at h ⊢
       split at h
       · cases h
         first
           | exact ⟨_, rfl, hR⟩
           | exact ⟨_, rfl, z_R_1 hR _ _⟩
           | exact ⟨_, rfl, z_R_2 hR _ _⟩
       · cases h)
    | (dsimp only [z_st1, z_nf2] at h ⊢
       split at h
       · cases h
         exact ⟨_, rfl, hR⟩
       · cases h)
    | (dsimp only [z_st1] at h ⊢
       try simp only [cond_eq_ite] at h ⊢
       (repeat' split at h) <;> first
         | (cases h; done)
         | (cases h; exact ⟨_, rfl, hR⟩)
         | (cases h; refine ⟨_, ?_, hR⟩; simp only [*, if_true, ite_true]; done)
         | (cases h; refine ⟨_, ?_, hR⟩; simp [*]; done)
         | (cases h; refine ⟨_, ?_, hR⟩; simp_all; done)
         | (cases h; refine ⟨_, ?_, hR⟩; simp_all; intro q; exact absurd q (Int32.not_lt.mpr (by assumption)))
         | (cases h; refine ⟨_, ?_, hR⟩; rw [if_pos (by assumption)]; done)
         | (cases h; refine ⟨_, ?_, hR⟩; rw [if_pos (by assumption), if_pos (by assumption)]; done)
         | (cases h; refine ⟨_, ?_, hR⟩; rw [if_pos (by assumption), if_neg (by assumption)]; done))
theorem z_Ex_wk {xs : Nat → Int32} {L : Nat} : ∀ (n m pc : Nat) (a b : Lc) (st : List AV) (M : Mem) (o : z_Rs) (M' : Mem) (k : Nat), z_R a b → z_Ex xs L n m (pc, a, st, M) o M' k → z_Ex xs L n m (pc, b, st, M) o M' k
  | 0, _, _, _, _, _, _, _, _, _, _, h => absurd h (fun q => q)
  | n + 1, m, pc, a, b, st, M, o, M', k, hR, h => by
    unfold z_Ex at h ⊢
    cases hi : z_ins m pc with
    | none => rw [hi] at h; exact h
    | some x =>
      obtain ⟨i, t, k0⟩ := x
      rw [hi] at h
      dsimp only at h ⊢
      have stp : (∃ c' O, z_st1 xs L (z_own m) i t k0 pc a st M = some (c', O) ∧ z_all O ∧ z_Ex xs L n m c' o M' k) → ∃ c' O, z_st1 xs L (z_own m) i t k0 pc b st M = some (c', O) ∧ z_all O ∧ z_Ex xs L n m c' o M' k := by
        rintro ⟨⟨q1, q2, q3, q4⟩, O, g1, g2, g3⟩
        obtain ⟨l, e1, e2⟩ := z_R_st1 hR g1
        exact ⟨_, O, e1, g2, z_Ex_wk n _ _ _ _ _ _ _ _ _ e2 g3⟩
      split at h
      · exact h
      · exact h
      · exact h
      · exact h
      · obtain ⟨m', b', w, as, r, o1, M1, k1, k2, g1, g2, g3, g4, g5, g6, g7, g8, g9⟩ := h
        refine ⟨m', b', w, as, r, o1, M1, k1, k2, g1, g2, g3, g4, g5, g6, g7, g8, ?_⟩
        cases o1 with
        | inl v => exact z_Ex_wk n _ _ _ _ _ _ _ _ _ hR g9
        | inr e =>
          rcases g9 with g9 | ⟨h1, s1, q1, q2, q3⟩
          · exact Or.inl g9
          · exact Or.inr ⟨h1, s1, q1, q2, z_Ex_wk n _ _ _ _ _ _ _ _ _ (z_R_set (z_R_clr hR _) _ _) q3⟩
      · split at h
        · exact stp h
        · obtain ⟨m', b', w, as, r, o1, M1, k1, k2, g1, g2, g3, g4, g5, g6, g7, g8⟩ := h
          refine ⟨m', b', w, as, r, o1, M1, k1, k2, g1, g2, g3, g4, g5, g6, g7, ?_⟩
          cases o1 with
          | inl v => exact z_Ex_wk n _ _ _ _ _ _ _ _ _ hR g8
          | inr e => exact g8
      · rename_i n1 n2 n3 n4 n5 n6
        have hh := stp h
        cases i <;> first | exact hh | exact absurd rfl (by assumption) | exact absurd rfl (n5 _) | exact absurd rfl (n6 _)
def z_fgt : List Bool → Lc → Lc
  | true :: t, x :: u => x :: z_fgt t u
  | false :: t, _ :: u => none :: z_fgt t u
  | [], u => u
  | _, [] => []
theorem z_fgt_R : ∀ (bs : List Bool) (l : Lc), z_R (z_fgt bs l) l
  | [], l => ⟨by cases l <;> rfl, fun k v h => by cases l <;> exact h⟩
  | true :: t, [] => ⟨rfl, fun k v h => h⟩
  | false :: t, [] => ⟨rfl, fun k v h => h⟩
  | true :: t, x :: u => ⟨congrArg (· + 1) (z_fgt_R t u).1, fun k v h => by
    cases k with
    | zero => exact h
    | succ k => exact (z_fgt_R t u).2 k v h⟩
  | false :: t, x :: u => ⟨congrArg (· + 1) (z_fgt_R t u).1, fun k v h => by
    cases k with
    | zero => cases h
    | succ k => exact (z_fgt_R t u).2 k v h⟩
theorem z_Ev_fgt {xs : Nat → Int32} {L m pc : Nat} {l : Lc} {st : List AV} {M : Mem} {o : z_Rs} {M' : Mem} {k : Nat} (bs : List Bool) (h : z_Ev xs L m (pc, z_fgt bs l, st, M) o M' k) : z_Ev xs L m (pc, l, st, M) o M' k := by
  obtain ⟨n, hn⟩ := h
  exact ⟨n, z_Ex_wk n _ _ _ _ _ _ _ _ _ (z_fgt_R bs l) hn⟩
end
