
/-! ONE STEP IS SOUND: an instruction as the interpreter does it is what the machine does -/
def z_tys (cs : Nat → ClassId) : List (ClassId × FieldType) := [(cs 0, .int), (cs 2, .object RX1), (cs 3, .array .int)]
def z_isM : Cond → Bool
  | .fieldLinkNest .. => true
  | .methodLinkNest .. => true
  | .castable .. => true
  | .declares _ => true
  | _ => false
def z_good : List Cond := lw_tbl.filter goodWord
def z_misc : List Cond := lw_tbl.filter z_isM
/-- what every state of the run knows -/
def z_cx (D : va_G) (cs : Nat → ClassId) (A : Nat → Prop) (b L : Nat) (xs : Nat → Int32) (sa : Nat → Nat) (U : State) : Prop :=
  va_K D vwCl (z_tys cs) U ∧ vx_Zq Bundle.tN "UNASSIGNED_STACK" Bundle.steD A U U.heap ∧ vx_Zq Bundle.tN "SUPPRESSED_SENTINEL" Bundle.listD A U U.heap ∧ (∀ w ∈ z_misc, va_Nw w U) ∧
  vk_R RX4 273 "out of range, or the buffer is no plan" (sa 0) U ∧ vk_R RX4 280 "the state does not allow this" (sa 1) U ∧ vk_R RX4 285 "there is no such setting" (sa 2) U ∧
  True ∧ True ∧
  va_X b L xs U U.heap ∧ b < U.heap.size ∧ ¬ A b
theorem z_nw_warm {w : Cond} {s U : State} (hm : z_isM w = true) (hW : s.WarmedH U.vm) (h : va_Nw w s) : va_Nw w U := by
  cases w <;> first | exact va_Nw.warmF hW h | exact va_Nw.warmM hW h | exact va_Nw.warmC hW h | exact va_Nw.warmD hW h | cases hm
theorem z_X_kept {b L : Nat} {xs : Nat → Int32} {s U : State} {H : Heap} (hvm : s.vm.Alike U.vm) (h : va_X b L xs s H) : va_X b L xs U H := by
  obtain ⟨scr, h1, h2, h3, h4, h5⟩ := h
  refine ⟨scr, h1, ?_, h3, h4, h5⟩
  exact State.isArrayOf_alike hvm h2
theorem z_cx_moved {D : va_G} {cs : Nat → ClassId} {A : Nat → Prop} {b L : Nat} {xs : Nat → Int32} {sa : Nat → Nat} {s U : State} {locs : List Loc} (hW : s.WarmedH U.vm) (hS : va_S A s.heap U.heap locs) (h : z_cx D cs A b L xs sa s) : z_cx D cs A b L xs sa U := by
  obtain ⟨h1, h2, h3, h4, h5, h6, h7, h8, h9, h10, h11, h12⟩ := h
  refine ⟨va_K.moved hW.alike h1, vx_Zq.moved hW.alike (h2.kept hS.2.1), vx_Zq.moved hW.alike (h3.kept hS.2.1), fun w hw => z_nw_warm (List.mem_filter.mp hw).2 hW (h4 w hw), vk_R.warm hW h5, vk_R.warm hW h6, vk_R.warm hW h7, trivial, trivial, ?_, Nat.lt_of_lt_of_le h11 hS.1, h12⟩
  obtain ⟨scr, g1, g2⟩ := z_X_kept hW.alike h10
  exact ⟨scr, by rw [hS.2.1 b h11 h12]; exact g1, g2⟩
-- the tables' check
def z_sw : Instr → Bool
  | .tableswitch .. => true
  | .lookupswitch .. => true
  | _ => false
def z_il : Instr → Nat
  | .aload _ => 2
  | .iload _ => 2
  | .lload _ => 2
  | .dload _ => 2
  | .istore _ => 2
  | .astore _ => 2
  | .lstore _ => 2
  | .dstore _ => 2
  | .bipush _ => 2
  | .sipush _ => 3
  | .ldc_w _ => 3
  | .ldc _ => 2
  | .ldc2_w _ => 3
  | .iinc _ _ => 3
  | .goto _ => 3
  | .ifCond _ _ => 3
  | .if_icmp _ _ => 3
  | .getfield _ => 3
  | .putfield _ => 3
  | .invokevirtual _ => 3
  | .invokestatic _ => 3
  | .invokespecial _ => 3
  | _ => 1
def z_ccB (pc : Nat) (i : Instr) (t : Nat) (cs : Int32) : Bool := match i with
  | .iconst n => decide (Int32.ofInt n = cs)
  | .bipush n => decide ((Int8.ofInt n).toInt32 = cs)
  | .sipush n => decide ((Int16.ofInt n).toInt32 = cs)
  | .iinc _ n => decide (Int32.ofInt n = cs)
  | .goto off => decide ((pc : Int) + off = (t : Int))
  | .ifCond _ off => decide ((pc : Int) + off = (t : Int))
  | .if_icmp _ off => decide ((pc : Int) + off = (t : Int))
  | _ => true
def z_fw (o k c s : Nat) (n : Bool) : Cond := bif n then .fieldLinkNest (z_on o) k (z_T c s).1 (z_T c s).2.1 (z_T c s).2.2.1 "IslandReserve" else .fieldLink (z_on o) k (z_T c s).1 (z_T c s).2.1 (z_T c s).2.2.1
/-- is the word w the v-th of the tables -/
def z_isW (v : Nat) (w : Cond) : Bool := match lw_tbl[v]? with
  | some x => decide (x = w)
  | none => false
def z_mw (o k m : Nat) (n : Bool) : Cond := bif n then .methodLinkNest (z_on o) k (z_y m) "IslandReserve" else .methodLink (z_on o) k (z_y m)
def z_codeW (m : Nat) : Cond := match z_hh m with
  | [] => .code (z_y m) (z_b m) (z_ml m) (z_ret m)
  | h => .codeWith (z_y m) (z_b m) (z_ml m) (z_ret m) h

def z_pcode (m : Nat) : Nat := bif Nat.blt m 29 then (bif Nat.blt m 14 then (bif Nat.blt m 7 then (bif Nat.blt m 3 then (bif Nat.blt m 1 then (417) else (bif Nat.blt m 2 then (425) else (437))) else (bif Nat.blt m 5 then (bif Nat.blt m 4 then (433) else (303)) else (bif Nat.blt m 6 then (338) else (496)))) else (bif Nat.blt m 10 then (bif Nat.blt m 8 then (504) else (bif Nat.blt m 9 then (372) else (361))) else (bif Nat.blt m 12 then (bif Nat.blt m 11 then (329) else (413)) else (bif Nat.blt m 13 then (307) else (484))))) else (bif Nat.blt m 21 then (bif Nat.blt m 17 then (bif Nat.blt m 15 then (314) else (bif Nat.blt m 16 then (488) else (492))) else (bif Nat.blt m 19 then (bif Nat.blt m 18 then (508) else (352)) else (bif Nat.blt m 20 then (357) else (318)))) else (bif Nat.blt m 25 then (bif Nat.blt m 23 then (bif Nat.blt m 22 then (325) else (445)) else (bif Nat.blt m 24 then (386) else (429))) else (bif Nat.blt m 27 then (bif Nat.blt m 26 then (441) else (449)) else (bif Nat.blt m 28 then (453) else (480)))))) else (bif Nat.blt m 43 then (bif Nat.blt m 36 then (bif Nat.blt m 32 then (bif Nat.blt m 30 then (457) else (bif Nat.blt m 31 then (546) else (218))) else (bif Nat.blt m 34 then (bif Nat.blt m 33 then (527) else (334)) else (bif Nat.blt m 35 then (516) else (365)))) else (bif Nat.blt m 39 then (bif Nat.blt m 37 then (534) else (bif Nat.blt m 38 then (538) else (542))) else (bif Nat.blt m 41 then (bif Nat.blt m 40 then (523) else (409)) else (bif Nat.blt m 42 then (299) else (227))))) else (bif Nat.blt m 50 then (bif Nat.blt m 46 then (bif Nat.blt m 44 then (389) else (bif Nat.blt m 45 then (460) else (224))) else (bif Nat.blt m 48 then (bif Nat.blt m 47 then (221) else (368)) else (bif Nat.blt m 49 then (348) else (342)))) else (bif Nat.blt m 54 then (bif Nat.blt m 52 then (bif Nat.blt m 51 then (375) else (378)) else (bif Nat.blt m 53 then (382) else (512))) else (bif Nat.blt m 56 then (bif Nat.blt m 55 then (519) else (530)) else (bif Nat.blt m 57 then (549) else (0))))))
def z_pinit (m : Nat) : Nat := bif Nat.blt m 29 then (bif Nat.blt m 14 then (bif Nat.blt m 7 then (bif Nat.blt m 3 then (bif Nat.blt m 1 then (28) else (bif Nat.blt m 2 then (28) else (28))) else (bif Nat.blt m 5 then (bif Nat.blt m 4 then (28) else (28)) else (bif Nat.blt m 6 then (28) else (28)))) else (bif Nat.blt m 10 then (bif Nat.blt m 8 then (28) else (bif Nat.blt m 9 then (28) else (28))) else (bif Nat.blt m 12 then (bif Nat.blt m 11 then (28) else (27)) else (bif Nat.blt m 13 then (27) else (27))))) else (bif Nat.blt m 21 then (bif Nat.blt m 17 then (bif Nat.blt m 15 then (27) else (bif Nat.blt m 16 then (27) else (27))) else (bif Nat.blt m 19 then (bif Nat.blt m 18 then (27) else (27)) else (bif Nat.blt m 20 then (27) else (31)))) else (bif Nat.blt m 25 then (bif Nat.blt m 23 then (bif Nat.blt m 22 then (31) else (26)) else (bif Nat.blt m 24 then (26) else (26))) else (bif Nat.blt m 27 then (bif Nat.blt m 26 then (26) else (26)) else (bif Nat.blt m 28 then (26) else (26)))))) else (bif Nat.blt m 43 then (bif Nat.blt m 36 then (bif Nat.blt m 32 then (bif Nat.blt m 30 then (26) else (bif Nat.blt m 31 then (26) else (26))) else (bif Nat.blt m 34 then (bif Nat.blt m 33 then (26) else (26)) else (bif Nat.blt m 35 then (26) else (26)))) else (bif Nat.blt m 39 then (bif Nat.blt m 37 then (26) else (bif Nat.blt m 38 then (26) else (26))) else (bif Nat.blt m 41 then (bif Nat.blt m 40 then (26) else (26)) else (bif Nat.blt m 42 then (26) else (26))))) else (bif Nat.blt m 50 then (bif Nat.blt m 46 then (bif Nat.blt m 44 then (26) else (bif Nat.blt m 45 then (26) else (26))) else (bif Nat.blt m 48 then (bif Nat.blt m 47 then (26) else (26)) else (bif Nat.blt m 49 then (26) else (36)))) else (bif Nat.blt m 54 then (bif Nat.blt m 52 then (bif Nat.blt m 51 then (25) else (25)) else (bif Nat.blt m 53 then (25) else (25))) else (bif Nat.blt m 56 then (bif Nat.blt m 55 then (25) else (25)) else (bif Nat.blt m 57 then (25) else (0))))))
def z_pkind (m : Nat) : Nat := bif Nat.blt m 29 then (bif Nat.blt m 14 then (bif Nat.blt m 7 then (bif Nat.blt m 3 then (bif Nat.blt m 1 then (416) else (bif Nat.blt m 2 then (424) else (436))) else (bif Nat.blt m 5 then (bif Nat.blt m 4 then (432) else (302)) else (bif Nat.blt m 6 then (337) else (495)))) else (bif Nat.blt m 10 then (bif Nat.blt m 8 then (503) else (bif Nat.blt m 9 then (371) else (360))) else (bif Nat.blt m 12 then (bif Nat.blt m 11 then (328) else (412)) else (bif Nat.blt m 13 then (306) else (483))))) else (bif Nat.blt m 21 then (bif Nat.blt m 17 then (bif Nat.blt m 15 then (313) else (bif Nat.blt m 16 then (487) else (491))) else (bif Nat.blt m 19 then (bif Nat.blt m 18 then (507) else (351)) else (bif Nat.blt m 20 then (356) else (317)))) else (bif Nat.blt m 25 then (bif Nat.blt m 23 then (bif Nat.blt m 22 then (324) else (443)) else (bif Nat.blt m 24 then (384) else (427))) else (bif Nat.blt m 27 then (bif Nat.blt m 26 then (439) else (447)) else (bif Nat.blt m 28 then (451) else (478)))))) else (bif Nat.blt m 43 then (bif Nat.blt m 36 then (bif Nat.blt m 32 then (bif Nat.blt m 30 then (455) else (bif Nat.blt m 31 then (544) else (216))) else (bif Nat.blt m 34 then (bif Nat.blt m 33 then (525) else (332)) else (bif Nat.blt m 35 then (514) else (363)))) else (bif Nat.blt m 39 then (bif Nat.blt m 37 then (532) else (bif Nat.blt m 38 then (536) else (540))) else (bif Nat.blt m 41 then (bif Nat.blt m 40 then (521) else (408)) else (bif Nat.blt m 42 then (298) else (226))))) else (bif Nat.blt m 50 then (bif Nat.blt m 46 then (bif Nat.blt m 44 then (388) else (bif Nat.blt m 45 then (459) else (223))) else (bif Nat.blt m 48 then (bif Nat.blt m 47 then (220) else (367)) else (bif Nat.blt m 49 then (347) else (341)))) else (bif Nat.blt m 54 then (bif Nat.blt m 52 then (bif Nat.blt m 51 then (374) else (377)) else (bif Nat.blt m 53 then (381) else (511))) else (bif Nat.blt m 56 then (bif Nat.blt m 55 then (518) else (529)) else (bif Nat.blt m 57 then (548) else (0))))))
def z_psel (m : Nat) : Nat := bif Nat.blt m 29 then (bif Nat.blt m 14 then (bif Nat.blt m 7 then (bif Nat.blt m 3 then (bif Nat.blt m 1 then (15) else (bif Nat.blt m 2 then (16) else (18))) else (bif Nat.blt m 5 then (bif Nat.blt m 4 then (17) else (2)) else (bif Nat.blt m 6 then (8) else (22)))) else (bif Nat.blt m 10 then (bif Nat.blt m 8 then (23) else (bif Nat.blt m 9 then (12) else (11))) else (bif Nat.blt m 12 then (bif Nat.blt m 11 then (7) else (14)) else (bif Nat.blt m 13 then (3) else (19))))) else (bif Nat.blt m 21 then (bif Nat.blt m 17 then (bif Nat.blt m 15 then (4) else (bif Nat.blt m 16 then (20) else (21))) else (bif Nat.blt m 19 then (bif Nat.blt m 18 then (24) else (9)) else (bif Nat.blt m 20 then (10) else (5)))) else (bif Nat.blt m 25 then (bif Nat.blt m 23 then (bif Nat.blt m 22 then (6) else (444)) else (bif Nat.blt m 24 then (385) else (428))) else (bif Nat.blt m 27 then (bif Nat.blt m 26 then (440) else (448)) else (bif Nat.blt m 28 then (452) else (479)))))) else (bif Nat.blt m 43 then (bif Nat.blt m 36 then (bif Nat.blt m 32 then (bif Nat.blt m 30 then (456) else (bif Nat.blt m 31 then (545) else (217))) else (bif Nat.blt m 34 then (bif Nat.blt m 33 then (526) else (333)) else (bif Nat.blt m 35 then (515) else (364)))) else (bif Nat.blt m 39 then (bif Nat.blt m 37 then (533) else (bif Nat.blt m 38 then (537) else (541))) else (bif Nat.blt m 41 then (bif Nat.blt m 40 then (522) else (13)) else (bif Nat.blt m 42 then (1) else (0))))) else (bif Nat.blt m 50 then (bif Nat.blt m 46 then (bif Nat.blt m 44 then (0) else (bif Nat.blt m 45 then (0) else (0))) else (bif Nat.blt m 48 then (bif Nat.blt m 47 then (0) else (0)) else (bif Nat.blt m 49 then (0) else (0)))) else (bif Nat.blt m 54 then (bif Nat.blt m 52 then (bif Nat.blt m 51 then (0) else (0)) else (bif Nat.blt m 53 then (0) else (0))) else (bif Nat.blt m 56 then (bif Nat.blt m 55 then (0) else (0)) else (bif Nat.blt m 57 then (0) else (0))))))

/-- the words of a callee -/
def z_mB (m : Nat) : Bool := z_isW (z_pinit m) (.initialized (z_y m).cls) && (bif z_stc m then z_isW (z_pkind m) (.static (z_y m)) else z_isW (z_pkind m) (.instanceMethod (z_y m)) && z_isW (z_psel m) (.selects (z_on (z_own m)) (z_y m) (z_y m))) &&
  decide ((z_y m).cls = z_on (z_own m)) && plainName (z_y m).cls && decide ((z_y m).cls ≠ "java/lang/invoke/MethodHandle") && decide ((z_y m).cls ≠ "java/lang/invoke/VarHandle") &&
  decide ((parseMethodDescriptor (z_y m).desc).map (fun d => d.parameters.length) = some (bif z_stc m then z_na m else z_na m - 1)) && (bif z_stc m then true else Nat.blt 0 (z_na m))
/-- what the links of an instruction are -/
def z_lnk (m : Nat) (i : Instr) : Bool := match i with
  | .getfield k => match z_fld (z_own m) k with
    | some (c, s, n, v) => z_isW v (z_fw (z_own m) k c s n) && Nat.blt s (z_nf c) && Nat.blt c 5
    | none => true
  | .putfield k => match z_fld (z_own m) k with
    | some (c, s, n, v) => z_isW v (z_fw (z_own m) k c s n) && Nat.blt s (z_nf c) && Nat.blt c 5
    | none => true
  | .ldc_w k => match z_ki (z_own m) k with
    | some (x, v) => z_isW v (.constant (z_on (z_own m)) k x)
    | none => true
  | .ldc k => match z_ki (z_own m) k with
    | some (x, v) => z_isW v (.constant (z_on (z_own m)) k x)
    | none => true
  | .ldc2_w k => (match z_kl (z_own m) k with
    | some (x, v) => z_isW v (.constantLong (z_on (z_own m)) k x)
    | none => true) && (match z_kd (z_own m) k with
    | some (x, v) => z_isW v (.constantDouble (z_on (z_own m)) k x)
    | none => true)
  | .invokestatic k => match z_sp (z_own m) k with
    | l + 1 => z_isW (z_spv (z_own m) k) (.methodLink (z_on (z_own m)) k (match l with | 0 => arraycopyName | 1 => Lib.Math.max.name | _ => Lib.Math.min.name)) && Nat.ble 1 (z_FR m) && Nat.ble 40 (z_LR m) && Nat.ble l 2
    | 0 => match z_cal (z_own m) k with
      | some (m', n, v) => z_isW v (z_mw (z_own m) k m' n) && Nat.blt (z_FR m') (z_FR m) && Nat.ble (8 + (z_ml m' + 11) + z_LR m') (z_LR m) && Nat.blt m' 57 && (bif n then decide (z_hh m' = []) else true)
      | none => true
  | .invokevirtual k => match z_cal (z_own m) k with
      | some (m', n, v) => z_isW v (z_mw (z_own m) k m' n) && Nat.blt (z_FR m') (z_FR m) && Nat.ble (8 + (z_ml m' + 11) + z_LR m') (z_LR m) && Nat.blt m' 57 && decide (z_hh m' = [])
      | none => true
  | _ => true
def z_ckI (m pc : Nat) : Bool := match z_ins m pc with
  | none => true
  | some (i, t, cs) => (match decode (z_b m) pc with
    | .ok (j, n) => decide (j = i) && (z_sw i || Nat.beq n (z_il i))
    | .error _ => false) && z_ccB pc i t cs && z_lnk m i

