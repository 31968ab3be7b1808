
theorem z_Ex_okv {xs : Nat → Int32} {L : Nat} : ∀ (n m : Nat) (cf : Cf) (o : z_Rs) (M' : Mem) (k : Nat), z_Ex xs L n m cf o M' k → ∀ v, o = .inl (some v) → z_okv v = true
  | 0, _, _, _, _, _, h, _, _ => absurd h (fun q => q)
  | n + 1, m, (pc, ls, st, M), o, M', k, h, v, hv => by
    subst hv
    unfold z_Ex at h
    split at h
    · obtain ⟨_, _, _, h2, _⟩ := h
      cases h2
    · split at h
      · obtain ⟨_, _, h2, _⟩ := h
        cases h2
      · obtain ⟨x, _, h2, _⟩ := h
        cases h2; rfl
      · obtain ⟨x, _, h2, _⟩ := h
        cases h2; rfl
      · obtain ⟨x, _, h2, _⟩ := h
        cases h2; rfl
      · obtain ⟨m', b, w, as, r, o1, M1, k1, k2, -, -, -, -, -, -, -, -, h⟩ := h
        cases o1 with
        | inl v1 => exact z_Ex_okv n _ _ _ _ _ h _ rfl
        | inr e1 =>
          rcases h with ⟨-, h2, -⟩ | ⟨h1, s1, -, -, h⟩
          · cases h2
          · exact z_Ex_okv n _ _ _ _ _ h _ rfl
      · split at h
        · obtain ⟨c', O, -, -, h⟩ := h
          exact z_Ex_okv n _ _ _ _ _ h _ rfl
        · obtain ⟨m', b, w, as, r, o1, M1, k1, k2, -, -, -, -, -, -, -, h⟩ := h
          cases o1 with
          | inl v1 => exact z_Ex_okv n _ _ _ _ _ h _ rfl
          | inr e1 =>
            obtain ⟨-, h2, -⟩ := h
            cases h2
      · obtain ⟨c', O, -, -, h⟩ := h
        exact z_Ex_okv n _ _ _ _ _ h _ rfl
theorem z_thr_in {m pc e : Nat} (h : z_thr m pc = some e) : (m = 42 ∧ pc = 4 ∧ e = 0) ∨ (m = 43 ∧ pc = 4 ∧ e = 1) ∨ (m = 44 ∧ pc = 9 ∧ e = 2) := by
  unfold z_thr at h

  cases c0 : (Nat.beq m 42 && Nat.beq pc 4)
  · rw [c0] at h; dsimp only [cond] at h
    cases c1 : (Nat.beq m 43 && Nat.beq pc 4)
    · rw [c1] at h; dsimp only [cond] at h
      cases c2 : (Nat.beq m 44 && Nat.beq pc 9)
      · rw [c2] at h; dsimp only [cond] at h
        cases h
      · rw [c2] at h
        cases h
        obtain ⟨g1, g2⟩ := Bool.and_eq_true_iff.mp c2
        exact Or.inr (Or.inr (⟨Nat.eq_of_beq_eq_true g1, Nat.eq_of_beq_eq_true g2, rfl⟩))
    · rw [c1] at h
      cases h
      obtain ⟨g1, g2⟩ := Bool.and_eq_true_iff.mp c1
      exact Or.inr (Or.inl ⟨Nat.eq_of_beq_eq_true g1, Nat.eq_of_beq_eq_true g2, rfl⟩)
  · rw [c0] at h
    cases h
    obtain ⟨g1, g2⟩ := Bool.and_eq_true_iff.mp c0
    exact Or.inl ⟨Nat.eq_of_beq_eq_true g1, Nat.eq_of_beq_eq_true g2, rfl⟩

def z_names : List String := ["java/lang/RuntimeException", "java/lang/Exception"]
def z_atB (ik is ic e : Nat) : Bool := (Cond.classLink RX4 ik (z_ex e) :: Cond.initialized (z_ex e) :: vx_atS RX4 ic (z_ex e) z_names).all (fun w => z_isIn w && (goodWord w || z_isM w) && vx_ot w)
theorem z_M_tab {w : Cond} (h : z_isM w = true) : w.onTables = true := by
  cases w <;> first | rfl | cases h
section ZD
variable {p : Program} {l : Launch} {e : Env} {R : Room} {s : State} {mi : MethodId} {args : Array Value} {below : List Frame} {meth : Method} {c : Code} {cells slots : Nat} {Q : State → Prop}
variable {D : va_G} {ad : z_ad} {cs : Nat → ClassId} {A : Nat → Prop} {b L : Nat} {xs : Nat → Int32} {sa : Nat → Nat}
theorem z_word {args : Array Value} {w : Cond} (hts : ∀ w ∈ z_good, w.before args s = true) (hcx : z_cx D cs A b L xs sa s) (hw : w ∈ lw_tbl) (hg : (goodWord w || z_isM w) = true) : w.before args s = true := by
  cases hgw : goodWord w with
  | true => exact hts w (z_good_in hw hgw)
  | false =>
    rw [hgw] at hg
    exact va_Nw.use (z_M_tab hg) (hcx.2.2.2.1 w (z_misc_in hw hg))
theorem z_keptP {M : Mem} {H H1 : Heap} (h : va_P D vwCl (z_W ad cs M) H) (hk : ∀ q : Nat, q < H.size → H1[q]? = H[q]?) : va_P D vwCl (z_W ad cs M) H1 := h.kept fun k q hq => hk q.1 (vx_lt h hq)
/-- an exception that is made and thrown -/
theorem z_throw {m pc er ik is ic : Nat} {text : String} {M : Mem} {ls : Lc} {st : List AV} {H : Heap} {locs : List Loc} {LS : Array Slot} (hl : l.stackTraces = false) (hE : z_Env p l R s mi args meth c cells slots D ad cs A b L xs sa m) (hown : z_own m = 4) (hm : z_hh m = []) (hfr : z_FR m = 6) (hlr : z_LR m = 90)
    (hat : z_atB ik is ic er = true) (hfit : Bundle.fit (z_ex er) = true) {sx : Nat} (hstr : vk_R RX4 is text sx s)
    (d0 : decode (z_b m) pc = .ok (.new ik, 3)) (d3 : decode (z_b m) (pc + 3) = .ok (.dup, 1)) (d4 : decode (z_b m) (pc + 4) = .ok (.ldc_w is, 3)) (d7 : decode (z_b m) (pc + 7) = .ok (.invokespecial ic, 3)) (d10 : decode (z_b m) (pc + 10) = .ok (.athrow, 1))
    (hst : st = []) (hc : cells + 1 ≤ R.cells) (hs : slots + 6 * 1 ≤ R.slots) (hp : z_Pt D ad cs A s.heap m LS ls st M H locs) :
    W p l e R s mi args below meth c H locs cells slots (vx_MQ below (z_Qc D ad cs A (.inr er) M) (z_XC D ad cs A (.inr er) M) args s (cells + 1) (slots + 6 * 1) A) (F0 mi pc LS (st.map (cv ad))) := by
  obtain ⟨⟨hx, hb, hml, hcl, hts, hcx, hAD, hab, hfr9, hlo9, -, -⟩, -, hlocks, htab⟩ := hE
  obtain ⟨hLS, -, -, hP, hS⟩ := hp
  subst hst
  rw [hown] at hcl
  have hat9 := fun w hw => List.all_eq_true.mp hat w hw
  have hw9 : ∀ w ∈ Cond.classLink RX4 ik (z_ex er) :: Cond.initialized (z_ex er) :: vx_atS RX4 ic (z_ex er) z_names, w.before args s = true ∧ vx_ot w = true := by
    intro w hw
    obtain ⟨h1, h2⟩ := Bool.and_eq_true_iff.mp (hat9 w hw)
    obtain ⟨h3, h4⟩ := Bool.and_eq_true_iff.mp h1
    exact ⟨z_word hts hcx (z_isIn_in h3) h4, h2⟩
  refine vx_throwSW (own := RX4) (cls := z_ex er) (text := text) (names := z_names) (ik := ik) (is := is) (ic := ic) (sa := sx) (A := A) hx hb hl hcl hfit (by decide +kernel) (hw9 _ List.mem_cons_self).1 (hw9 _ (List.mem_cons_of_mem _ List.mem_cons_self)).1 hstr
    (fun w hw => (hw9 w (List.mem_cons_of_mem _ (List.mem_cons_of_mem _ hw))).1) (fun w hw => (hw9 w hw).2) hcx.2.1 hcx.2.2.1 hS (hLS.1.trans hml.symm) d0 d3 d4 d7 d10 ?_ ?_ ?_ hc (by omega) hlocks ?_ hS.2.2 (Nat.le_refl _) (Nat.le_refl _)
  · intro x hx9
    rw [htab, hm] at hx9
    cases hx9
  · show 2 + 3 < R.frames
    rw [hfr] at hfr9
    omega
  · show 0 + (13 * (2 + 1) + 43) ≤ R.locals
    rw [hlr] at hlo9
    omega
  · intro t _ hz hk
    refine ⟨⟨er, rfl, rfl, z_keptP hP hk⟩, Nat.le_trans hS.1 hz, fun q h1 h2 => ?_⟩
    rw [hk q (Nat.lt_of_lt_of_le h1 hS.1)]
    exact hS.2.1 q h1 h2
/-- an exception that goes on to the caller -/
theorem z_pass {m pc er : Nat} {M : Mem} {H : Heap} {locs : List Loc} {LS : Array Slot} {rest : List Value} {ce : Cell} {q9 : Addr} (hE : z_Env p l R s mi args meth c cells slots D ad cs A b L xs sa m) (hm : z_hh m = []) {k1 s1 : Nat} (hP : va_P D vwCl (z_W ad cs M) H) (hS : va_S A s.heap H locs) (hce : H[q9]? = some ce) (hcv : ce.vm = .none) (hcl : s.vm.findClass (z_ex er) = some ce.cls) :
    vx_W p l e R s mi args below meth c H locs k1 s1 (vx_MQ below (z_Qc D ad cs A (.inr er) M) (z_XC D ad cs A (.inr er) M) args s k1 s1 A) (F0 mi pc LS rest) q9 := by
  obtain ⟨-, -, hlocks, htab⟩ := hE
  refine vx_out (E := z_ex er) (fun x hx => ?_) hlocks hce hcv hcl (fun t ht hv => ?_) hS.2.2 (Nat.le_refl _) (Nat.le_refl _)
  · rw [htab, hm] at hx
    cases hx
  · exact ⟨⟨er, rfl, rfl, by rw [ht]; exact hP⟩, hS.F ht⟩
/-- an exception that a wrapper catches -/
theorem z_caught {m pc er hp sl : Nat} {M : Mem} {ls : Lc} {H : Heap} {locs : List Loc} {LS : Array Slot} {rest : List Value} {ce : Cell} {q9 : Addr} (hm : m < 58) (hE : z_Env p l R s mi args meth c cells slots D ad cs A b L xs sa m) (hh : z_han m er = some (hp, sl)) (hcov : z_cov m pc = true) {k1 s1 : Nat} (hP : va_P D vwCl (z_W ad cs M) H) (hS : va_S A s.heap H locs) (hce : H[q9]? = some ce) (hcv : ce.vm = .none) (hcl : s.vm.findClass (z_ex er) = some ce.cls)
    (hl : lv_has LS (z_ml m) (z_asc ad 0 ls)) (hol : z_okL ls = true)
    (kk : ∀ (LS' : Array Slot), z_Pt D ad cs A s.heap m LS' (z_set (z_clr ls sl) sl none) [] M H locs → W p l e R s mi args below meth c H locs k1 s1 Q (F0 mi hp LS' [])) :
    vx_W p l e R s mi args below meth c H locs k1 s1 Q (F0 mi pc LS rest) q9 := by
  have h0 : z_han m er = none := by
    unfold z_han
    cases Nat.blt er 3 <;> rfl
  rw [h0] at hh
  cases hh
end ZD

