
section ZE
variable {l : Launch} {D : va_G} {ad : z_ad} {cs : Nat → ClassId} {A : Nat → Prop} {b L : Nat} {xs : Nat → Int32} {sa : Nat → Nat}
/-- what the links of a call say -/
theorem z_lnkV {m j m' w : Nat} {nb : Bool} (h : z_lnk m (.invokevirtual j) = true) (hc : z_cal (z_own m) j = some (m', nb, w)) : z_mw (z_own m) j m' nb ∈ lw_tbl ∧ z_FR m' < z_FR m ∧ 8 + (z_ml m' + 11) + z_LR m' ≤ z_LR m ∧ m' < 57 ∧ z_hh m' = [] := by
  unfold z_lnk at h
  dsimp only at h
  rw [hc] at h
  dsimp only at h
  obtain ⟨h, g5⟩ := Bool.and_eq_true_iff.mp h
  obtain ⟨h, g4⟩ := Bool.and_eq_true_iff.mp h
  obtain ⟨h, g3⟩ := Bool.and_eq_true_iff.mp h
  obtain ⟨g1, g2⟩ := Bool.and_eq_true_iff.mp h
  exact ⟨z_isW_in g1, Nat.ble_eq.mp g2, Nat.ble_eq.mp g3, Nat.ble_eq.mp g4, of_decide_eq_true g5⟩
theorem z_lnkS {m j m' w : Nat} {nb : Bool} (h : z_lnk m (.invokestatic j) = true) (hs : z_sp (z_own m) j = 0) (hc : z_cal (z_own m) j = some (m', nb, w)) : z_mw (z_own m) j m' nb ∈ lw_tbl ∧ z_FR m' < z_FR m ∧ 8 + (z_ml m' + 11) + z_LR m' ≤ z_LR m ∧ m' < 57 ∧ (nb = true → z_hh m' = []) := by
  unfold z_lnk at h
  dsimp only at h
  rw [hs] at h
  dsimp only at h
  rw [hc] at h
  dsimp only at h
  obtain ⟨h, g5⟩ := Bool.and_eq_true_iff.mp h
  obtain ⟨h, g4⟩ := Bool.and_eq_true_iff.mp h
  obtain ⟨h, g3⟩ := Bool.and_eq_true_iff.mp h
  obtain ⟨g1, g2⟩ := Bool.and_eq_true_iff.mp h
  exact ⟨z_isW_in g1, Nat.ble_eq.mp g2, Nat.ble_eq.mp g3, Nat.ble_eq.mp g4, fun e => by rw [e] at g5; exact of_decide_eq_true g5⟩
theorem z_codeW0 {m : Nat} (h : z_hh m = []) : z_codeW m = Cond.code (z_y m) (z_b m) (z_ml m) (z_ret m) := by
  unfold z_codeW
  rw [h]
theorem z_codeWh {m : Nat} {x : Nat × Nat × Nat × Nat} {t : List (Nat × Nat × Nat × Nat)} (h : z_hh m = x :: t) : z_codeW m = Cond.codeWith (z_y m) (z_b m) (z_ml m) (z_ret m) (z_hh m) := by
  unfold z_codeW
  rw [h]
theorem z_np {m n : Nat} (h : (parseMethodDescriptor (z_y m).desc).map (fun d => d.parameters.length) = some n) : ∀ sig, parseMethodDescriptor (z_y m).desc = some sig → n = sig.parameters.length := by
  intro sig hs
  rw [hs] at h
  exact (Option.some.inj h).symm
set_option maxHeartbeats 4000000 in
theorem z_snd (hAD : z_AD A ad) (hab : ad 0 41 = b) (hl : l.stackTraces = false) : ∀ n : Nat, z_Snd l D ad cs A b L xs sa n
  | 0 => fun m cf o M' k h => absurd h (fun q => q)
  | n + 1 => by
    have ih := z_snd hAD hab hl n
    intro m cf o M' k h p e R s mi args below meth c cells slots Q H locs LS hE hcell hslot hp hX hI
    obtain ⟨pc, ls, st, M⟩ := cf
    have hE0 := hE
    obtain ⟨⟨hx, hb, hml, hown, hts, hcx, -, -, hfr, hlo, hce, hsl⟩, -, hlocks, htab⟩ := hE
    have hend : ∀ (i : Instr) (t : Nat) (k0 : Int32), z_ins m pc = some (i, t, k0) → z_rOK m i o st → M' = M → k = 0 → W p l e R s mi args below meth c H locs cells slots Q (F0 mi pc LS (st.map (cv ad))) := by
      intro i t k0 hi hr hM hk
      subst hM
      subst hk
      exact hI H locs pc LS st i t k0 hi hr hp.2.2.2.1 hp.2.2.2.2
    unfold z_Ex at h
    split at h
    · -- an exception of its own
      rename_i hi
      obtain ⟨hstn, er, hthr, ho, hM, hk⟩ := h
      subst ho
      subst hM
      subst hk
      have hQ := hX er rfl
      subst hQ
      have hcx9 := hcx
      have hpn := hp
      dsimp only at hpn
      rcases z_thr_in hthr with ⟨e1, e2, e3⟩ | ⟨e1, e2, e3⟩ | ⟨e1, e2, e3⟩
      · subst e1
        subst e2
        subst e3
        exact z_throw (m := 42) (pc := 4) hl hE0 rfl rfl rfl rfl (ik := 271) (is := 273) (ic := 275) (by decide +kernel) (by decide +kernel) hcx9.2.2.2.2.1 (by decide +kernel) (by decide +kernel) (by decide +kernel) (by decide +kernel) (by decide +kernel) hstn hcell hslot hp
      · subst e1
        subst e2
        subst e3
        exact z_throw (m := 43) (pc := 4) hl hE0 rfl rfl rfl rfl (ik := 278) (is := 280) (ic := 282) (by decide +kernel) (by decide +kernel) hcx9.2.2.2.2.2.1 (by decide +kernel) (by decide +kernel) (by decide +kernel) (by decide +kernel) (by decide +kernel) hstn hcell hslot hp
      · subst e1
        subst e2
        subst e3
        exact z_throw (m := 44) (pc := 9) hl hE0 rfl rfl rfl rfl (ik := 283) (is := 285) (ic := 287) (by decide +kernel) (by decide +kernel) hcx9.2.2.2.2.2.2.1 (by decide +kernel) (by decide +kernel) (by decide +kernel) (by decide +kernel) (by decide +kernel) hstn hcell hslot hp
    · rename_i i t k0 hi
      obtain ⟨-, -, hlk⟩ := z_ins_ck hi
      obtain ⟨hmN, -⟩ := z_ins_lt hi
      split at h
      · obtain ⟨h1, h2, h3, h4, h5⟩ := h
        exact hend _ _ _ hi ⟨h1, h2, h3⟩ h4 h5
      · obtain ⟨x, h1, h2, h3, h4, h5⟩ := h
        exact hend _ _ _ hi ⟨x, h1, h2, h5⟩ h3 h4
      · obtain ⟨x, h1, h2, h3, h4, h5⟩ := h
        exact hend _ _ _ hi ⟨x, h1, h2, h5⟩ h3 h4
      · obtain ⟨x, h1, h2, h3, h4, h5⟩ := h
        exact hend _ _ _ hi ⟨x, h1, h2, h5⟩ h3 h4
      · -- a virtual call
        rename_i j
        obtain ⟨m', nb, w, as, r, o1, M1, k1, k2, hcal, hst, hstk, hlen, hrcv, h8, hex, hk, hcont⟩ := h
        obtain ⟨hw, hf1, hf2, hm', hh'⟩ := z_lnkV hlk hcal
        obtain ⟨⟨n9, hd, hn9⟩, -, -⟩ := z_ins_ck hi
        rcases hn9 with h9 | h9
        · cases h9
        subst h9
        obtain ⟨g8a, g8b⟩ := Bool.and_eq_true_iff.mp h8
        have g9 : z_sl r < 9 := Nat.ble_eq.mp g8a
        have g10 : z_sl as ≤ z_ml m' := Nat.ble_eq.mp g8b
        obtain ⟨hLS, hol, hos, hP, hS⟩ := hp
        dsimp only at hLS hol hos hP
        rw [hstk] at hos
        obtain ⟨hoa, hor⟩ := z_okS_app hos
        have hoas := z_okS_rev hoa
        have hM := z_met (l := l) ih hAD hab hl hm' hex hoas g10
        obtain ⟨hini, -, hvi, hcls, -, hmh, hnp⟩ := z_mB_use hm'
        obtain ⟨hvi1, hvi2, hna⟩ := hvi hst
        rw [hst] at hnp
        cases as with
        | nil => cases hrcv
        | cons v as' =>
        match v, hrcv with
        | .inr (.inr (.inr (f, q))), hrcv =>
        have hrc : ∃ cn n, z_obj q = some (cn, n) ∧ cn = z_own m' := by
          unfold z_rcv at hrcv
          dsimp only at hrcv
          split at hrcv
          · rename_i cn n hob
            exact ⟨cn, n, hob, Nat.eq_of_beq_eq_true hrcv⟩
          · cases hrcv
        obtain ⟨cn, nq, hob, hcn⟩ := hrc
        subst hcn
        have hv := z_okv_val (z_okS_hd hoas) (z_obj_41 hob)
        have hrec := z_recv (ad := ad) (M := M) hcx.1 hP hv hob
        have hlen' : (as'.map (cv ad)).length = z_na m' - 1 := by
          rw [List.length_map]
          have h1 : as'.length + 1 = z_na m' := hlen
          omega
        have hpv : PreV s H (z_on (z_own m')) (ad f q) (z_Pc D ad cs A b L xs sa M (.inr (.inr (.inr (f, q))) :: as')) (as'.map (cv ad)) :=
          ⟨z_blind M _, hrec, fun U hU hW => ⟨rfl, z_cx_moved hW (by rw [hU]; exact hS) hcx, by rw [hU]; exact hP⟩⟩
        have hstack : (F0 mi pc LS (st.map (cv ad))).stack = (as'.map (cv ad)).reverse ++ .ref (ad f q) :: r.map (cv ad) := by
          show st.map (cv ad) = _
          rw [hstk]
          simp [cv]
        have hroom : 2 * (F0 mi pc LS (st.map (cv ad))).monitorRoom + ((r.map (cv ad)).map fun v => v.category).sum ≤ 8 := by
          rw [z_sl_map]
          show 2 * 0 + z_sl r ≤ 8
          omega
        have hws := pay_in hts (z_ws_in hm')
        have hcw : z_codeW m' ∈ z_ws m' := List.mem_cons_self
        have hcw2 : (z_codeW m').before args s = true := hts _ (z_ws_in hm' _ hcw).1
        rw [z_codeW0 hh'] at hcw hcw2
        have hrun : vx_Run p l e R s mi args below meth c H locs cells slots k1 (6 * k1) (F0 mi pc LS (st.map (cv ad))) (r.map (cv ad)) (z_Qc D ad cs A o1 M1 (Value.ref (ad f q) :: as'.map (cv ad)).toArray) (z_XC D ad cs A o1 M1) A := by
          cases nb with
          | false =>
            refine vx_runV (C := z_on (z_own m')) (bytes := z_b m') (maxL := z_ml m') (ret := z_ret m') (ws := z_ws m') (rm := z_room m' k1) (n := z_na m' - 1) (own := z_on (z_own m)) (index := j) (y := z_y m') (nL := z_ml m) (cc := z_b m) (Ts := z_good) ⟨hx, hb, hml, hown, hts⟩ hM
              ⟨⟨rfl, rfl, ?_, ?_, hws, hcw, hcw2, hts _ hini, hmh, z_np hnp, hts _ (z_good_in hw rfl)⟩, hts _ hvi1, hts _ hvi2⟩ hpv rfl hlen' hLS.1 hstack hroom hd ⟨by omega, by omega⟩
            · show z_FR m' + 1 ≤ R.frames
              omega
            · show 8 + (z_ml m' + 11) + z_LR m' ≤ R.locals
              omega
          | true =>
            refine vx_runVN (C := z_on (z_own m')) (bytes := z_b m') (maxL := z_ml m') (ret := z_ret m') (ws := z_ws m') (rm := z_room m' k1) (n := z_na m' - 1) (own := z_on (z_own m)) (host := "IslandReserve") (index := j) (y := z_y m') (nL := z_ml m) (cc := z_b m) (Ts := z_good) ⟨hx, hb, hml, hown, hts⟩ hM
              ⟨⟨⟨rfl, rfl, ?_, ?_, hws, hcw⟩, hcw2, hts _ hini, hmh, z_np hnp, va_Nw.use rfl (hcx.2.2.2.1 _ (z_misc_in hw rfl))⟩, hts _ hvi1, hts _ hvi2⟩ hpv rfl hlen' hLS.1 hstack hroom hd ⟨by omega, by omega⟩
            · show z_FR m' + 1 ≤ R.frames
              omega
            · show 8 + (z_ml m' + 11) + z_LR m' ≤ R.locals
              omega
        have hOn : z_Env p l R s mi args meth c (cells + k1) (slots + 6 * k1) D ad cs A b L xs sa m := ⟨⟨hx, hb, hml, hown, hts, hcx, hAD, hab, hfr, hlo, by omega, by omega⟩, hl, hlocks, htab⟩
        refine z_callG hrun hS ?_ ?_
        · intro er ce q9 H1 locs1 ho1 hP1 hS1 hce9 hcv9 hcl9
          subst ho1
          rcases hcont with ⟨hh, ho, hM9, hk9⟩ | ⟨hp9, sl9, hhan, hcov, hex2⟩
          · subst ho
            subst hM9
            have hQ := hX er rfl
            have ek : cells + k1 = cells + k := by omega
            have es : slots + 6 * k1 = slots + 6 * k := by omega
            rw [hQ, ek, es]
            exact z_pass hE0 hh hP1 hS1 hce9 hcv9 hcl9
          · refine z_caught hmN hE0 hhan hcov hP1 hS1 hce9 hcv9 hcl9 hLS hol (fun LS' hp' => ?_)
            refine ih m _ o M' k2 hex2 hOn (by omega) (by omega) hp' (fun er9 ho9 => ?_) (fun H' locs' pc' LS9 st' i9 t9 k9 hi9 hr9 hP9 hS9 => ?_)
            · have hQ := hX er9 ho9
              rw [show cells + k1 + k2 = cells + k by omega, show slots + 6 * k1 + 6 * k2 = slots + 6 * k by omega]
              exact hQ
            · rw [show cells + k1 + k2 = cells + k by omega, show slots + 6 * k1 + 6 * k2 = slots + 6 * k by omega]
              exact hI H' locs' pc' LS9 st' i9 t9 k9 hi9 hr9 hP9 hS9
        · intro v9 H1 locs1 ho1 hP1 hS1
          subst ho1
          dsimp only at hcont
          have hos9 : z_okS (v9.toList ++ r) = true := by
            cases v9 with
            | none => exact hor
            | some v8 => exact z_okS_mk (z_Ex_okv _ _ _ _ _ _ hex v8 rfl) hor
          have e9 : (v9.map (cv ad)).toList ++ r.map (cv ad) = (v9.toList ++ r).map (cv ad) := by cases v9 <;> rfl
          rw [e9]
          refine ih m _ o M' k2 hcont hOn (by omega) (by omega) ⟨hLS, hol, hos9, hP1, hS1⟩ (fun er9 ho9 => ?_) (fun H' locs' pc' LS9 st' i9 t9 k9 hi9 hr9 hP9 hS9 => ?_)
          · have hQ := hX er9 ho9
            rw [show cells + k1 + k2 = cells + k by omega, show slots + 6 * k1 + 6 * k2 = slots + 6 * k by omega]
            exact hQ
          · rw [show cells + k1 + k2 = cells + k by omega, show slots + 6 * k1 + 6 * k2 = slots + 6 * k by omega]
            exact hI H' locs' pc' LS9 st' i9 t9 k9 hi9 hr9 hP9 hS9
      · -- a static call, or one with a row of its own
        rename_i j
        split at h
        · obtain ⟨c', O, h1, h2, h3⟩ := h
          exact z_st1_snd hE0.1 rfl hi h1 h2 (fun H' locs' LS' hp' => ih m c' o M' k h3 hE0 hcell hslot hp' hX hI) hp
        · rename_i hsp
          obtain ⟨m', nb, w, as, r, o1, M1, k1, k2, hcal, hst, hstk, hlen, h8, hex, hk, hcont⟩ := h
          obtain ⟨hw, hf1, hf2, hm', hh'⟩ := z_lnkS hlk hsp hcal
          obtain ⟨⟨n9, hd, hn9⟩, -, -⟩ := z_ins_ck hi
          rcases hn9 with h9 | h9
          · cases h9
          subst h9
          obtain ⟨g8a, g8b⟩ := Bool.and_eq_true_iff.mp h8
          have g9 : z_sl r < 9 := Nat.ble_eq.mp g8a
          have g10 : z_sl as ≤ z_ml m' := Nat.ble_eq.mp g8b
          obtain ⟨hLS, hol, hos, hP, hS⟩ := hp
          dsimp only at hLS hol hos hP
          rw [hstk] at hos
          obtain ⟨hoa, hor⟩ := z_okS_app hos
          have hoas := z_okS_rev hoa
          have hM := z_met (l := l) ih hAD hab hl hm' hex hoas g10
          obtain ⟨hini, hvi, -, hcls, -, hmh, hnp⟩ := z_mB_use hm'
          have hvi1 := hvi hst
          rw [hst] at hnp
          have hlen' : (as.map (cv ad)).length = z_na m' := by rw [List.length_map]; exact hlen
          have hpv : PreS s H (z_Pc D ad cs A b L xs sa M as) (as.map (cv ad)) :=
            ⟨z_blind M _, fun U hU hW => ⟨rfl, z_cx_moved hW (by rw [hU]; exact hS) hcx, by rw [hU]; exact hP⟩⟩
          have hstack : (F0 mi pc LS (st.map (cv ad))).stack = (as.map (cv ad)).reverse ++ r.map (cv ad) := by
            show st.map (cv ad) = _
            rw [hstk]
            simp
          have hroom : 2 * (F0 mi pc LS (st.map (cv ad))).monitorRoom + ((r.map (cv ad)).map fun v => v.category).sum ≤ 8 := by
            rw [z_sl_map]
            show 2 * 0 + z_sl r ≤ 8
            omega
          have hws := pay_in hts (z_ws_in hm')
          have hcw : z_codeW m' ∈ z_ws m' := List.mem_cons_self
          have hcw2 : (z_codeW m').before args s = true := hts _ (z_ws_in hm' _ hcw).1
          have hrun : vx_Run p l e R s mi args below meth c H locs cells slots k1 (6 * k1) (F0 mi pc LS (st.map (cv ad))) (r.map (cv ad)) (z_Qc D ad cs A o1 M1 (as.map (cv ad)).toArray) (z_XC D ad cs A o1 M1) A := by
            cases hhh : z_hh m' with
            | nil =>
              rw [z_codeW0 hhh] at hcw hcw2
              cases nb with
              | false =>
                refine vx_runS (bytes := z_b m') (maxL := z_ml m') (ret := z_ret m') (ws := z_ws m') (rm := z_room m' k1) (n := z_na m') (own := z_on (z_own m)) (index := j) (y := z_y m') (nL := z_ml m) (cc := z_b m) (Ts := z_good) ⟨hx, hb, hml, hown, hts⟩ hM
                  ⟨⟨rfl, rfl, ?_, ?_, hws, hcw, hcw2, hts _ hini, hmh, z_np hnp, hts _ (z_good_in hw rfl)⟩, hts _ hvi1⟩ hpv rfl hlen' hLS.1 hstack hroom hd ⟨by omega, by omega⟩
                · show z_FR m' + 1 ≤ R.frames
                  omega
                · show 8 + (z_ml m' + 11) + z_LR m' ≤ R.locals
                  omega
              | true =>
                refine vx_runSN (bytes := z_b m') (maxL := z_ml m') (ret := z_ret m') (ws := z_ws m') (rm := z_room m' k1) (n := z_na m') (own := z_on (z_own m)) (host := "IslandReserve") (index := j) (y := z_y m') (nL := z_ml m) (cc := z_b m) (Ts := z_good) ⟨hx, hb, hml, hown, hts⟩ hM
                  ⟨⟨⟨rfl, rfl, ?_, ?_, hws, hcw⟩, hcw2, hts _ hini, hmh, z_np hnp, va_Nw.use rfl (hcx.2.2.2.1 _ (z_misc_in hw rfl))⟩, hts _ hvi1, trivial⟩ hpv rfl hlen' hLS.1 hstack hroom hd ⟨by omega, by omega⟩
                · show z_FR m' + 1 ≤ R.frames
                  omega
                · show 8 + (z_ml m' + 11) + z_LR m' ≤ R.locals
                  omega
            | cons x9 t9 =>
              rw [z_codeWh hhh] at hcw hcw2
              cases nb with
              | true =>
                rw [hh' rfl] at hhh
                cases hhh
              | false =>
                refine vx_runSX (hh := z_hh m') (bytes := z_b m') (maxL := z_ml m') (ret := z_ret m') (ws := z_ws m') (rm := z_room m' k1) (n := z_na m') (own := z_on (z_own m)) (index := j) (y := z_y m') (nL := z_ml m) (cc := z_b m) (Ts := z_good) ⟨hx, hb, hml, hown, hts⟩ hM
                  ⟨⟨rfl, rfl, ?_, ?_, hws, hcw⟩, hcw2, hts _ hini, hmh, z_np hnp, hts _ (z_good_in hw rfl), hts _ hvi1⟩ hpv rfl hlen' hLS.1 hstack hroom hd ⟨by omega, by omega⟩
                · show z_FR m' + 1 ≤ R.frames
                  omega
                · show 8 + (z_ml m' + 11) + z_LR m' ≤ R.locals
                  omega
          have hOn : z_Env p l R s mi args meth c (cells + k1) (slots + 6 * k1) D ad cs A b L xs sa m := ⟨⟨hx, hb, hml, hown, hts, hcx, hAD, hab, hfr, hlo, by omega, by omega⟩, hl, hlocks, htab⟩
          refine z_callG hrun hS ?_ ?_
          · intro er ce q9 H1 locs1 ho1 hP1 hS1 hce9 hcv9 hcl9
            subst ho1
            obtain ⟨hh, ho, hM9, hk9⟩ := hcont
            subst ho
            subst hM9
            have hQ := hX er rfl
            have ek : cells + k1 = cells + k := by omega
            have es : slots + 6 * k1 = slots + 6 * k := by omega
            rw [hQ, ek, es]
            exact z_pass hE0 hh hP1 hS1 hce9 hcv9 hcl9
          · intro v9 H1 locs1 ho1 hP1 hS1
            subst ho1
            dsimp only at hcont
            have hos9 : z_okS (v9.toList ++ r) = true := by
              cases v9 with
              | none => exact hor
              | some v8 => exact z_okS_mk (z_Ex_okv _ _ _ _ _ _ hex v8 rfl) hor
            have e9 : (v9.map (cv ad)).toList ++ r.map (cv ad) = (v9.toList ++ r).map (cv ad) := by cases v9 <;> rfl
            rw [e9]
            refine ih m _ o M' k2 hcont hOn (by omega) (by omega) ⟨hLS, hol, hos9, hP1, hS1⟩ (fun er9 ho9 => ?_) (fun H' locs' pc' LS9 st' i9 t9 k9 hi9 hr9 hP9 hS9 => ?_)
            · have hQ := hX er9 ho9
              rw [show cells + k1 + k2 = cells + k by omega, show slots + 6 * k1 + 6 * k2 = slots + 6 * k by omega]
              exact hQ
            · rw [show cells + k1 + k2 = cells + k by omega, show slots + 6 * k1 + 6 * k2 = slots + 6 * k by omega]
              exact hI H' locs' pc' LS9 st' i9 t9 k9 hi9 hr9 hP9 hS9
      · obtain ⟨c', O, h1, h2, h3⟩ := h
        exact z_st1_snd hE0.1 rfl hi h1 h2 (fun H' locs' LS' hp' => ih m c' o M' k h3 hE0 hcell hslot hp' hX hI) hp
end ZE

