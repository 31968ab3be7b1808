/-! THE CLASS'S MEMORY BY ISLANDS -/
def cmx (I R : Nat → Nat → Int32) : Nat → Nat → Nat → Int32 := fun g p k =>
  bif Nat.ble 2 p && Nat.ble p 9 then (bif Nat.blt k 4 then I g (4 * (p - 2) + k) else 0)
  else bif Nat.beq p 11 then (bif Nat.blt k 48 then I (g / 7) (bif Nat.beq (g % 7) 0 then 40 + k else 88 + 6 * k + (g % 7 - 1)) else 0)
  else bif Nat.beq p 12 then (bif Nat.blt k 2 then I g (32 + k) else 0)
  else bif Nat.beq p 0 then (bif Nat.ble 3 k && Nat.ble k 6 then I g (31 + k) else 0)
  else bif Nat.beq g 0 then R p k else 0
def setI (I : Nat → Nat → Int32) (f : Nat) (u : Nat → Int32) : Nat → Nat → Int32 := fun g j => if g = f then u j else I g j
def hpl (r k : Nat) : Nat := if r = 0 then 40 + k else 88 + 6 * k + (r - 1)
theorem setI_eq {I : Nat → Nat → Int32} {f : Nat} {u : Nat → Int32} : setI I f u f = u := by
  funext j
  exact if_pos rfl
theorem setI_ne {I : Nat → Nat → Int32} {f g : Nat} {u : Nat → Int32} (h : g ≠ f) : setI I f u g = I g := by
  funext j
  exact if_neg h
theorem setI_self {I : Nat → Nat → Int32} {f : Nat} : setI I f (I f) = I := by
  funext g j
  unfold setI
  split
  · rename_i h; rw [h]
  · rfl
theorem setI_setI {I : Nat → Nat → Int32} {f : Nat} {u w : Nat → Int32} : setI (setI I f u) f w = setI I f w := by
  funext g j
  unfold setI
  split <;> rfl
theorem cmx_off {I R : Nat → Nat → Int32} {f p k g q j : Nat} {x : Int32} (e : ¬ (q = p ∧ g = f)) : up3 (cmx I R) f p k x g q j = cmx I R g q j := by
  unfold up3
  rw [if_neg e]
theorem cmx_on {I R : Nat → Nat → Int32} {f p k j : Nat} {x : Int32} : up3 (cmx I R) f p k x f p j = if j = k then x else cmx I R f p j := by
  unfold up3
  rw [if_pos ⟨rfl, rfl⟩]
  rfl
section CMX
variable {I R : Nat → Nat → Int32} {f p k r : Nat} {x : Int32}
theorem cmx_i (h2 : 2 ≤ p) (h9 : p ≤ 9) (hk : k < 4) : up3 (cmx I R) f p k x = cmx (setI I f (upd (I f) (4 * (p - 2) + k) x)) R := by
  funext g q j
  by_cases e : q = p ∧ g = f
  · obtain ⟨rfl, rfl⟩ := e
    rw [cmx_on]
    simp only [cmx, setI, upd, cond_eq_ite, Bool.and_eq_true, Nat.ble_eq, Nat.blt_eq, Nat.beq_eq]
    repeat' split
    all_goals try first | rfl | (exfalso; omega) | (subst_vars; rfl) | (simp_all; done) | (simp [upd, *]; done)
  · rw [cmx_off e]
    simp only [cmx, setI, upd, cond_eq_ite, Bool.and_eq_true, Nat.ble_eq, Nat.blt_eq, Nat.beq_eq]
    repeat' split
    all_goals first | rfl | (exfalso; omega) | (subst_vars; rfl)
theorem cmx_11 (hr : r < 7) (hk : k < 48) : up3 (cmx I R) (7 * f + r) 11 k x = cmx (setI I f (upd (I f) (hpl r k) x)) R := by
  funext g q j
  by_cases e : q = 11 ∧ g = 7 * f + r
  · obtain ⟨rfl, rfl⟩ := e
    rw [cmx_on]
    have e1 : (7 * f + r) / 7 = f := by omega
    have e2 : (7 * f + r) % 7 = r := by omega
    simp only [cmx, setI, upd, hpl, cond_eq_ite, Bool.and_eq_true, Nat.ble_eq, Nat.blt_eq, Nat.beq_eq, e1, e2]
    repeat' split
    all_goals try first | rfl | (exfalso; omega) | (subst_vars; rfl) | (simp_all; done) | (simp [upd, *]; done)
  · rw [cmx_off e]
    simp only [cmx, setI, upd, hpl, cond_eq_ite, Bool.and_eq_true, Nat.ble_eq, Nat.blt_eq, Nat.beq_eq]
    repeat' split
    all_goals first | rfl | (exfalso; omega) | (subst_vars; rfl) | (simp_all; done) | (simp [upd, *]; done)
theorem cmx_12 (hk : k < 2) : up3 (cmx I R) f 12 k x = cmx (setI I f (upd (I f) (32 + k) x)) R := by
  funext g q j
  by_cases e : q = 12 ∧ g = f
  · obtain ⟨rfl, rfl⟩ := e
    rw [cmx_on]
    simp only [cmx, setI, upd, cond_eq_ite, Bool.and_eq_true, Nat.ble_eq, Nat.blt_eq, Nat.beq_eq]
    repeat' split
    all_goals try first | rfl | (exfalso; omega) | (subst_vars; rfl) | (simp_all; done) | (simp [upd, *]; done)
  · rw [cmx_off e]
    simp only [cmx, setI, upd, cond_eq_ite, Bool.and_eq_true, Nat.ble_eq, Nat.blt_eq, Nat.beq_eq]
    repeat' split
    all_goals first | rfl | (exfalso; omega) | (subst_vars; rfl)
theorem cmx_0 (h3 : 3 ≤ k) (h6 : k ≤ 6) : up3 (cmx I R) f 0 k x = cmx (setI I f (upd (I f) (31 + k) x)) R := by
  funext g q j
  by_cases e : q = 0 ∧ g = f
  · obtain ⟨rfl, rfl⟩ := e
    rw [cmx_on]
    simp only [cmx, setI, upd, cond_eq_ite, Bool.and_eq_true, Nat.ble_eq, Nat.blt_eq, Nat.beq_eq]
    repeat' split
    all_goals try first | rfl | (exfalso; omega) | (subst_vars; rfl) | (simp_all; done) | (simp [upd, *]; done)
  · rw [cmx_off e]
    simp only [cmx, setI, upd, cond_eq_ite, Bool.and_eq_true, Nat.ble_eq, Nat.blt_eq, Nat.beq_eq]
    repeat' split
    all_goals first | rfl | (exfalso; omega) | (subst_vars; rfl)
theorem cmx_R (hp : 13 ≤ p) : up3 (cmx I R) 0 p k x = cmx I (up2 R p k x) := by
  funext g q j
  by_cases e : q = p ∧ g = 0
  · obtain ⟨rfl, rfl⟩ := e
    rw [cmx_on]
    simp only [cmx, up2, upd, cond_eq_ite, Bool.and_eq_true, Nat.ble_eq, Nat.blt_eq, Nat.beq_eq]
    repeat' split
    all_goals try first | rfl | (exfalso; omega) | (subst_vars; rfl) | (simp_all; done) | (simp [upd, *]; done)
  · rw [cmx_off e]
    simp only [cmx, up2, upd, cond_eq_ite, Bool.and_eq_true, Nat.ble_eq, Nat.blt_eq, Nat.beq_eq]
    repeat' split
    all_goals first | rfl | (exfalso; omega) | (subst_vars; rfl)
/-- the places that are seen -/
def vis (j : Nat) : Prop := j < 376 ∧ j ≠ 38 ∧ j ≠ 39
theorem cmx_congr {J : Nat → Nat → Int32} (h : ∀ g j, vis j → I g j = J g j) : cmx I R = cmx J R := by
  funext g q j
  simp only [cmx, cond_eq_ite, Bool.and_eq_true, Nat.ble_eq, Nat.blt_eq, Nat.beq_eq]
  repeat' split
  all_goals first | rfl | (refine h _ _ ?_; unfold vis; omega)
theorem cmx_r11 (hr : r < 7) (hk : k < 48) : cmx I R (7 * f + r) 11 k = I f (hpl r k) := by
  have e1 : (7 * f + r) / 7 = f := by omega
  have e2 : (7 * f + r) % 7 = r := by omega
  simp only [cmx, hpl, cond_eq_ite, Bool.and_eq_true, Nat.ble_eq, Nat.blt_eq, Nat.beq_eq, e1, e2]
  rw [if_neg (by omega), if_pos trivial, if_pos hk]
  repeat' split
  all_goals first | rfl | (exfalso; omega)
end CMX
-- copies
def mixI (P : Nat → Bool) (a b : Nat → Int32) : Nat → Int32 := fun j => bif P j then a j else b j
def rowP (r : Nat) : Nat → Bool := fun j => bif Nat.beq r 0 then Nat.ble 40 j && Nat.blt j 88 else Nat.ble 88 j && Nat.blt j 376 && Nat.beq ((j - 88) % 6) (r - 1)
def segP (a n : Nat) : Nat → Bool := fun j => Nat.ble a j && Nat.blt j (a + n)
section CPY
variable {I R : Nat → Nat → Int32} {a b p r : Nat} {u : Nat → Int32}
theorem cpy_i (hab : a ≠ b) (h2 : 2 ≤ p) (h9 : p ≤ 9) : z_cpy (cmx (setI I b u) R) a p b p 0 0 4 = cmx (setI I b (mixI (segP (4 * (p - 2)) 4) (I a) u)) R := by
  funext g q j
  unfold z_cpy
  by_cases e : q = p ∧ g = b
  · obtain ⟨rfl, rfl⟩ := e
    rw [if_pos ⟨rfl, rfl⟩]
    simp only [va_cpy, cmx, setI, mixI, segP, cond_eq_ite, Bool.and_eq_true, Nat.ble_eq, Nat.blt_eq, Nat.beq_eq]
    repeat' split
    all_goals try first | rfl | (exfalso; omega) | (subst_vars; rfl) | (congr 1; omega) | (simp_all; done) | (exfalso; simp only [Bool.and_eq_true, Nat.ble_eq, Nat.blt_eq, Nat.beq_eq] at *; omega)
  · rw [if_neg e]
    simp only [cmx, setI, mixI, segP, cond_eq_ite, Bool.and_eq_true, Nat.ble_eq, Nat.blt_eq, Nat.beq_eq]
    repeat' split
    all_goals first | rfl | (exfalso; omega) | (subst_vars; rfl)
theorem cpy_12 (hab : a ≠ b) : z_cpy (cmx (setI I b u) R) a 12 b 12 0 0 2 = cmx (setI I b (mixI (segP 32 2) (I a) u)) R := by
  funext g q j
  unfold z_cpy
  by_cases e : q = 12 ∧ g = b
  · obtain ⟨rfl, rfl⟩ := e
    rw [if_pos ⟨rfl, rfl⟩]
    simp only [va_cpy, cmx, setI, mixI, segP, cond_eq_ite, Bool.and_eq_true, Nat.ble_eq, Nat.blt_eq, Nat.beq_eq]
    repeat' split
    all_goals try first | rfl | (exfalso; omega) | (subst_vars; rfl) | (congr 1; omega) | (simp_all; done) | (exfalso; simp only [Bool.and_eq_true, Nat.ble_eq, Nat.blt_eq, Nat.beq_eq] at *; omega)
  · rw [if_neg e]
    simp only [cmx, setI, mixI, segP, cond_eq_ite, Bool.and_eq_true, Nat.ble_eq, Nat.blt_eq, Nat.beq_eq]
    repeat' split
    all_goals first | rfl | (exfalso; omega) | (subst_vars; rfl)
theorem cpy_11 (hab : a ≠ b) (hr : r < 7) : z_cpy (cmx (setI I b u) R) (7 * a + r) 11 (7 * b + r) 11 0 0 48 = cmx (setI I b (mixI (rowP r) (I a) u)) R := by
  funext g q j
  unfold z_cpy
  by_cases e : q = 11 ∧ g = 7 * b + r
  · obtain ⟨rfl, rfl⟩ := e
    rw [if_pos ⟨rfl, rfl⟩]
    have e1 : (7 * b + r) / 7 = b := by omega
    have e2 : (7 * b + r) % 7 = r := by omega
    have e3 : (7 * a + r) / 7 = a := by omega
    have e4 : (7 * a + r) % 7 = r := by omega
    simp only [va_cpy, cmx, setI, mixI, rowP, cond_eq_ite, Bool.and_eq_true, Nat.ble_eq, Nat.blt_eq, Nat.beq_eq, e1, e2, e3, e4]
    repeat' split
    all_goals try first | rfl | (exfalso; omega) | (subst_vars; rfl) | (congr 1; omega) | (simp_all; done) | (exfalso; simp only [Bool.and_eq_true, Nat.ble_eq, Nat.blt_eq, Nat.beq_eq] at *; omega)
  · rw [if_neg e]
    simp only [cmx, setI, mixI, rowP, cond_eq_ite, Bool.and_eq_true, Nat.ble_eq, Nat.blt_eq, Nat.beq_eq]
    repeat' split
    all_goals first | rfl | (exfalso; omega) | (subst_vars; rfl) | (simp_all; done) | (simp [upd, *]; done) | (exfalso; simp_all; omega)
end CPY
-- the islands by name, and the rest
def cmI (n t : Nat → Int32) (v : Nat → Nat → Int32) : Nat → Nat → Int32
  | 0 => n
  | 1 => t
  | g + 2 => v g
def cmR (ld sh o cd pl ka kb kc : Nat → Int32) : Nat → Nat → Int32 := fun q => if q = 24 then ld else if q = 23 then sh else if q = 16 then o else if q = 18 then cd else if q = 19 then pl else if q = 20 then ka else if q = 21 then kb else if q = 22 then kc else fun _ => 0
def cm (n t : Nat → Int32) (v : Nat → Nat → Int32) (ld sh o cd pl ka kb kc : Nat → Int32) : Nat → Nat → Nat → Int32 := cmx (cmI n t v) (cmR ld sh o cd pl ka kb kc)
section CM
variable {n t ld sh o cd pl ka kb kc u : Nat → Int32} {v : Nat → Nat → Int32} {p k r i : Nat} {x : Int32}
theorem setI_n : setI (cmI n t v) 0 u = cmI u t v := by
  funext g j
  match g with
  | 0 => rfl
  | 1 => rfl
  | g + 2 => rfl
theorem setI_t : setI (cmI n t v) 1 u = cmI n u v := by
  funext g j
  match g with
  | 0 => rfl
  | 1 => rfl
  | g + 2 =>
    show (if g + 2 = 1 then u j else v g j) = v g j
    rw [if_neg (by omega)]
theorem setI_v : setI (cmI n t v) (i + 2) u = cmI n t (setI v i u) := by
  funext g j
  match g with
  | 0 => rfl
  | 1 => 
    show (if 1 = i + 2 then u j else t j) = t j
    rw [if_neg (by omega)]
  | g + 2 =>
    show (if g + 2 = i + 2 then u j else v g j) = if g = i then u j else v g j
    by_cases h : g = i
    · rw [if_pos h, if_pos (by omega)]
    · rw [if_neg h, if_neg (by omega)]
theorem cmn_i (h2 : 2 ≤ p) (h9 : p ≤ 9) (hk : k < 4) : up3 (cm n t v ld sh o cd pl ka kb kc) 0 p k x = cm (upd n (4 * (p - 2) + k) x) t v ld sh o cd pl ka kb kc := by
  unfold cm
  rw [cmx_i h2 h9 hk, setI_n]
  rfl
theorem cmn_12 (hk : k < 2) : up3 (cm n t v ld sh o cd pl ka kb kc) 0 12 k x = cm (upd n (32 + k) x) t v ld sh o cd pl ka kb kc := by
  unfold cm
  rw [cmx_12 hk, setI_n]
  rfl
theorem cmn_0 (h3 : 3 ≤ k) (h6 : k ≤ 6) : up3 (cm n t v ld sh o cd pl ka kb kc) 0 0 k x = cm (upd n (31 + k) x) t v ld sh o cd pl ka kb kc := by
  unfold cm
  rw [cmx_0 h3 h6, setI_n]
  rfl
theorem cmn_11 (hr : r < 7) (hk : k < 48) : up3 (cm n t v ld sh o cd pl ka kb kc) (7 * 0 + r) 11 k x = cm (upd n (hpl r k) x) t v ld sh o cd pl ka kb kc := by
  unfold cm
  rw [cmx_11 hr hk, setI_n]
  rfl
theorem cmn_r11 (hr : r < 7) (hk : k < 48) : cm n t v ld sh o cd pl ka kb kc (7 * 0 + r) 11 k = n (hpl r k) := by
  unfold cm
  rw [cmx_r11 hr hk]
  rfl
theorem cmt_i (h2 : 2 ≤ p) (h9 : p ≤ 9) (hk : k < 4) : up3 (cm n t v ld sh o cd pl ka kb kc) 1 p k x = cm n (upd t (4 * (p - 2) + k) x) v ld sh o cd pl ka kb kc := by
  unfold cm
  rw [cmx_i h2 h9 hk, setI_t]
  rfl
theorem cmt_12 (hk : k < 2) : up3 (cm n t v ld sh o cd pl ka kb kc) 1 12 k x = cm n (upd t (32 + k) x) v ld sh o cd pl ka kb kc := by
  unfold cm
  rw [cmx_12 hk, setI_t]
  rfl
theorem cmt_0 (h3 : 3 ≤ k) (h6 : k ≤ 6) : up3 (cm n t v ld sh o cd pl ka kb kc) 1 0 k x = cm n (upd t (31 + k) x) v ld sh o cd pl ka kb kc := by
  unfold cm
  rw [cmx_0 h3 h6, setI_t]
  rfl
theorem cmt_11 (hr : r < 7) (hk : k < 48) : up3 (cm n t v ld sh o cd pl ka kb kc) (7 * 1 + r) 11 k x = cm n (upd t (hpl r k) x) v ld sh o cd pl ka kb kc := by
  unfold cm
  rw [cmx_11 hr hk, setI_t]
  rfl
theorem cmt_r11 (hr : r < 7) (hk : k < 48) : cm n t v ld sh o cd pl ka kb kc (7 * 1 + r) 11 k = t (hpl r k) := by
  unfold cm
  rw [cmx_r11 hr hk]
  rfl
theorem cmR_24 : up2 (cmR ld sh o cd pl ka kb kc) 24 k x = cmR (upd ld k x) sh o cd pl ka kb kc := by
  funext q
  unfold up2 cmR
  by_cases h : q = 24
  · subst h; rfl
  · simp [h]
theorem cm_24 : up3 (cm n t v ld sh o cd pl ka kb kc) 0 24 k x = cm n t v (upd ld k x) sh o cd pl ka kb kc := by
  unfold cm
  rw [cmx_R (by decide), cmR_24]
theorem cmR_23 : up2 (cmR ld sh o cd pl ka kb kc) 23 k x = cmR ld (upd sh k x) o cd pl ka kb kc := by
  funext q
  unfold up2 cmR
  by_cases h : q = 23
  · subst h; rfl
  · simp [h]
theorem cm_23 : up3 (cm n t v ld sh o cd pl ka kb kc) 0 23 k x = cm n t v ld (upd sh k x) o cd pl ka kb kc := by
  unfold cm
  rw [cmx_R (by decide), cmR_23]
theorem cmR_16 : up2 (cmR ld sh o cd pl ka kb kc) 16 k x = cmR ld sh (upd o k x) cd pl ka kb kc := by
  funext q
  unfold up2 cmR
  by_cases h : q = 16
  · subst h; rfl
  · simp [h]
theorem cm_16 : up3 (cm n t v ld sh o cd pl ka kb kc) 0 16 k x = cm n t v ld sh (upd o k x) cd pl ka kb kc := by
  unfold cm
  rw [cmx_R (by decide), cmR_16]
theorem cmR_18 : up2 (cmR ld sh o cd pl ka kb kc) 18 k x = cmR ld sh o (upd cd k x) pl ka kb kc := by
  funext q
  unfold up2 cmR
  by_cases h : q = 18
  · subst h; rfl
  · simp [h]
theorem cm_18 : up3 (cm n t v ld sh o cd pl ka kb kc) 0 18 k x = cm n t v ld sh o (upd cd k x) pl ka kb kc := by
  unfold cm
  rw [cmx_R (by decide), cmR_18]
theorem cmR_19 : up2 (cmR ld sh o cd pl ka kb kc) 19 k x = cmR ld sh o cd (upd pl k x) ka kb kc := by
  funext q
  unfold up2 cmR
  by_cases h : q = 19
  · subst h; rfl
  · simp [h]
theorem cm_19 : up3 (cm n t v ld sh o cd pl ka kb kc) 0 19 k x = cm n t v ld sh o cd (upd pl k x) ka kb kc := by
  unfold cm
  rw [cmx_R (by decide), cmR_19]
theorem cmR_20 : up2 (cmR ld sh o cd pl ka kb kc) 20 k x = cmR ld sh o cd pl (upd ka k x) kb kc := by
  funext q
  unfold up2 cmR
  by_cases h : q = 20
  · subst h; rfl
  · simp [h]
theorem cm_20 : up3 (cm n t v ld sh o cd pl ka kb kc) 0 20 k x = cm n t v ld sh o cd pl (upd ka k x) kb kc := by
  unfold cm
  rw [cmx_R (by decide), cmR_20]
theorem cmR_21 : up2 (cmR ld sh o cd pl ka kb kc) 21 k x = cmR ld sh o cd pl ka (upd kb k x) kc := by
  funext q
  unfold up2 cmR
  by_cases h : q = 21
  · subst h; rfl
  · simp [h]
theorem cm_21 : up3 (cm n t v ld sh o cd pl ka kb kc) 0 21 k x = cm n t v ld sh o cd pl ka (upd kb k x) kc := by
  unfold cm
  rw [cmx_R (by decide), cmR_21]
theorem cmR_22 : up2 (cmR ld sh o cd pl ka kb kc) 22 k x = cmR ld sh o cd pl ka kb (upd kc k x) := by
  funext q
  unfold up2 cmR
  by_cases h : q = 22
  · subst h; rfl
  · simp [h]
theorem cm_22 : up3 (cm n t v ld sh o cd pl ka kb kc) 0 22 k x = cm n t v ld sh o cd pl ka kb (upd kc k x) := by
  unfold cm
  rw [cmx_R (by decide), cmR_22]
theorem cmn_2_0 : up3 (cm n t v ld sh o cd pl ka kb kc) 0 2 0 x = cm (upd n 0 x) t v ld sh o cd pl ka kb kc := cmn_i (p := 2) (k := 0) (by decide) (by decide) (by decide)
theorem cmn_2_1 : up3 (cm n t v ld sh o cd pl ka kb kc) 0 2 1 x = cm (upd n 1 x) t v ld sh o cd pl ka kb kc := cmn_i (p := 2) (k := 1) (by decide) (by decide) (by decide)
theorem cmn_2_2 : up3 (cm n t v ld sh o cd pl ka kb kc) 0 2 2 x = cm (upd n 2 x) t v ld sh o cd pl ka kb kc := cmn_i (p := 2) (k := 2) (by decide) (by decide) (by decide)
theorem cmn_2_3 : up3 (cm n t v ld sh o cd pl ka kb kc) 0 2 3 x = cm (upd n 3 x) t v ld sh o cd pl ka kb kc := cmn_i (p := 2) (k := 3) (by decide) (by decide) (by decide)
theorem cmn_3_0 : up3 (cm n t v ld sh o cd pl ka kb kc) 0 3 0 x = cm (upd n 4 x) t v ld sh o cd pl ka kb kc := cmn_i (p := 3) (k := 0) (by decide) (by decide) (by decide)
theorem cmn_3_1 : up3 (cm n t v ld sh o cd pl ka kb kc) 0 3 1 x = cm (upd n 5 x) t v ld sh o cd pl ka kb kc := cmn_i (p := 3) (k := 1) (by decide) (by decide) (by decide)
theorem cmn_3_2 : up3 (cm n t v ld sh o cd pl ka kb kc) 0 3 2 x = cm (upd n 6 x) t v ld sh o cd pl ka kb kc := cmn_i (p := 3) (k := 2) (by decide) (by decide) (by decide)
theorem cmn_3_3 : up3 (cm n t v ld sh o cd pl ka kb kc) 0 3 3 x = cm (upd n 7 x) t v ld sh o cd pl ka kb kc := cmn_i (p := 3) (k := 3) (by decide) (by decide) (by decide)
theorem cmn_4_0 : up3 (cm n t v ld sh o cd pl ka kb kc) 0 4 0 x = cm (upd n 8 x) t v ld sh o cd pl ka kb kc := cmn_i (p := 4) (k := 0) (by decide) (by decide) (by decide)
theorem cmn_4_1 : up3 (cm n t v ld sh o cd pl ka kb kc) 0 4 1 x = cm (upd n 9 x) t v ld sh o cd pl ka kb kc := cmn_i (p := 4) (k := 1) (by decide) (by decide) (by decide)
theorem cmn_4_2 : up3 (cm n t v ld sh o cd pl ka kb kc) 0 4 2 x = cm (upd n 10 x) t v ld sh o cd pl ka kb kc := cmn_i (p := 4) (k := 2) (by decide) (by decide) (by decide)
theorem cmn_4_3 : up3 (cm n t v ld sh o cd pl ka kb kc) 0 4 3 x = cm (upd n 11 x) t v ld sh o cd pl ka kb kc := cmn_i (p := 4) (k := 3) (by decide) (by decide) (by decide)
theorem cmn_5_0 : up3 (cm n t v ld sh o cd pl ka kb kc) 0 5 0 x = cm (upd n 12 x) t v ld sh o cd pl ka kb kc := cmn_i (p := 5) (k := 0) (by decide) (by decide) (by decide)
theorem cmn_5_1 : up3 (cm n t v ld sh o cd pl ka kb kc) 0 5 1 x = cm (upd n 13 x) t v ld sh o cd pl ka kb kc := cmn_i (p := 5) (k := 1) (by decide) (by decide) (by decide)
theorem cmn_5_2 : up3 (cm n t v ld sh o cd pl ka kb kc) 0 5 2 x = cm (upd n 14 x) t v ld sh o cd pl ka kb kc := cmn_i (p := 5) (k := 2) (by decide) (by decide) (by decide)
theorem cmn_5_3 : up3 (cm n t v ld sh o cd pl ka kb kc) 0 5 3 x = cm (upd n 15 x) t v ld sh o cd pl ka kb kc := cmn_i (p := 5) (k := 3) (by decide) (by decide) (by decide)
theorem cmn_6_0 : up3 (cm n t v ld sh o cd pl ka kb kc) 0 6 0 x = cm (upd n 16 x) t v ld sh o cd pl ka kb kc := cmn_i (p := 6) (k := 0) (by decide) (by decide) (by decide)
theorem cmn_6_1 : up3 (cm n t v ld sh o cd pl ka kb kc) 0 6 1 x = cm (upd n 17 x) t v ld sh o cd pl ka kb kc := cmn_i (p := 6) (k := 1) (by decide) (by decide) (by decide)
theorem cmn_6_2 : up3 (cm n t v ld sh o cd pl ka kb kc) 0 6 2 x = cm (upd n 18 x) t v ld sh o cd pl ka kb kc := cmn_i (p := 6) (k := 2) (by decide) (by decide) (by decide)
theorem cmn_6_3 : up3 (cm n t v ld sh o cd pl ka kb kc) 0 6 3 x = cm (upd n 19 x) t v ld sh o cd pl ka kb kc := cmn_i (p := 6) (k := 3) (by decide) (by decide) (by decide)
theorem cmn_7_0 : up3 (cm n t v ld sh o cd pl ka kb kc) 0 7 0 x = cm (upd n 20 x) t v ld sh o cd pl ka kb kc := cmn_i (p := 7) (k := 0) (by decide) (by decide) (by decide)
theorem cmn_7_1 : up3 (cm n t v ld sh o cd pl ka kb kc) 0 7 1 x = cm (upd n 21 x) t v ld sh o cd pl ka kb kc := cmn_i (p := 7) (k := 1) (by decide) (by decide) (by decide)
theorem cmn_7_2 : up3 (cm n t v ld sh o cd pl ka kb kc) 0 7 2 x = cm (upd n 22 x) t v ld sh o cd pl ka kb kc := cmn_i (p := 7) (k := 2) (by decide) (by decide) (by decide)
theorem cmn_7_3 : up3 (cm n t v ld sh o cd pl ka kb kc) 0 7 3 x = cm (upd n 23 x) t v ld sh o cd pl ka kb kc := cmn_i (p := 7) (k := 3) (by decide) (by decide) (by decide)
theorem cmn_8_0 : up3 (cm n t v ld sh o cd pl ka kb kc) 0 8 0 x = cm (upd n 24 x) t v ld sh o cd pl ka kb kc := cmn_i (p := 8) (k := 0) (by decide) (by decide) (by decide)
theorem cmn_8_1 : up3 (cm n t v ld sh o cd pl ka kb kc) 0 8 1 x = cm (upd n 25 x) t v ld sh o cd pl ka kb kc := cmn_i (p := 8) (k := 1) (by decide) (by decide) (by decide)
theorem cmn_8_2 : up3 (cm n t v ld sh o cd pl ka kb kc) 0 8 2 x = cm (upd n 26 x) t v ld sh o cd pl ka kb kc := cmn_i (p := 8) (k := 2) (by decide) (by decide) (by decide)
theorem cmn_8_3 : up3 (cm n t v ld sh o cd pl ka kb kc) 0 8 3 x = cm (upd n 27 x) t v ld sh o cd pl ka kb kc := cmn_i (p := 8) (k := 3) (by decide) (by decide) (by decide)
theorem cmn_9_0 : up3 (cm n t v ld sh o cd pl ka kb kc) 0 9 0 x = cm (upd n 28 x) t v ld sh o cd pl ka kb kc := cmn_i (p := 9) (k := 0) (by decide) (by decide) (by decide)
theorem cmn_9_1 : up3 (cm n t v ld sh o cd pl ka kb kc) 0 9 1 x = cm (upd n 29 x) t v ld sh o cd pl ka kb kc := cmn_i (p := 9) (k := 1) (by decide) (by decide) (by decide)
theorem cmn_9_2 : up3 (cm n t v ld sh o cd pl ka kb kc) 0 9 2 x = cm (upd n 30 x) t v ld sh o cd pl ka kb kc := cmn_i (p := 9) (k := 2) (by decide) (by decide) (by decide)
theorem cmn_9_3 : up3 (cm n t v ld sh o cd pl ka kb kc) 0 9 3 x = cm (upd n 31 x) t v ld sh o cd pl ka kb kc := cmn_i (p := 9) (k := 3) (by decide) (by decide) (by decide)
theorem cmn_12_0 : up3 (cm n t v ld sh o cd pl ka kb kc) 0 12 0 x = cm (upd n 32 x) t v ld sh o cd pl ka kb kc := cmn_12 (k := 0) (by decide)
theorem cmn_12_1 : up3 (cm n t v ld sh o cd pl ka kb kc) 0 12 1 x = cm (upd n 33 x) t v ld sh o cd pl ka kb kc := cmn_12 (k := 1) (by decide)
theorem cmn_0_3 : up3 (cm n t v ld sh o cd pl ka kb kc) 0 0 3 x = cm (upd n 34 x) t v ld sh o cd pl ka kb kc := cmn_0 (k := 3) (by decide) (by decide)
theorem cmn_0_4 : up3 (cm n t v ld sh o cd pl ka kb kc) 0 0 4 x = cm (upd n 35 x) t v ld sh o cd pl ka kb kc := cmn_0 (k := 4) (by decide) (by decide)
theorem cmn_0_5 : up3 (cm n t v ld sh o cd pl ka kb kc) 0 0 5 x = cm (upd n 36 x) t v ld sh o cd pl ka kb kc := cmn_0 (k := 5) (by decide) (by decide)
theorem cmn_0_6 : up3 (cm n t v ld sh o cd pl ka kb kc) 0 0 6 x = cm (upd n 37 x) t v ld sh o cd pl ka kb kc := cmn_0 (k := 6) (by decide) (by decide)
theorem cmn_11_0 (hk : k < 48) : up3 (cm n t v ld sh o cd pl ka kb kc) 0 11 k x = cm (upd n (40 + k) x) t v ld sh o cd pl ka kb kc := cmn_11 (r := 0) (by decide) hk
theorem cmn_r11_0 (hk : k < 48) : cm n t v ld sh o cd pl ka kb kc 0 11 k = n (40 + k) := cmn_r11 (r := 0) (by decide) hk
theorem cmn_11_1 (hk : k < 48) : up3 (cm n t v ld sh o cd pl ka kb kc) 1 11 k x = cm (upd n (88 + 6 * k + 0) x) t v ld sh o cd pl ka kb kc := cmn_11 (r := 1) (by decide) hk
theorem cmn_r11_1 (hk : k < 48) : cm n t v ld sh o cd pl ka kb kc 1 11 k = n (88 + 6 * k + 0) := cmn_r11 (r := 1) (by decide) hk
theorem cmn_11_2 (hk : k < 48) : up3 (cm n t v ld sh o cd pl ka kb kc) 2 11 k x = cm (upd n (88 + 6 * k + 1) x) t v ld sh o cd pl ka kb kc := cmn_11 (r := 2) (by decide) hk
theorem cmn_r11_2 (hk : k < 48) : cm n t v ld sh o cd pl ka kb kc 2 11 k = n (88 + 6 * k + 1) := cmn_r11 (r := 2) (by decide) hk
theorem cmn_11_3 (hk : k < 48) : up3 (cm n t v ld sh o cd pl ka kb kc) 3 11 k x = cm (upd n (88 + 6 * k + 2) x) t v ld sh o cd pl ka kb kc := cmn_11 (r := 3) (by decide) hk
theorem cmn_r11_3 (hk : k < 48) : cm n t v ld sh o cd pl ka kb kc 3 11 k = n (88 + 6 * k + 2) := cmn_r11 (r := 3) (by decide) hk
theorem cmn_11_4 (hk : k < 48) : up3 (cm n t v ld sh o cd pl ka kb kc) 4 11 k x = cm (upd n (88 + 6 * k + 3) x) t v ld sh o cd pl ka kb kc := cmn_11 (r := 4) (by decide) hk
theorem cmn_r11_4 (hk : k < 48) : cm n t v ld sh o cd pl ka kb kc 4 11 k = n (88 + 6 * k + 3) := cmn_r11 (r := 4) (by decide) hk
theorem cmn_11_5 (hk : k < 48) : up3 (cm n t v ld sh o cd pl ka kb kc) 5 11 k x = cm (upd n (88 + 6 * k + 4) x) t v ld sh o cd pl ka kb kc := cmn_11 (r := 5) (by decide) hk
theorem cmn_r11_5 (hk : k < 48) : cm n t v ld sh o cd pl ka kb kc 5 11 k = n (88 + 6 * k + 4) := cmn_r11 (r := 5) (by decide) hk
theorem cmn_11_6 (hk : k < 48) : up3 (cm n t v ld sh o cd pl ka kb kc) 6 11 k x = cm (upd n (88 + 6 * k + 5) x) t v ld sh o cd pl ka kb kc := cmn_11 (r := 6) (by decide) hk
theorem cmn_r11_6 (hk : k < 48) : cm n t v ld sh o cd pl ka kb kc 6 11 k = n (88 + 6 * k + 5) := cmn_r11 (r := 6) (by decide) hk
theorem cmt_2_0 : up3 (cm n t v ld sh o cd pl ka kb kc) 1 2 0 x = cm n (upd t 0 x) v ld sh o cd pl ka kb kc := cmt_i (p := 2) (k := 0) (by decide) (by decide) (by decide)
theorem cmt_2_1 : up3 (cm n t v ld sh o cd pl ka kb kc) 1 2 1 x = cm n (upd t 1 x) v ld sh o cd pl ka kb kc := cmt_i (p := 2) (k := 1) (by decide) (by decide) (by decide)
theorem cmt_2_2 : up3 (cm n t v ld sh o cd pl ka kb kc) 1 2 2 x = cm n (upd t 2 x) v ld sh o cd pl ka kb kc := cmt_i (p := 2) (k := 2) (by decide) (by decide) (by decide)
theorem cmt_2_3 : up3 (cm n t v ld sh o cd pl ka kb kc) 1 2 3 x = cm n (upd t 3 x) v ld sh o cd pl ka kb kc := cmt_i (p := 2) (k := 3) (by decide) (by decide) (by decide)
theorem cmt_3_0 : up3 (cm n t v ld sh o cd pl ka kb kc) 1 3 0 x = cm n (upd t 4 x) v ld sh o cd pl ka kb kc := cmt_i (p := 3) (k := 0) (by decide) (by decide) (by decide)
theorem cmt_3_1 : up3 (cm n t v ld sh o cd pl ka kb kc) 1 3 1 x = cm n (upd t 5 x) v ld sh o cd pl ka kb kc := cmt_i (p := 3) (k := 1) (by decide) (by decide) (by decide)
theorem cmt_3_2 : up3 (cm n t v ld sh o cd pl ka kb kc) 1 3 2 x = cm n (upd t 6 x) v ld sh o cd pl ka kb kc := cmt_i (p := 3) (k := 2) (by decide) (by decide) (by decide)
theorem cmt_3_3 : up3 (cm n t v ld sh o cd pl ka kb kc) 1 3 3 x = cm n (upd t 7 x) v ld sh o cd pl ka kb kc := cmt_i (p := 3) (k := 3) (by decide) (by decide) (by decide)
theorem cmt_4_0 : up3 (cm n t v ld sh o cd pl ka kb kc) 1 4 0 x = cm n (upd t 8 x) v ld sh o cd pl ka kb kc := cmt_i (p := 4) (k := 0) (by decide) (by decide) (by decide)
theorem cmt_4_1 : up3 (cm n t v ld sh o cd pl ka kb kc) 1 4 1 x = cm n (upd t 9 x) v ld sh o cd pl ka kb kc := cmt_i (p := 4) (k := 1) (by decide) (by decide) (by decide)
theorem cmt_4_2 : up3 (cm n t v ld sh o cd pl ka kb kc) 1 4 2 x = cm n (upd t 10 x) v ld sh o cd pl ka kb kc := cmt_i (p := 4) (k := 2) (by decide) (by decide) (by decide)
theorem cmt_4_3 : up3 (cm n t v ld sh o cd pl ka kb kc) 1 4 3 x = cm n (upd t 11 x) v ld sh o cd pl ka kb kc := cmt_i (p := 4) (k := 3) (by decide) (by decide) (by decide)
theorem cmt_5_0 : up3 (cm n t v ld sh o cd pl ka kb kc) 1 5 0 x = cm n (upd t 12 x) v ld sh o cd pl ka kb kc := cmt_i (p := 5) (k := 0) (by decide) (by decide) (by decide)
theorem cmt_5_1 : up3 (cm n t v ld sh o cd pl ka kb kc) 1 5 1 x = cm n (upd t 13 x) v ld sh o cd pl ka kb kc := cmt_i (p := 5) (k := 1) (by decide) (by decide) (by decide)
theorem cmt_5_2 : up3 (cm n t v ld sh o cd pl ka kb kc) 1 5 2 x = cm n (upd t 14 x) v ld sh o cd pl ka kb kc := cmt_i (p := 5) (k := 2) (by decide) (by decide) (by decide)
theorem cmt_5_3 : up3 (cm n t v ld sh o cd pl ka kb kc) 1 5 3 x = cm n (upd t 15 x) v ld sh o cd pl ka kb kc := cmt_i (p := 5) (k := 3) (by decide) (by decide) (by decide)
theorem cmt_6_0 : up3 (cm n t v ld sh o cd pl ka kb kc) 1 6 0 x = cm n (upd t 16 x) v ld sh o cd pl ka kb kc := cmt_i (p := 6) (k := 0) (by decide) (by decide) (by decide)
theorem cmt_6_1 : up3 (cm n t v ld sh o cd pl ka kb kc) 1 6 1 x = cm n (upd t 17 x) v ld sh o cd pl ka kb kc := cmt_i (p := 6) (k := 1) (by decide) (by decide) (by decide)
theorem cmt_6_2 : up3 (cm n t v ld sh o cd pl ka kb kc) 1 6 2 x = cm n (upd t 18 x) v ld sh o cd pl ka kb kc := cmt_i (p := 6) (k := 2) (by decide) (by decide) (by decide)
theorem cmt_6_3 : up3 (cm n t v ld sh o cd pl ka kb kc) 1 6 3 x = cm n (upd t 19 x) v ld sh o cd pl ka kb kc := cmt_i (p := 6) (k := 3) (by decide) (by decide) (by decide)
theorem cmt_7_0 : up3 (cm n t v ld sh o cd pl ka kb kc) 1 7 0 x = cm n (upd t 20 x) v ld sh o cd pl ka kb kc := cmt_i (p := 7) (k := 0) (by decide) (by decide) (by decide)
theorem cmt_7_1 : up3 (cm n t v ld sh o cd pl ka kb kc) 1 7 1 x = cm n (upd t 21 x) v ld sh o cd pl ka kb kc := cmt_i (p := 7) (k := 1) (by decide) (by decide) (by decide)
theorem cmt_7_2 : up3 (cm n t v ld sh o cd pl ka kb kc) 1 7 2 x = cm n (upd t 22 x) v ld sh o cd pl ka kb kc := cmt_i (p := 7) (k := 2) (by decide) (by decide) (by decide)
theorem cmt_7_3 : up3 (cm n t v ld sh o cd pl ka kb kc) 1 7 3 x = cm n (upd t 23 x) v ld sh o cd pl ka kb kc := cmt_i (p := 7) (k := 3) (by decide) (by decide) (by decide)
theorem cmt_8_0 : up3 (cm n t v ld sh o cd pl ka kb kc) 1 8 0 x = cm n (upd t 24 x) v ld sh o cd pl ka kb kc := cmt_i (p := 8) (k := 0) (by decide) (by decide) (by decide)
theorem cmt_8_1 : up3 (cm n t v ld sh o cd pl ka kb kc) 1 8 1 x = cm n (upd t 25 x) v ld sh o cd pl ka kb kc := cmt_i (p := 8) (k := 1) (by decide) (by decide) (by decide)
theorem cmt_8_2 : up3 (cm n t v ld sh o cd pl ka kb kc) 1 8 2 x = cm n (upd t 26 x) v ld sh o cd pl ka kb kc := cmt_i (p := 8) (k := 2) (by decide) (by decide) (by decide)
theorem cmt_8_3 : up3 (cm n t v ld sh o cd pl ka kb kc) 1 8 3 x = cm n (upd t 27 x) v ld sh o cd pl ka kb kc := cmt_i (p := 8) (k := 3) (by decide) (by decide) (by decide)
theorem cmt_9_0 : up3 (cm n t v ld sh o cd pl ka kb kc) 1 9 0 x = cm n (upd t 28 x) v ld sh o cd pl ka kb kc := cmt_i (p := 9) (k := 0) (by decide) (by decide) (by decide)
theorem cmt_9_1 : up3 (cm n t v ld sh o cd pl ka kb kc) 1 9 1 x = cm n (upd t 29 x) v ld sh o cd pl ka kb kc := cmt_i (p := 9) (k := 1) (by decide) (by decide) (by decide)
theorem cmt_9_2 : up3 (cm n t v ld sh o cd pl ka kb kc) 1 9 2 x = cm n (upd t 30 x) v ld sh o cd pl ka kb kc := cmt_i (p := 9) (k := 2) (by decide) (by decide) (by decide)
theorem cmt_9_3 : up3 (cm n t v ld sh o cd pl ka kb kc) 1 9 3 x = cm n (upd t 31 x) v ld sh o cd pl ka kb kc := cmt_i (p := 9) (k := 3) (by decide) (by decide) (by decide)
theorem cmt_12_0 : up3 (cm n t v ld sh o cd pl ka kb kc) 1 12 0 x = cm n (upd t 32 x) v ld sh o cd pl ka kb kc := cmt_12 (k := 0) (by decide)
theorem cmt_12_1 : up3 (cm n t v ld sh o cd pl ka kb kc) 1 12 1 x = cm n (upd t 33 x) v ld sh o cd pl ka kb kc := cmt_12 (k := 1) (by decide)
theorem cmt_0_3 : up3 (cm n t v ld sh o cd pl ka kb kc) 1 0 3 x = cm n (upd t 34 x) v ld sh o cd pl ka kb kc := cmt_0 (k := 3) (by decide) (by decide)
theorem cmt_0_4 : up3 (cm n t v ld sh o cd pl ka kb kc) 1 0 4 x = cm n (upd t 35 x) v ld sh o cd pl ka kb kc := cmt_0 (k := 4) (by decide) (by decide)
theorem cmt_0_5 : up3 (cm n t v ld sh o cd pl ka kb kc) 1 0 5 x = cm n (upd t 36 x) v ld sh o cd pl ka kb kc := cmt_0 (k := 5) (by decide) (by decide)
theorem cmt_0_6 : up3 (cm n t v ld sh o cd pl ka kb kc) 1 0 6 x = cm n (upd t 37 x) v ld sh o cd pl ka kb kc := cmt_0 (k := 6) (by decide) (by decide)
theorem cmt_11_0 (hk : k < 48) : up3 (cm n t v ld sh o cd pl ka kb kc) 7 11 k x = cm n (upd t (40 + k) x) v ld sh o cd pl ka kb kc := cmt_11 (r := 0) (by decide) hk
theorem cmt_r11_0 (hk : k < 48) : cm n t v ld sh o cd pl ka kb kc 7 11 k = t (40 + k) := cmt_r11 (r := 0) (by decide) hk
theorem cmt_11_1 (hk : k < 48) : up3 (cm n t v ld sh o cd pl ka kb kc) 8 11 k x = cm n (upd t (88 + 6 * k + 0) x) v ld sh o cd pl ka kb kc := cmt_11 (r := 1) (by decide) hk
theorem cmt_r11_1 (hk : k < 48) : cm n t v ld sh o cd pl ka kb kc 8 11 k = t (88 + 6 * k + 0) := cmt_r11 (r := 1) (by decide) hk
theorem cmt_11_2 (hk : k < 48) : up3 (cm n t v ld sh o cd pl ka kb kc) 9 11 k x = cm n (upd t (88 + 6 * k + 1) x) v ld sh o cd pl ka kb kc := cmt_11 (r := 2) (by decide) hk
theorem cmt_r11_2 (hk : k < 48) : cm n t v ld sh o cd pl ka kb kc 9 11 k = t (88 + 6 * k + 1) := cmt_r11 (r := 2) (by decide) hk
theorem cmt_11_3 (hk : k < 48) : up3 (cm n t v ld sh o cd pl ka kb kc) 10 11 k x = cm n (upd t (88 + 6 * k + 2) x) v ld sh o cd pl ka kb kc := cmt_11 (r := 3) (by decide) hk
theorem cmt_r11_3 (hk : k < 48) : cm n t v ld sh o cd pl ka kb kc 10 11 k = t (88 + 6 * k + 2) := cmt_r11 (r := 3) (by decide) hk
theorem cmt_11_4 (hk : k < 48) : up3 (cm n t v ld sh o cd pl ka kb kc) 11 11 k x = cm n (upd t (88 + 6 * k + 3) x) v ld sh o cd pl ka kb kc := cmt_11 (r := 4) (by decide) hk
theorem cmt_r11_4 (hk : k < 48) : cm n t v ld sh o cd pl ka kb kc 11 11 k = t (88 + 6 * k + 3) := cmt_r11 (r := 4) (by decide) hk
theorem cmt_11_5 (hk : k < 48) : up3 (cm n t v ld sh o cd pl ka kb kc) 12 11 k x = cm n (upd t (88 + 6 * k + 4) x) v ld sh o cd pl ka kb kc := cmt_11 (r := 5) (by decide) hk
theorem cmt_r11_5 (hk : k < 48) : cm n t v ld sh o cd pl ka kb kc 12 11 k = t (88 + 6 * k + 4) := cmt_r11 (r := 5) (by decide) hk
theorem cmt_11_6 (hk : k < 48) : up3 (cm n t v ld sh o cd pl ka kb kc) 13 11 k x = cm n (upd t (88 + 6 * k + 5) x) v ld sh o cd pl ka kb kc := cmt_11 (r := 6) (by decide) hk
theorem cmt_r11_6 (hk : k < 48) : cm n t v ld sh o cd pl ka kb kc 13 11 k = t (88 + 6 * k + 5) := cmt_r11 (r := 6) (by decide) hk
end CM

