/-! THE LAW: an order of the script -/
theorem ds_0 {xs : Nat → Int32} {L : Nat} {r : AV} {P : Mem → Prop} {s : Nat → Int32} {q : List (Nat → Int32)} {H : Nat} {M : Mem} (hV : Vs s H) (v : Int32) {k : Nat} (hk : k < 4) (e4 : lowV (v >>> ((4 : Int32) &&& 31)) (4 : Int32) = nI k)  (h0 : Wd s q M) (K : ∀ M', Wd s q M' → Fn xs L m_L_does (15, [some (aR 0 16), some (aI v), some (aI (nI k)), some (aI (s (16 + k))), none, none], [], M') r P) : Fn xs L m_L_does (0, [some (aR 0 16), some (aI v), none, none, none, none], [], M) r P := by
  refine Fn_blk 4 (c' := (4, [some (aR 0 16), some (aI v), none, none, none, none], [aI (4 : Int32), aI (v >>> ((4 : Int32) &&& 31))], M)) rfl trivial ?_
  refine Fn_pure (m' := m_L_low) (as := [aI (v >>> ((4 : Int32) &&& 31)), aI (4 : Int32)]) (rr := []) (e_low _ _ _ (by decide)) rfl rfl ?_
  refine Fn_eq (c' := (7, [some (aR 0 16), some (aI v), none, none, none, none], [aI (nI k)], M)) (by rw [e4]) ?_
  refine Fn_blk 4 (c' := (11, [some (aR 0 16), some (aI v), some (aI (nI k)), none, none, none], [aI (4 : Int32), aI (nI k), aR 0 16], M)) rfl trivial ?_
  refine Fn_call (m' := m_X4_setOf) (as := [aR 0 16, aI (nI k), aI (4 : Int32)]) (rr := []) (q_setOf_4 hV hk) h0 rfl rfl (fun M1 w1 => ?_)
  refine Fn_blk 1 (c' := (15, [some (aR 0 16), some (aI v), some (aI (nI k)), some (aI (s (16 + k))), none, none], [], M1)) rfl trivial ?_
  exact K _ w1
theorem dj_0 {xs : Nat → Int32} {L : Nat} {r : AV} {P : Mem → Prop} {s : Nat → Int32} {q : List (Nat → Int32)} {H : Nat} {M : Mem} (v : Int32) {k : Nat} (ec : v &&& (15 : Int32) = (0 : Int32))  (h0 : Wd s q M) (K : ∀ M', Wd s q M' → Fn xs L m_L_does (84, [some (aR 0 16), some (aI v), some (aI (nI k)), some (aI (s (16 + k))), none, none], [], M') r P) : Fn xs L m_L_does (15, [some (aR 0 16), some (aI v), some (aI (nI k)), some (aI (s (16 + k))), none, none], [], M) r P := by
  refine Fn_blk 3 (c' := (19, [some (aR 0 16), some (aI v), some (aI (nI k)), some (aI (s (16 + k))), none, none], [aI (v &&& (15 : Int32))], M)) rfl trivial ?_
  refine Fn_eq (c' := (19, [some (aR 0 16), some (aI v), some (aI (nI k)), some (aI (s (16 + k))), none, none], [aI (0 : Int32)], M)) (by rw [ec]) ?_
  refine Fn_blk 1 (c' := (84, [some (aR 0 16), some (aI v), some (aI (nI k)), some (aI (s (16 + k))), none, none], [], M)) rfl trivial ?_
  exact K _ h0
theorem dj_1 {xs : Nat → Int32} {L : Nat} {r : AV} {P : Mem → Prop} {s : Nat → Int32} {q : List (Nat → Int32)} {H : Nat} {M : Mem} (v : Int32) {k : Nat} (ec : v &&& (15 : Int32) = (1 : Int32))  (h0 : Wd s q M) (K : ∀ M', Wd s q M' → Fn xs L m_L_does (84, [some (aR 0 16), some (aI v), some (aI (nI k)), some (aI (s (16 + k))), none, none], [], M') r P) : Fn xs L m_L_does (15, [some (aR 0 16), some (aI v), some (aI (nI k)), some (aI (s (16 + k))), none, none], [], M) r P := by
  refine Fn_blk 3 (c' := (19, [some (aR 0 16), some (aI v), some (aI (nI k)), some (aI (s (16 + k))), none, none], [aI (v &&& (15 : Int32))], M)) rfl trivial ?_
  refine Fn_eq (c' := (19, [some (aR 0 16), some (aI v), some (aI (nI k)), some (aI (s (16 + k))), none, none], [aI (1 : Int32)], M)) (by rw [ec]) ?_
  refine Fn_blk 1 (c' := (84, [some (aR 0 16), some (aI v), some (aI (nI k)), some (aI (s (16 + k))), none, none], [], M)) rfl trivial ?_
  exact K _ h0
theorem dj_2 {xs : Nat → Int32} {L : Nat} {r : AV} {P : Mem → Prop} {s : Nat → Int32} {q : List (Nat → Int32)} {H : Nat} {M : Mem} (v : Int32) {k : Nat} (ec : v &&& (15 : Int32) = (2 : Int32))  (h0 : Wd s q M) (K : ∀ M', Wd s q M' → Fn xs L m_L_does (84, [some (aR 0 16), some (aI v), some (aI (nI k)), some (aI (s (16 + k))), none, none], [], M') r P) : Fn xs L m_L_does (15, [some (aR 0 16), some (aI v), some (aI (nI k)), some (aI (s (16 + k))), none, none], [], M) r P := by
  refine Fn_blk 3 (c' := (19, [some (aR 0 16), some (aI v), some (aI (nI k)), some (aI (s (16 + k))), none, none], [aI (v &&& (15 : Int32))], M)) rfl trivial ?_
  refine Fn_eq (c' := (19, [some (aR 0 16), some (aI v), some (aI (nI k)), some (aI (s (16 + k))), none, none], [aI (2 : Int32)], M)) (by rw [ec]) ?_
  refine Fn_blk 1 (c' := (84, [some (aR 0 16), some (aI v), some (aI (nI k)), some (aI (s (16 + k))), none, none], [], M)) rfl trivial ?_
  exact K _ h0
theorem dj_3 {xs : Nat → Int32} {L : Nat} {r : AV} {P : Mem → Prop} {s : Nat → Int32} {q : List (Nat → Int32)} {H : Nat} {M : Mem} (v : Int32) {k : Nat} (ec : v &&& (15 : Int32) = (3 : Int32))  (h0 : Wd s q M) (K : ∀ M', Wd s q M' → Fn xs L m_L_does (84, [some (aR 0 16), some (aI v), some (aI (nI k)), some (aI (s (16 + k))), none, none], [], M') r P) : Fn xs L m_L_does (15, [some (aR 0 16), some (aI v), some (aI (nI k)), some (aI (s (16 + k))), none, none], [], M) r P := by
  refine Fn_blk 3 (c' := (19, [some (aR 0 16), some (aI v), some (aI (nI k)), some (aI (s (16 + k))), none, none], [aI (v &&& (15 : Int32))], M)) rfl trivial ?_
  refine Fn_eq (c' := (19, [some (aR 0 16), some (aI v), some (aI (nI k)), some (aI (s (16 + k))), none, none], [aI (3 : Int32)], M)) (by rw [ec]) ?_
  refine Fn_blk 1 (c' := (84, [some (aR 0 16), some (aI v), some (aI (nI k)), some (aI (s (16 + k))), none, none], [], M)) rfl trivial ?_
  exact K _ h0
theorem dj_4 {xs : Nat → Int32} {L : Nat} {r : AV} {P : Mem → Prop} {s : Nat → Int32} {q : List (Nat → Int32)} {H : Nat} {M : Mem} (v : Int32) {k : Nat} (ec : v &&& (15 : Int32) = (4 : Int32))  (h0 : Wd s q M) (K : ∀ M', Wd s q M' → Fn xs L m_L_does (98, [some (aR 0 16), some (aI v), some (aI (nI k)), some (aI (s (16 + k))), none, none], [], M') r P) : Fn xs L m_L_does (15, [some (aR 0 16), some (aI v), some (aI (nI k)), some (aI (s (16 + k))), none, none], [], M) r P := by
  refine Fn_blk 3 (c' := (19, [some (aR 0 16), some (aI v), some (aI (nI k)), some (aI (s (16 + k))), none, none], [aI (v &&& (15 : Int32))], M)) rfl trivial ?_
  refine Fn_eq (c' := (19, [some (aR 0 16), some (aI v), some (aI (nI k)), some (aI (s (16 + k))), none, none], [aI (4 : Int32)], M)) (by rw [ec]) ?_
  refine Fn_blk 1 (c' := (98, [some (aR 0 16), some (aI v), some (aI (nI k)), some (aI (s (16 + k))), none, none], [], M)) rfl trivial ?_
  exact K _ h0
theorem dj_5 {xs : Nat → Int32} {L : Nat} {r : AV} {P : Mem → Prop} {s : Nat → Int32} {q : List (Nat → Int32)} {H : Nat} {M : Mem} (v : Int32) {k : Nat} (ec : v &&& (15 : Int32) = (5 : Int32))  (h0 : Wd s q M) (K : ∀ M', Wd s q M' → Fn xs L m_L_does (118, [some (aR 0 16), some (aI v), some (aI (nI k)), some (aI (s (16 + k))), none, none], [], M') r P) : Fn xs L m_L_does (15, [some (aR 0 16), some (aI v), some (aI (nI k)), some (aI (s (16 + k))), none, none], [], M) r P := by
  refine Fn_blk 3 (c' := (19, [some (aR 0 16), some (aI v), some (aI (nI k)), some (aI (s (16 + k))), none, none], [aI (v &&& (15 : Int32))], M)) rfl trivial ?_
  refine Fn_eq (c' := (19, [some (aR 0 16), some (aI v), some (aI (nI k)), some (aI (s (16 + k))), none, none], [aI (5 : Int32)], M)) (by rw [ec]) ?_
  refine Fn_blk 1 (c' := (118, [some (aR 0 16), some (aI v), some (aI (nI k)), some (aI (s (16 + k))), none, none], [], M)) rfl trivial ?_
  exact K _ h0
theorem dj_6 {xs : Nat → Int32} {L : Nat} {r : AV} {P : Mem → Prop} {s : Nat → Int32} {q : List (Nat → Int32)} {H : Nat} {M : Mem} (v : Int32) {k : Nat} (ec : v &&& (15 : Int32) = (6 : Int32))  (h0 : Wd s q M) (K : ∀ M', Wd s q M' → Fn xs L m_L_does (142, [some (aR 0 16), some (aI v), some (aI (nI k)), some (aI (s (16 + k))), none, none], [], M') r P) : Fn xs L m_L_does (15, [some (aR 0 16), some (aI v), some (aI (nI k)), some (aI (s (16 + k))), none, none], [], M) r P := by
  refine Fn_blk 3 (c' := (19, [some (aR 0 16), some (aI v), some (aI (nI k)), some (aI (s (16 + k))), none, none], [aI (v &&& (15 : Int32))], M)) rfl trivial ?_
  refine Fn_eq (c' := (19, [some (aR 0 16), some (aI v), some (aI (nI k)), some (aI (s (16 + k))), none, none], [aI (6 : Int32)], M)) (by rw [ec]) ?_
  refine Fn_blk 1 (c' := (142, [some (aR 0 16), some (aI v), some (aI (nI k)), some (aI (s (16 + k))), none, none], [], M)) rfl trivial ?_
  exact K _ h0
theorem dj_7 {xs : Nat → Int32} {L : Nat} {r : AV} {P : Mem → Prop} {s : Nat → Int32} {q : List (Nat → Int32)} {H : Nat} {M : Mem} (v : Int32) {k : Nat} (ec : v &&& (15 : Int32) = (7 : Int32))  (h0 : Wd s q M) (K : ∀ M', Wd s q M' → Fn xs L m_L_does (142, [some (aR 0 16), some (aI v), some (aI (nI k)), some (aI (s (16 + k))), none, none], [], M') r P) : Fn xs L m_L_does (15, [some (aR 0 16), some (aI v), some (aI (nI k)), some (aI (s (16 + k))), none, none], [], M) r P := by
  refine Fn_blk 3 (c' := (19, [some (aR 0 16), some (aI v), some (aI (nI k)), some (aI (s (16 + k))), none, none], [aI (v &&& (15 : Int32))], M)) rfl trivial ?_
  refine Fn_eq (c' := (19, [some (aR 0 16), some (aI v), some (aI (nI k)), some (aI (s (16 + k))), none, none], [aI (7 : Int32)], M)) (by rw [ec]) ?_
  refine Fn_blk 1 (c' := (142, [some (aR 0 16), some (aI v), some (aI (nI k)), some (aI (s (16 + k))), none, none], [], M)) rfl trivial ?_
  exact K _ h0
theorem dj_8 {xs : Nat → Int32} {L : Nat} {r : AV} {P : Mem → Prop} {s : Nat → Int32} {q : List (Nat → Int32)} {H : Nat} {M : Mem} (v : Int32) {k : Nat} (ec : v &&& (15 : Int32) = (8 : Int32))  (h0 : Wd s q M) (K : ∀ M', Wd s q M' → Fn xs L m_L_does (219, [some (aR 0 16), some (aI v), some (aI (nI k)), some (aI (s (16 + k))), none, none], [], M') r P) : Fn xs L m_L_does (15, [some (aR 0 16), some (aI v), some (aI (nI k)), some (aI (s (16 + k))), none, none], [], M) r P := by
  refine Fn_blk 3 (c' := (19, [some (aR 0 16), some (aI v), some (aI (nI k)), some (aI (s (16 + k))), none, none], [aI (v &&& (15 : Int32))], M)) rfl trivial ?_
  refine Fn_eq (c' := (19, [some (aR 0 16), some (aI v), some (aI (nI k)), some (aI (s (16 + k))), none, none], [aI (8 : Int32)], M)) (by rw [ec]) ?_
  refine Fn_blk 1 (c' := (219, [some (aR 0 16), some (aI v), some (aI (nI k)), some (aI (s (16 + k))), none, none], [], M)) rfl trivial ?_
  exact K _ h0
theorem dj_9 {xs : Nat → Int32} {L : Nat} {r : AV} {P : Mem → Prop} {s : Nat → Int32} {q : List (Nat → Int32)} {H : Nat} {M : Mem} (v : Int32) {k : Nat} (ec : v &&& (15 : Int32) = (9 : Int32))  (h0 : Wd s q M) (K : ∀ M', Wd s q M' → Fn xs L m_L_does (224, [some (aR 0 16), some (aI v), some (aI (nI k)), some (aI (s (16 + k))), none, none], [], M') r P) : Fn xs L m_L_does (15, [some (aR 0 16), some (aI v), some (aI (nI k)), some (aI (s (16 + k))), none, none], [], M) r P := by
  refine Fn_blk 3 (c' := (19, [some (aR 0 16), some (aI v), some (aI (nI k)), some (aI (s (16 + k))), none, none], [aI (v &&& (15 : Int32))], M)) rfl trivial ?_
  refine Fn_eq (c' := (19, [some (aR 0 16), some (aI v), some (aI (nI k)), some (aI (s (16 + k))), none, none], [aI (9 : Int32)], M)) (by rw [ec]) ?_
  refine Fn_blk 1 (c' := (224, [some (aR 0 16), some (aI v), some (aI (nI k)), some (aI (s (16 + k))), none, none], [], M)) rfl trivial ?_
  exact K _ h0
theorem dj_10 {xs : Nat → Int32} {L : Nat} {r : AV} {P : Mem → Prop} {s : Nat → Int32} {q : List (Nat → Int32)} {H : Nat} {M : Mem} (v : Int32) {k : Nat} (ec : v &&& (15 : Int32) = (10 : Int32))  (h0 : Wd s q M) (K : ∀ M', Wd s q M' → Fn xs L m_L_does (224, [some (aR 0 16), some (aI v), some (aI (nI k)), some (aI (s (16 + k))), none, none], [], M') r P) : Fn xs L m_L_does (15, [some (aR 0 16), some (aI v), some (aI (nI k)), some (aI (s (16 + k))), none, none], [], M) r P := by
  refine Fn_blk 3 (c' := (19, [some (aR 0 16), some (aI v), some (aI (nI k)), some (aI (s (16 + k))), none, none], [aI (v &&& (15 : Int32))], M)) rfl trivial ?_
  refine Fn_eq (c' := (19, [some (aR 0 16), some (aI v), some (aI (nI k)), some (aI (s (16 + k))), none, none], [aI (10 : Int32)], M)) (by rw [ec]) ?_
  refine Fn_blk 1 (c' := (224, [some (aR 0 16), some (aI v), some (aI (nI k)), some (aI (s (16 + k))), none, none], [], M)) rfl trivial ?_
  exact K _ h0
theorem dj_11 {xs : Nat → Int32} {L : Nat} {r : AV} {P : Mem → Prop} {s : Nat → Int32} {q : List (Nat → Int32)} {H : Nat} {M : Mem} (v : Int32) {k : Nat} (ec : v &&& (15 : Int32) = (11 : Int32))  (h0 : Wd s q M) (K : ∀ M', Wd s q M' → Fn xs L m_L_does (224, [some (aR 0 16), some (aI v), some (aI (nI k)), some (aI (s (16 + k))), none, none], [], M') r P) : Fn xs L m_L_does (15, [some (aR 0 16), some (aI v), some (aI (nI k)), some (aI (s (16 + k))), none, none], [], M) r P := by
  refine Fn_blk 3 (c' := (19, [some (aR 0 16), some (aI v), some (aI (nI k)), some (aI (s (16 + k))), none, none], [aI (v &&& (15 : Int32))], M)) rfl trivial ?_
  refine Fn_eq (c' := (19, [some (aR 0 16), some (aI v), some (aI (nI k)), some (aI (s (16 + k))), none, none], [aI (11 : Int32)], M)) (by rw [ec]) ?_
  refine Fn_blk 1 (c' := (224, [some (aR 0 16), some (aI v), some (aI (nI k)), some (aI (s (16 + k))), none, none], [], M)) rfl trivial ?_
  exact K _ h0
theorem dj_12 {xs : Nat → Int32} {L : Nat} {r : AV} {P : Mem → Prop} {s : Nat → Int32} {q : List (Nat → Int32)} {H : Nat} {M : Mem} (v : Int32) {k : Nat} (ec : v &&& (15 : Int32) = (12 : Int32))  (h0 : Wd s q M) (K : ∀ M', Wd s q M' → Fn xs L m_L_does (247, [some (aR 0 16), some (aI v), some (aI (nI k)), some (aI (s (16 + k))), none, none], [], M') r P) : Fn xs L m_L_does (15, [some (aR 0 16), some (aI v), some (aI (nI k)), some (aI (s (16 + k))), none, none], [], M) r P := by
  refine Fn_blk 3 (c' := (19, [some (aR 0 16), some (aI v), some (aI (nI k)), some (aI (s (16 + k))), none, none], [aI (v &&& (15 : Int32))], M)) rfl trivial ?_
  refine Fn_eq (c' := (19, [some (aR 0 16), some (aI v), some (aI (nI k)), some (aI (s (16 + k))), none, none], [aI (12 : Int32)], M)) (by rw [ec]) ?_
  refine Fn_blk 1 (c' := (247, [some (aR 0 16), some (aI v), some (aI (nI k)), some (aI (s (16 + k))), none, none], [], M)) rfl trivial ?_
  exact K _ h0
theorem dj_13 {xs : Nat → Int32} {L : Nat} {r : AV} {P : Mem → Prop} {s : Nat → Int32} {q : List (Nat → Int32)} {H : Nat} {M : Mem} (v : Int32) {k : Nat} (ec : v &&& (15 : Int32) = (13 : Int32))  (h0 : Wd s q M) (K : ∀ M', Wd s q M' → Fn xs L m_L_does (286, [some (aR 0 16), some (aI v), some (aI (nI k)), some (aI (s (16 + k))), none, none], [], M') r P) : Fn xs L m_L_does (15, [some (aR 0 16), some (aI v), some (aI (nI k)), some (aI (s (16 + k))), none, none], [], M) r P := by
  refine Fn_blk 3 (c' := (19, [some (aR 0 16), some (aI v), some (aI (nI k)), some (aI (s (16 + k))), none, none], [aI (v &&& (15 : Int32))], M)) rfl trivial ?_
  refine Fn_eq (c' := (19, [some (aR 0 16), some (aI v), some (aI (nI k)), some (aI (s (16 + k))), none, none], [aI (13 : Int32)], M)) (by rw [ec]) ?_
  refine Fn_blk 1 (c' := (286, [some (aR 0 16), some (aI v), some (aI (nI k)), some (aI (s (16 + k))), none, none], [], M)) rfl trivial ?_
  exact K _ h0
theorem dj_14 {xs : Nat → Int32} {L : Nat} {r : AV} {P : Mem → Prop} {s : Nat → Int32} {q : List (Nat → Int32)} {H : Nat} {M : Mem} (v : Int32) {k : Nat} (ec : v &&& (15 : Int32) = (14 : Int32))  (h0 : Wd s q M) (K : ∀ M', Wd s q M' → Fn xs L m_L_does (286, [some (aR 0 16), some (aI v), some (aI (nI k)), some (aI (s (16 + k))), none, none], [], M') r P) : Fn xs L m_L_does (15, [some (aR 0 16), some (aI v), some (aI (nI k)), some (aI (s (16 + k))), none, none], [], M) r P := by
  refine Fn_blk 3 (c' := (19, [some (aR 0 16), some (aI v), some (aI (nI k)), some (aI (s (16 + k))), none, none], [aI (v &&& (15 : Int32))], M)) rfl trivial ?_
  refine Fn_eq (c' := (19, [some (aR 0 16), some (aI v), some (aI (nI k)), some (aI (s (16 + k))), none, none], [aI (14 : Int32)], M)) (by rw [ec]) ?_
  refine Fn_blk 1 (c' := (286, [some (aR 0 16), some (aI v), some (aI (nI k)), some (aI (s (16 + k))), none, none], [], M)) rfl trivial ?_
  exact K _ h0
theorem dj_15 {xs : Nat → Int32} {L : Nat} {r : AV} {P : Mem → Prop} {s : Nat → Int32} {q : List (Nat → Int32)} {H : Nat} {M : Mem} (v : Int32) {k : Nat} (ec : v &&& (15 : Int32) = (15 : Int32))  (h0 : Wd s q M) (K : ∀ M', Wd s q M' → Fn xs L m_L_does (286, [some (aR 0 16), some (aI v), some (aI (nI k)), some (aI (s (16 + k))), none, none], [], M') r P) : Fn xs L m_L_does (15, [some (aR 0 16), some (aI v), some (aI (nI k)), some (aI (s (16 + k))), none, none], [], M) r P := by
  refine Fn_blk 3 (c' := (19, [some (aR 0 16), some (aI v), some (aI (nI k)), some (aI (s (16 + k))), none, none], [aI (v &&& (15 : Int32))], M)) rfl trivial ?_
  refine Fn_eq (c' := (19, [some (aR 0 16), some (aI v), some (aI (nI k)), some (aI (s (16 + k))), none, none], [aI (15 : Int32)], M)) (by rw [ec]) ?_
  refine Fn_blk 1 (c' := (286, [some (aR 0 16), some (aI v), some (aI (nI k)), some (aI (s (16 + k))), none, none], [], M)) rfl trivial ?_
  exact K _ h0
theorem d84_t {xs : Nat → Int32} {L : Nat} {s : Nat → Int32} {H : Nat} {M : Mem} (hV : Vs s H) (v : Int32) {k : Nat} (hk : k < 4) (hp : s (16 + k) = 0)  (h0 : Wd s [] M) : Fn xs L m_L_does (84, [some (aR 0 16), some (aI v), some (aI (nI k)), some (aI (s (16 + k))), none, none], [], M) (aI (s (12 + k))) (Wd (bgF s k) [s]) := by
  refine Fn_blk 2 (c' := ((if (s (16 + k)) = 0 then 88 else 96), [some (aR 0 16), some (aI v), some (aI (nI k)), some (aI (s (16 + k))), none, none], [], M)) rfl trivial ?_
  refine Fn_if (hp) ?_
  refine Fn_blk 2 (c' := (90, [some (aR 0 16), some (aI v), some (aI (nI k)), some (aI (s (16 + k))), none, none], [aI (nI k), aR 0 16], M)) rfl trivial ?_
  refine Fn_call (m' := m_X4_start) (as := [aR 0 16, aI (nI k)]) (rr := []) (q_start hV hk hp (Nat.zero_le _)) h0 rfl rfl (fun M1 w1 => ?_)
  refine Fn_blk 1 (c' := (97, [some (aR 0 16), some (aI v), some (aI (nI k)), some (aI (s (16 + k))), none, none], [aI (s (12 + k))], M1)) rfl trivial ?_
  exact Fn_iret rfl rfl (by rfl) w1
theorem d84_n {xs : Nat → Int32} {L : Nat} {s : Nat → Int32} {H : Nat} {M : Mem} (hV : Vs s H) (v : Int32) {k : Nat} (hk : k < 4) (hp : ¬ s (16 + k) = 0)  (h0 : Wd s [] M) : Fn xs L m_L_does (84, [some (aR 0 16), some (aI v), some (aI (nI k)), some (aI (s (16 + k))), none, none], [], M) (aI (0 : Int32)) (Wd s []) := by
  refine Fn_blk 2 (c' := ((if (s (16 + k)) = 0 then 88 else 96), [some (aR 0 16), some (aI v), some (aI (nI k)), some (aI (s (16 + k))), none, none], [], M)) rfl trivial ?_
  refine Fn_else (hp) ?_
  refine Fn_blk 1 (c' := (97, [some (aR 0 16), some (aI v), some (aI (nI k)), some (aI (s (16 + k))), none, none], [aI (0 : Int32)], M)) rfl trivial ?_
  exact Fn_iret rfl rfl (by rfl) h0
theorem d98_1 {xs : Nat → Int32} {L : Nat} {s : Nat → Int32} {H : Nat} {M : Mem} (hV : Vs s H) (v : Int32) {k : Nat} (hk : k < 4) (hp : s (16 + k) = 1)  (h0 : Wd s [] M) : Fn xs L m_L_does (98, [some (aR 0 16), some (aI v), some (aI (nI k)), some (aI (s (16 + k))), none, none], [], M) (aI (bcF (mkF (fun j => spF s k (16 + j)) 2))) (Wd (spF s k) [s]) := by
  refine Fn_blk 3 (c' := ((if (s (16 + k)) = (1 : Int32) then 108 else 103), [some (aR 0 16), some (aI v), some (aI (nI k)), some (aI (s (16 + k))), none, none], [], M)) rfl trivial ?_
  refine Fn_if (hp) ?_
  refine Fn_blk 2 (c' := (110, [some (aR 0 16), some (aI v), some (aI (nI k)), some (aI (s (16 + k))), none, none], [aI (nI k), aR 0 16], M)) rfl trivial ?_
  refine Fn_call (m' := m_X4_stop) (as := [aR 0 16, aI (nI k)]) (rr := []) (q_stop hV hk (Or.inl hp) (Nat.zero_le _)) h0 rfl rfl (fun M1 w1 => ?_)
  refine Fn_blk 1 (c' := (117, [some (aR 0 16), some (aI v), some (aI (nI k)), some (aI (s (16 + k))), none, none], [aI (bcF (mkF (fun j => spF s k (16 + j)) 2))], M1)) rfl trivial ?_
  exact Fn_iret rfl rfl (by rfl) w1
theorem d98_2 {xs : Nat → Int32} {L : Nat} {s : Nat → Int32} {H : Nat} {M : Mem} (hV : Vs s H) (v : Int32) {k : Nat} (hk : k < 4) (h1 : ¬ s (16 + k) = 1) (hp : s (16 + k) = 2)  (h0 : Wd s [] M) : Fn xs L m_L_does (98, [some (aR 0 16), some (aI v), some (aI (nI k)), some (aI (s (16 + k))), none, none], [], M) (aI (bcF (mkF (fun j => spF s k (16 + j)) 2))) (Wd (spF s k) [s]) := by
  refine Fn_blk 3 (c' := ((if (s (16 + k)) = (1 : Int32) then 108 else 103), [some (aR 0 16), some (aI v), some (aI (nI k)), some (aI (s (16 + k))), none, none], [], M)) rfl trivial ?_
  refine Fn_else (h1) ?_
  refine Fn_blk 3 (c' := ((if (s (16 + k)) = (2 : Int32) then 108 else 116), [some (aR 0 16), some (aI v), some (aI (nI k)), some (aI (s (16 + k))), none, none], [], M)) rfl trivial ?_
  refine Fn_if (hp) ?_
  refine Fn_blk 2 (c' := (110, [some (aR 0 16), some (aI v), some (aI (nI k)), some (aI (s (16 + k))), none, none], [aI (nI k), aR 0 16], M)) rfl trivial ?_
  refine Fn_call (m' := m_X4_stop) (as := [aR 0 16, aI (nI k)]) (rr := []) (q_stop hV hk (Or.inr hp) (Nat.zero_le _)) h0 rfl rfl (fun M1 w1 => ?_)
  refine Fn_blk 1 (c' := (117, [some (aR 0 16), some (aI v), some (aI (nI k)), some (aI (s (16 + k))), none, none], [aI (bcF (mkF (fun j => spF s k (16 + j)) 2))], M1)) rfl trivial ?_
  exact Fn_iret rfl rfl (by rfl) w1
theorem d98_n {xs : Nat → Int32} {L : Nat} {s : Nat → Int32} {H : Nat} {M : Mem} (hV : Vs s H) (v : Int32) {k : Nat} (hk : k < 4) (h1 : ¬ s (16 + k) = 1) (hp : ¬ s (16 + k) = 2)  (h0 : Wd s [] M) : Fn xs L m_L_does (98, [some (aR 0 16), some (aI v), some (aI (nI k)), some (aI (s (16 + k))), none, none], [], M) (aI (0 : Int32)) (Wd s []) := by
  refine Fn_blk 3 (c' := ((if (s (16 + k)) = (1 : Int32) then 108 else 103), [some (aR 0 16), some (aI v), some (aI (nI k)), some (aI (s (16 + k))), none, none], [], M)) rfl trivial ?_
  refine Fn_else (h1) ?_
  refine Fn_blk 3 (c' := ((if (s (16 + k)) = (2 : Int32) then 108 else 116), [some (aR 0 16), some (aI v), some (aI (nI k)), some (aI (s (16 + k))), none, none], [], M)) rfl trivial ?_
  refine Fn_else (hp) ?_
  refine Fn_blk 1 (c' := (117, [some (aR 0 16), some (aI v), some (aI (nI k)), some (aI (s (16 + k))), none, none], [aI (0 : Int32)], M)) rfl trivial ?_
  exact Fn_iret rfl rfl (by rfl) h0
theorem d118_a {xs : Nat → Int32} {L : Nat} {s : Nat → Int32} {H : Nat} {M : Mem} (hV : Vs s H) (v : Int32) {k : Nat} (hk : k < 4) (h6 : (v >>> ((6 : Int32) &&& 31)) &&& (3 : Int32) = 0)  (h0 : Wd s [] M) : Fn xs L m_L_does (118, [some (aR 0 16), some (aI v), some (aI (nI k)), some (aI (s (16 + k))), none, none], [], M) (aI (if s (16 + k) = 3 then 0 else 1)) (Wd (loF s k) [s]) := by
  refine Fn_blk 6 (c' := ((if ((v >>> ((6 : Int32) &&& 31)) &&& (3 : Int32)) = 0 then 132 else 127), [some (aR 0 16), some (aI v), some (aI (nI k)), some (aI (s (16 + k))), none, none], [], M)) rfl trivial ?_
  refine Fn_if (h6) ?_
  refine Fn_blk 2 (c' := (134, [some (aR 0 16), some (aI v), some (aI (nI k)), some (aI (s (16 + k))), none, none], [aI (nI k), aR 0 16], M)) rfl trivial ?_
  refine Fn_call (m' := m_X4_lose) (as := [aR 0 16, aI (nI k)]) (rr := []) (q_lose hV hk (Nat.zero_le _)) h0 rfl rfl (fun M1 w1 => ?_)
  refine Fn_blk 1 (c' := (141, [some (aR 0 16), some (aI v), some (aI (nI k)), some (aI (s (16 + k))), none, none], [aI (if s (16 + k) = 3 then 0 else 1)], M1)) rfl trivial ?_
  exact Fn_iret rfl rfl (by rfl) w1
theorem d118_b {xs : Nat → Int32} {L : Nat} {s : Nat → Int32} {H : Nat} {M : Mem} (hV : Vs s H) (v : Int32) {k : Nat} (hk : k < 4) (h6 : ¬ (v >>> ((6 : Int32) &&& 31)) &&& (3 : Int32) = 0) (hp : s (16 + k) = 3)  (h0 : Wd s [] M) : Fn xs L m_L_does (118, [some (aR 0 16), some (aI v), some (aI (nI k)), some (aI (s (16 + k))), none, none], [], M) (aI (if s (16 + k) = 3 then 0 else 1)) (Wd (loF s k) [s]) := by
  refine Fn_blk 6 (c' := ((if ((v >>> ((6 : Int32) &&& 31)) &&& (3 : Int32)) = 0 then 132 else 127), [some (aR 0 16), some (aI v), some (aI (nI k)), some (aI (s (16 + k))), none, none], [], M)) rfl trivial ?_
  refine Fn_else (h6) ?_
  refine Fn_blk 3 (c' := ((if (s (16 + k)) = (3 : Int32) then 132 else 140), [some (aR 0 16), some (aI v), some (aI (nI k)), some (aI (s (16 + k))), none, none], [], M)) rfl trivial ?_
  refine Fn_if (hp) ?_
  refine Fn_blk 2 (c' := (134, [some (aR 0 16), some (aI v), some (aI (nI k)), some (aI (s (16 + k))), none, none], [aI (nI k), aR 0 16], M)) rfl trivial ?_
  refine Fn_call (m' := m_X4_lose) (as := [aR 0 16, aI (nI k)]) (rr := []) (q_lose hV hk (Nat.zero_le _)) h0 rfl rfl (fun M1 w1 => ?_)
  refine Fn_blk 1 (c' := (141, [some (aR 0 16), some (aI v), some (aI (nI k)), some (aI (s (16 + k))), none, none], [aI (if s (16 + k) = 3 then 0 else 1)], M1)) rfl trivial ?_
  exact Fn_iret rfl rfl (by rfl) w1
theorem d118_n {xs : Nat → Int32} {L : Nat} {s : Nat → Int32} {H : Nat} {M : Mem} (hV : Vs s H) (v : Int32) {k : Nat} (hk : k < 4) (h6 : ¬ (v >>> ((6 : Int32) &&& 31)) &&& (3 : Int32) = 0) (hp : ¬ s (16 + k) = 3)  (h0 : Wd s [] M) : Fn xs L m_L_does (118, [some (aR 0 16), some (aI v), some (aI (nI k)), some (aI (s (16 + k))), none, none], [], M) (aI (0 : Int32)) (Wd s []) := by
  refine Fn_blk 6 (c' := ((if ((v >>> ((6 : Int32) &&& 31)) &&& (3 : Int32)) = 0 then 132 else 127), [some (aR 0 16), some (aI v), some (aI (nI k)), some (aI (s (16 + k))), none, none], [], M)) rfl trivial ?_
  refine Fn_else (h6) ?_
  refine Fn_blk 3 (c' := ((if (s (16 + k)) = (3 : Int32) then 132 else 140), [some (aR 0 16), some (aI v), some (aI (nI k)), some (aI (s (16 + k))), none, none], [], M)) rfl trivial ?_
  refine Fn_else (hp) ?_
  refine Fn_blk 1 (c' := (141, [some (aR 0 16), some (aI v), some (aI (nI k)), some (aI (s (16 + k))), none, none], [aI (0 : Int32)], M)) rfl trivial ?_
  exact Fn_iret rfl rfl (by rfl) h0
theorem d142_a {xs : Nat → Int32} {L : Nat} {s : Nat → Int32} {H : Nat} {M : Mem} (hV : Vs s H) (v : Int32) {k : Nat} (hk : k < 4) (hp : s (16 + k) = 0) {a l m w : Nat} (ha : a < 400) (hm : m < 60) (hw : w < 5) (e6 : lowV (v >>> ((6 : Int32) &&& 31)) (400 : Int32) = nI a) (e9 : lowV (v >>> ((9 : Int32) &&& 31)) (120 : Int32) = nI l) (e11 : lowV (v >>> ((11 : Int32) &&& 31)) (60 : Int32) = nI m) (e8 : lowV (v >>> ((8 : Int32) &&& 31)) (5 : Int32) = nI w) (hl : l < 50 + a)  (h0 : Wd s [] M) : Fn xs L m_L_does (142, [some (aR 0 16), some (aI v), some (aI (nI k)), some (aI (s (16 + k))), none, none], [], M) (aI (s k)) (Wd (rtF s k (nI (50 + a)) (nI l) (nI (1 + m)) (nI w)) [s]) := by
  refine Fn_blk 5 (c' := (151, [some (aR 0 16), some (aI v), some (aI (nI k)), some (aI (s (16 + k))), none, none], [aI (400 : Int32), aI (v >>> ((6 : Int32) &&& 31)), aI (50 : Int32)], M)) rfl trivial ?_
  refine Fn_pure (m' := m_L_low) (as := [aI (v >>> ((6 : Int32) &&& 31)), aI (400 : Int32)]) (rr := [aI (50 : Int32)]) (e_low _ _ _ (by decide)) rfl rfl ?_
  refine Fn_eq (c' := (154, [some (aR 0 16), some (aI v), some (aI (nI k)), some (aI (s (16 + k))), none, none], [aI (nI a), aI (50 : Int32)], M)) (by rw [e6]) ?_
  refine Fn_blk 1 (c' := (155, [some (aR 0 16), some (aI v), some (aI (nI k)), some (aI (s (16 + k))), none, none], [aI ((50 : Int32) + (nI a))], M)) rfl trivial ?_
  refine Fn_eq (c' := (155, [some (aR 0 16), some (aI v), some (aI (nI k)), some (aI (s (16 + k))), none, none], [aI (nI (50 + a))], M)) (by rw [show (50 : Int32) = nI 50 from rfl, nI_add]) ?_
  refine Fn_blk 3 (c' := ((if (s (16 + k)) = 0 then 161 else 217), [some (aR 0 16), some (aI v), some (aI (nI k)), some (aI (s (16 + k))), some (aI (nI (50 + a))), none], [], M)) rfl trivial ?_
  refine Fn_if (hp) ?_
  refine Fn_blk 7 (c' := (171, [some (aR 0 16), some (aI v), some (aI (nI k)), some (aI (s (16 + k))), some (aI (nI (50 + a))), none], [aI (120 : Int32), aI (v >>> ((9 : Int32) &&& 31)), aI (nI (50 + a)), aI (nI k), aR 0 16], M)) rfl trivial ?_
  refine Fn_pure (m' := m_L_low) (as := [aI (v >>> ((9 : Int32) &&& 31)), aI (120 : Int32)]) (rr := [aI (nI (50 + a)), aI (nI k), aR 0 16]) (e_low _ _ _ (by decide)) rfl rfl ?_
  refine Fn_eq (c' := (174, [some (aR 0 16), some (aI v), some (aI (nI k)), some (aI (s (16 + k))), some (aI (nI (50 + a))), none], [aI (nI l), aI (nI (50 + a)), aI (nI k), aR 0 16], M)) (by rw [e9]) ?_
  refine Fn_blk 2 (c' := ((if (nI (50 + a)) ≤ (nI l) then 191 else 179), [some (aR 0 16), some (aI v), some (aI (nI k)), some (aI (s (16 + k))), some (aI (nI (50 + a))), none], [aI (nI (50 + a)), aI (nI k), aR 0 16], M)) rfl trivial ?_
  refine Fn_else (nI_ge hl (by omega)) ?_
  refine Fn_blk 4 (c' := (185, [some (aR 0 16), some (aI v), some (aI (nI k)), some (aI (s (16 + k))), some (aI (nI (50 + a))), none], [aI (120 : Int32), aI (v >>> ((9 : Int32) &&& 31)), aI (nI (50 + a)), aI (nI k), aR 0 16], M)) rfl trivial ?_
  refine Fn_pure (m' := m_L_low) (as := [aI (v >>> ((9 : Int32) &&& 31)), aI (120 : Int32)]) (rr := [aI (nI (50 + a)), aI (nI k), aR 0 16]) (e_low _ _ _ (by decide)) rfl rfl ?_
  refine Fn_eq (c' := (188, [some (aR 0 16), some (aI v), some (aI (nI k)), some (aI (s (16 + k))), some (aI (nI (50 + a))), none], [aI (nI l), aI (nI (50 + a)), aI (nI k), aR 0 16], M)) (by rw [e9]) ?_
  refine Fn_blk 6 (c' := (199, [some (aR 0 16), some (aI v), some (aI (nI k)), some (aI (s (16 + k))), some (aI (nI (50 + a))), none], [aI (60 : Int32), aI (v >>> ((11 : Int32) &&& 31)), aI (1 : Int32), aI (nI l), aI (nI (50 + a)), aI (nI k), aR 0 16], M)) rfl trivial ?_
  refine Fn_pure (m' := m_L_low) (as := [aI (v >>> ((11 : Int32) &&& 31)), aI (60 : Int32)]) (rr := [aI (1 : Int32), aI (nI l), aI (nI (50 + a)), aI (nI k), aR 0 16]) (e_low _ _ _ (by decide)) rfl rfl ?_
  refine Fn_eq (c' := (202, [some (aR 0 16), some (aI v), some (aI (nI k)), some (aI (s (16 + k))), some (aI (nI (50 + a))), none], [aI (nI m), aI (1 : Int32), aI (nI l), aI (nI (50 + a)), aI (nI k), aR 0 16], M)) (by rw [e11]) ?_
  refine Fn_blk 1 (c' := (203, [some (aR 0 16), some (aI v), some (aI (nI k)), some (aI (s (16 + k))), some (aI (nI (50 + a))), none], [aI ((1 : Int32) + (nI m)), aI (nI l), aI (nI (50 + a)), aI (nI k), aR 0 16], M)) rfl trivial ?_
  refine Fn_eq (c' := (203, [some (aR 0 16), some (aI v), some (aI (nI k)), some (aI (s (16 + k))), some (aI (nI (50 + a))), none], [aI (nI (1 + m)), aI (nI l), aI (nI (50 + a)), aI (nI k), aR 0 16], M)) (by rw [show (1 : Int32) = nI 1 from rfl, nI_add]) ?_
  refine Fn_blk 4 (c' := (208, [some (aR 0 16), some (aI v), some (aI (nI k)), some (aI (s (16 + k))), some (aI (nI (50 + a))), none], [aI (5 : Int32), aI (v >>> ((8 : Int32) &&& 31)), aI (nI (1 + m)), aI (nI l), aI (nI (50 + a)), aI (nI k), aR 0 16], M)) rfl trivial ?_
  refine Fn_pure (m' := m_L_low) (as := [aI (v >>> ((8 : Int32) &&& 31)), aI (5 : Int32)]) (rr := [aI (nI (1 + m)), aI (nI l), aI (nI (50 + a)), aI (nI k), aR 0 16]) (e_low _ _ _ (by decide)) rfl rfl ?_
  refine Fn_eq (c' := (211, [some (aR 0 16), some (aI v), some (aI (nI k)), some (aI (s (16 + k))), some (aI (nI (50 + a))), none], [aI (nI w), aI (nI (1 + m)), aI (nI l), aI (nI (50 + a)), aI (nI k), aR 0 16], M)) (by rw [e8]) ?_
  refine Fn_call (m' := m_X4_rate) (as := [aR 0 16, aI (nI k), aI (nI (50 + a)), aI (nI l), aI (nI (1 + m)), aI (nI w)]) (rr := []) (q_rate _ _ _ _ hV hk hp ⟨nI_le (a := 50) (by omega) (by omega), nI_le (b := 500) (by omega) (by decide)⟩ ⟨nI_pos' (by omega), nI_le (by omega) (by omega)⟩ ⟨nI_le (a := 1) (by omega) (by omega), nI_le (b := 99) (by omega) (by decide)⟩ ⟨nI_pos' (by omega), nI_le (b := 4) (by omega) (by decide)⟩ (Nat.zero_le _)) h0 rfl rfl (fun M1 w1 => ?_)
  refine Fn_blk 1 (c' := (218, [some (aR 0 16), some (aI v), some (aI (nI k)), some (aI (s (16 + k))), some (aI (nI (50 + a))), none], [aI (s k)], M1)) rfl trivial ?_
  exact Fn_iret rfl rfl (by rfl) w1
theorem d142_b {xs : Nat → Int32} {L : Nat} {s : Nat → Int32} {H : Nat} {M : Mem} (hV : Vs s H) (v : Int32) {k : Nat} (hk : k < 4) (hp : s (16 + k) = 0) {a l m w : Nat} (ha : a < 400) (hm : m < 60) (hw : w < 5) (e6 : lowV (v >>> ((6 : Int32) &&& 31)) (400 : Int32) = nI a) (e9 : lowV (v >>> ((9 : Int32) &&& 31)) (120 : Int32) = nI l) (e11 : lowV (v >>> ((11 : Int32) &&& 31)) (60 : Int32) = nI m) (e8 : lowV (v >>> ((8 : Int32) &&& 31)) (5 : Int32) = nI w) (hl : ¬ l < 50 + a) (hl2 : l < 120)  (h0 : Wd s [] M) : Fn xs L m_L_does (142, [some (aR 0 16), some (aI v), some (aI (nI k)), some (aI (s (16 + k))), none, none], [], M) (aI (s k)) (Wd (rtF s k (nI (50 + a)) 0 (nI (1 + m)) (nI w)) [s]) := by
  refine Fn_blk 5 (c' := (151, [some (aR 0 16), some (aI v), some (aI (nI k)), some (aI (s (16 + k))), none, none], [aI (400 : Int32), aI (v >>> ((6 : Int32) &&& 31)), aI (50 : Int32)], M)) rfl trivial ?_
  refine Fn_pure (m' := m_L_low) (as := [aI (v >>> ((6 : Int32) &&& 31)), aI (400 : Int32)]) (rr := [aI (50 : Int32)]) (e_low _ _ _ (by decide)) rfl rfl ?_
  refine Fn_eq (c' := (154, [some (aR 0 16), some (aI v), some (aI (nI k)), some (aI (s (16 + k))), none, none], [aI (nI a), aI (50 : Int32)], M)) (by rw [e6]) ?_
  refine Fn_blk 1 (c' := (155, [some (aR 0 16), some (aI v), some (aI (nI k)), some (aI (s (16 + k))), none, none], [aI ((50 : Int32) + (nI a))], M)) rfl trivial ?_
  refine Fn_eq (c' := (155, [some (aR 0 16), some (aI v), some (aI (nI k)), some (aI (s (16 + k))), none, none], [aI (nI (50 + a))], M)) (by rw [show (50 : Int32) = nI 50 from rfl, nI_add]) ?_
  refine Fn_blk 3 (c' := ((if (s (16 + k)) = 0 then 161 else 217), [some (aR 0 16), some (aI v), some (aI (nI k)), some (aI (s (16 + k))), some (aI (nI (50 + a))), none], [], M)) rfl trivial ?_
  refine Fn_if (hp) ?_
  refine Fn_blk 7 (c' := (171, [some (aR 0 16), some (aI v), some (aI (nI k)), some (aI (s (16 + k))), some (aI (nI (50 + a))), none], [aI (120 : Int32), aI (v >>> ((9 : Int32) &&& 31)), aI (nI (50 + a)), aI (nI k), aR 0 16], M)) rfl trivial ?_
  refine Fn_pure (m' := m_L_low) (as := [aI (v >>> ((9 : Int32) &&& 31)), aI (120 : Int32)]) (rr := [aI (nI (50 + a)), aI (nI k), aR 0 16]) (e_low _ _ _ (by decide)) rfl rfl ?_
  refine Fn_eq (c' := (174, [some (aR 0 16), some (aI v), some (aI (nI k)), some (aI (s (16 + k))), some (aI (nI (50 + a))), none], [aI (nI l), aI (nI (50 + a)), aI (nI k), aR 0 16], M)) (by rw [e9]) ?_
  refine Fn_blk 2 (c' := ((if (nI (50 + a)) ≤ (nI l) then 191 else 179), [some (aR 0 16), some (aI v), some (aI (nI k)), some (aI (s (16 + k))), some (aI (nI (50 + a))), none], [aI (nI (50 + a)), aI (nI k), aR 0 16], M)) rfl trivial ?_
  refine Fn_if (nI_le (by omega) (by omega)) ?_
  refine Fn_blk 6 (c' := (199, [some (aR 0 16), some (aI v), some (aI (nI k)), some (aI (s (16 + k))), some (aI (nI (50 + a))), none], [aI (60 : Int32), aI (v >>> ((11 : Int32) &&& 31)), aI (1 : Int32), aI (0 : Int32), aI (nI (50 + a)), aI (nI k), aR 0 16], M)) rfl trivial ?_
  refine Fn_pure (m' := m_L_low) (as := [aI (v >>> ((11 : Int32) &&& 31)), aI (60 : Int32)]) (rr := [aI (1 : Int32), aI (0 : Int32), aI (nI (50 + a)), aI (nI k), aR 0 16]) (e_low _ _ _ (by decide)) rfl rfl ?_
  refine Fn_eq (c' := (202, [some (aR 0 16), some (aI v), some (aI (nI k)), some (aI (s (16 + k))), some (aI (nI (50 + a))), none], [aI (nI m), aI (1 : Int32), aI (0 : Int32), aI (nI (50 + a)), aI (nI k), aR 0 16], M)) (by rw [e11]) ?_
  refine Fn_blk 1 (c' := (203, [some (aR 0 16), some (aI v), some (aI (nI k)), some (aI (s (16 + k))), some (aI (nI (50 + a))), none], [aI ((1 : Int32) + (nI m)), aI (0 : Int32), aI (nI (50 + a)), aI (nI k), aR 0 16], M)) rfl trivial ?_
  refine Fn_eq (c' := (203, [some (aR 0 16), some (aI v), some (aI (nI k)), some (aI (s (16 + k))), some (aI (nI (50 + a))), none], [aI (nI (1 + m)), aI (0 : Int32), aI (nI (50 + a)), aI (nI k), aR 0 16], M)) (by rw [show (1 : Int32) = nI 1 from rfl, nI_add]) ?_
  refine Fn_blk 4 (c' := (208, [some (aR 0 16), some (aI v), some (aI (nI k)), some (aI (s (16 + k))), some (aI (nI (50 + a))), none], [aI (5 : Int32), aI (v >>> ((8 : Int32) &&& 31)), aI (nI (1 + m)), aI (0 : Int32), aI (nI (50 + a)), aI (nI k), aR 0 16], M)) rfl trivial ?_
  refine Fn_pure (m' := m_L_low) (as := [aI (v >>> ((8 : Int32) &&& 31)), aI (5 : Int32)]) (rr := [aI (nI (1 + m)), aI (0 : Int32), aI (nI (50 + a)), aI (nI k), aR 0 16]) (e_low _ _ _ (by decide)) rfl rfl ?_
  refine Fn_eq (c' := (211, [some (aR 0 16), some (aI v), some (aI (nI k)), some (aI (s (16 + k))), some (aI (nI (50 + a))), none], [aI (nI w), aI (nI (1 + m)), aI (0 : Int32), aI (nI (50 + a)), aI (nI k), aR 0 16], M)) (by rw [e8]) ?_
  refine Fn_call (m' := m_X4_rate) (as := [aR 0 16, aI (nI k), aI (nI (50 + a)), aI (0 : Int32), aI (nI (1 + m)), aI (nI w)]) (rr := []) (q_rate _ _ _ _ hV hk hp ⟨nI_le (a := 50) (by omega) (by omega), nI_le (b := 500) (by omega) (by decide)⟩ ⟨Int32.le_refl _, nI_pos' (by omega)⟩ ⟨nI_le (a := 1) (by omega) (by omega), nI_le (b := 99) (by omega) (by decide)⟩ ⟨nI_pos' (by omega), nI_le (b := 4) (by omega) (by decide)⟩ (Nat.zero_le _)) h0 rfl rfl (fun M1 w1 => ?_)
  refine Fn_blk 1 (c' := (218, [some (aR 0 16), some (aI v), some (aI (nI k)), some (aI (s (16 + k))), some (aI (nI (50 + a))), none], [aI (s k)], M1)) rfl trivial ?_
  exact Fn_iret rfl rfl (by rfl) w1
theorem d142_n {xs : Nat → Int32} {L : Nat} {s : Nat → Int32} {H : Nat} {M : Mem} (hV : Vs s H) (v : Int32) {k : Nat} (hk : k < 4) (hp : ¬ s (16 + k) = 0) {a : Nat} (e6 : lowV (v >>> ((6 : Int32) &&& 31)) (400 : Int32) = nI a)  (h0 : Wd s [] M) : Fn xs L m_L_does (142, [some (aR 0 16), some (aI v), some (aI (nI k)), some (aI (s (16 + k))), none, none], [], M) (aI (0 : Int32)) (Wd s []) := by
  refine Fn_blk 5 (c' := (151, [some (aR 0 16), some (aI v), some (aI (nI k)), some (aI (s (16 + k))), none, none], [aI (400 : Int32), aI (v >>> ((6 : Int32) &&& 31)), aI (50 : Int32)], M)) rfl trivial ?_
  refine Fn_pure (m' := m_L_low) (as := [aI (v >>> ((6 : Int32) &&& 31)), aI (400 : Int32)]) (rr := [aI (50 : Int32)]) (e_low _ _ _ (by decide)) rfl rfl ?_
  refine Fn_eq (c' := (154, [some (aR 0 16), some (aI v), some (aI (nI k)), some (aI (s (16 + k))), none, none], [aI (nI a), aI (50 : Int32)], M)) (by rw [e6]) ?_
  refine Fn_blk 1 (c' := (155, [some (aR 0 16), some (aI v), some (aI (nI k)), some (aI (s (16 + k))), none, none], [aI ((50 : Int32) + (nI a))], M)) rfl trivial ?_
  refine Fn_eq (c' := (155, [some (aR 0 16), some (aI v), some (aI (nI k)), some (aI (s (16 + k))), none, none], [aI (nI (50 + a))], M)) (by rw [show (50 : Int32) = nI 50 from rfl, nI_add]) ?_
  refine Fn_blk 3 (c' := ((if (s (16 + k)) = 0 then 161 else 217), [some (aR 0 16), some (aI v), some (aI (nI k)), some (aI (s (16 + k))), some (aI (nI (50 + a))), none], [], M)) rfl trivial ?_
  refine Fn_else (hp) ?_
  refine Fn_blk 1 (c' := (218, [some (aR 0 16), some (aI v), some (aI (nI k)), some (aI (s (16 + k))), some (aI (nI (50 + a))), none], [aI (0 : Int32)], M)) rfl trivial ?_
  exact Fn_iret rfl rfl (by rfl) h0
theorem d219 {xs : Nat → Int32} {L : Nat} {s : Nat → Int32} {H : Nat} {M : Mem} (hV : Vs s H) (v : Int32) {k : Nat} (hk : k < 4)  (h0 : Wd s [] M) : Fn xs L m_L_does (219, [some (aR 0 16), some (aI v), some (aI (nI k)), some (aI (s (16 + k))), none, none], [], M) (aI (1 - s 37)) (Wd (upd s 37 (1 - s 37)) [s]) := by
  refine Fn_blk 1 (c' := (220, [some (aR 0 16), some (aI v), some (aI (nI k)), some (aI (s (16 + k))), none, none], [aR 0 16], M)) rfl trivial ?_
  refine Fn_call (m' := m_X4_shed) (as := [aR 0 16]) (rr := []) (q_shed hV (Nat.zero_le _)) h0 rfl rfl (fun M1 w1 => ?_)
  exact Fn_iret rfl rfl (by rfl) w1
theorem d224 {xs : Nat → Int32} {L : Nat} {s : Nat → Int32} {H : Nat} {M : Mem} (hV : Vs s H) (v : Int32) {k : Nat} (hk : k < 4) {h x : Nat} (hh : h < 48) (hx : x < 900) (e4h : lowV (v >>> ((4 : Int32) &&& 31)) (48 : Int32) = nI h) (e10 : lowV (v >>> ((10 : Int32) &&& 31)) (900 : Int32) = nI x)  (h0 : Wd s [] M) : Fn xs L m_L_does (224, [some (aR 0 16), some (aI v), some (aI (nI k)), some (aI (s (16 + k))), none, none], [], M) (aI (s (40 + h))) (Wd (upd s (40 + h) (nI x)) [s]) := by
  refine Fn_blk 5 (c' := (230, [some (aR 0 16), some (aI v), some (aI (nI k)), some (aI (s (16 + k))), none, none], [aI (48 : Int32), aI (v >>> ((4 : Int32) &&& 31)), aR 0 16], M)) rfl trivial ?_
  refine Fn_pure (m' := m_L_low) (as := [aI (v >>> ((4 : Int32) &&& 31)), aI (48 : Int32)]) (rr := [aR 0 16]) (e_low _ _ _ (by decide)) rfl rfl ?_
  refine Fn_eq (c' := (233, [some (aR 0 16), some (aI v), some (aI (nI k)), some (aI (s (16 + k))), none, none], [aI (nI h), aR 0 16], M)) (by rw [e4h]) ?_
  refine Fn_blk 4 (c' := (240, [some (aR 0 16), some (aI v), some (aI (nI k)), some (aI (s (16 + k))), none, none], [aI (900 : Int32), aI (v >>> ((10 : Int32) &&& 31)), aI (nI h), aR 0 16], M)) rfl trivial ?_
  refine Fn_pure (m' := m_L_low) (as := [aI (v >>> ((10 : Int32) &&& 31)), aI (900 : Int32)]) (rr := [aI (nI h), aR 0 16]) (e_low _ _ _ (by decide)) rfl rfl ?_
  refine Fn_eq (c' := (243, [some (aR 0 16), some (aI v), some (aI (nI k)), some (aI (s (16 + k))), none, none], [aI (nI x), aI (nI h), aR 0 16], M)) (by rw [e10]) ?_
  refine Fn_call (m' := m_X4_forecast) (as := [aR 0 16, aI (nI h), aI (nI x)]) (rr := []) (q_forecast _ hV hh ⟨nI_pos' (by omega), nI_le (b := 1500) (by omega) (by decide)⟩ (Nat.zero_le _)) h0 rfl rfl (fun M1 w1 => ?_)
  exact Fn_iret rfl rfl (by rfl) w1
theorem d247_0 {xs : Nat → Int32} {L : Nat} {s : Nat → Int32} {H : Nat} {M : Mem} (hV : Vs s H) (v : Int32) {k : Nat} (hk : k < 4) (es : (v >>> ((4 : Int32) &&& 31)) &&& (1 : Int32) = 0) {x : Nat} (hx : x < 301) (e5 : lowV (v >>> ((5 : Int32) &&& 31)) (301 : Int32) = nI x)  (h0 : Wd s [] M) : Fn xs L m_L_does (247, [some (aR 0 16), some (aI v), some (aI (nI k)), some (aI (s (16 + k))), none, none], [], M) (aI (s 32)) (Wd (upd s 32 (nI x)) [s]) := by
  refine Fn_blk 5 (c' := (252, [some (aR 0 16), some (aI v), some (aI (nI k)), some (aI (s (16 + k))), none, none], [aI ((v >>> ((4 : Int32) &&& 31)) &&& (1 : Int32))], M)) rfl trivial ?_
  refine Fn_eq (c' := (252, [some (aR 0 16), some (aI v), some (aI (nI k)), some (aI (s (16 + k))), none, none], [aI (0 : Int32)], M)) (by rw [es]) ?_
  refine Fn_blk 5 (c' := ((if (0 : Int32) = 0 then 262 else 274), [some (aR 0 16), some (aI v), some (aI (nI k)), some (aI (s (16 + k))), none, some (aI (0 : Int32))], [aI (0 : Int32), aR 0 16], M)) rfl trivial ?_
  refine Fn_if (by decide) ?_
  refine Fn_blk 4 (c' := (268, [some (aR 0 16), some (aI v), some (aI (nI k)), some (aI (s (16 + k))), none, some (aI (0 : Int32))], [aI (301 : Int32), aI (v >>> ((5 : Int32) &&& 31)), aI (0 : Int32), aR 0 16], M)) rfl trivial ?_
  refine Fn_pure (m' := m_L_low) (as := [aI (v >>> ((5 : Int32) &&& 31)), aI (301 : Int32)]) (rr := [aI (0 : Int32), aR 0 16]) (e_low _ _ _ (by decide)) rfl rfl ?_
  refine Fn_eq (c' := (271, [some (aR 0 16), some (aI v), some (aI (nI k)), some (aI (s (16 + k))), none, some (aI (0 : Int32))], [aI (nI x), aI (0 : Int32), aR 0 16], M)) (by rw [e5]) ?_
  refine Fn_blk 1 (c' := (282, [some (aR 0 16), some (aI v), some (aI (nI k)), some (aI (s (16 + k))), none, some (aI (0 : Int32))], [aI (nI x), aI (0 : Int32), aR 0 16], M)) rfl trivial ?_
  refine Fn_call (m' := m_X4_set) (as := [aR 0 16, aI (0 : Int32), aI (nI x)]) (rr := []) (q_set_0 _ hV ⟨nI_pos' (by omega), nI_le (b := 300) (by omega) (by decide)⟩ (Nat.zero_le _)) h0 rfl rfl (fun M1 w1 => ?_)
  exact Fn_iret rfl rfl (by rfl) w1
theorem d247_1 {xs : Nat → Int32} {L : Nat} {s : Nat → Int32} {H : Nat} {M : Mem} (hV : Vs s H) (v : Int32) {k : Nat} (hk : k < 4) (es : (v >>> ((4 : Int32) &&& 31)) &&& (1 : Int32) = 1) {x : Nat} (hx : x < 12) (e5 : lowV (v >>> ((5 : Int32) &&& 31)) (12 : Int32) = nI x)  (h0 : Wd s [] M) : Fn xs L m_L_does (247, [some (aR 0 16), some (aI v), some (aI (nI k)), some (aI (s (16 + k))), none, none], [], M) (aI (s 33)) (Wd (upd s 33 (nI x)) [s]) := by
  refine Fn_blk 5 (c' := (252, [some (aR 0 16), some (aI v), some (aI (nI k)), some (aI (s (16 + k))), none, none], [aI ((v >>> ((4 : Int32) &&& 31)) &&& (1 : Int32))], M)) rfl trivial ?_
  refine Fn_eq (c' := (252, [some (aR 0 16), some (aI v), some (aI (nI k)), some (aI (s (16 + k))), none, none], [aI (1 : Int32)], M)) (by rw [es]) ?_
  refine Fn_blk 5 (c' := ((if (1 : Int32) = 0 then 262 else 274), [some (aR 0 16), some (aI v), some (aI (nI k)), some (aI (s (16 + k))), none, some (aI (1 : Int32))], [aI (1 : Int32), aR 0 16], M)) rfl trivial ?_
  refine Fn_else (by decide) ?_
  refine Fn_blk 4 (c' := (279, [some (aR 0 16), some (aI v), some (aI (nI k)), some (aI (s (16 + k))), none, some (aI (1 : Int32))], [aI (12 : Int32), aI (v >>> ((5 : Int32) &&& 31)), aI (1 : Int32), aR 0 16], M)) rfl trivial ?_
  refine Fn_pure (m' := m_L_low) (as := [aI (v >>> ((5 : Int32) &&& 31)), aI (12 : Int32)]) (rr := [aI (1 : Int32), aR 0 16]) (e_low _ _ _ (by decide)) rfl rfl ?_
  refine Fn_eq (c' := (282, [some (aR 0 16), some (aI v), some (aI (nI k)), some (aI (s (16 + k))), none, some (aI (1 : Int32))], [aI (nI x), aI (1 : Int32), aR 0 16], M)) (by rw [e5]) ?_
  refine Fn_call (m' := m_X4_set) (as := [aR 0 16, aI (1 : Int32), aI (nI x)]) (rr := []) (q_set_1 _ hV ⟨nI_pos' (by omega), nI_le (b := 48) (by omega) (by decide)⟩ (Nat.zero_le _)) h0 rfl rfl (fun M1 w1 => ?_)
  exact Fn_iret rfl rfl (by rfl) w1
theorem d286_t {xs : Nat → Int32} {L : Nat} {s : Nat → Int32} {H : Nat} {M : Mem} (hV : Vs s H) (v : Int32) {k : Nat} (hk : k < 4) (hH : H < 44) {m : Nat} (hm : m < 3) (e3 : lowV (v >>> ((4 : Int32) &&& 31)) (3 : Int32) = nI m)  (h0 : Wd s [] M) : Fn xs L m_L_does (286, [some (aR 0 16), some (aI v), some (aI (nI k)), some (aI (s (16 + k))), none, none], [], M) (aI (dkN (goM (1 + m) s) (H + (1 + m)) - dkN s H)) (Wd (goM (1 + m) s) [s]) := by
  refine Fn_blk 2 (c' := (288, [some (aR 0 16), some (aI v), some (aI (nI k)), some (aI (s (16 + k))), none, none], [aI (0 : Int32), aR 0 16], M)) rfl trivial ?_
  refine Fn_call (m' := m_X4_count) (as := [aR 0 16, aI (0 : Int32)]) (rr := []) (q_count_0 hV) h0 rfl rfl (fun M1 w1 => ?_)
  refine Fn_blk 2 (c' := ((if (44 : Int32) ≤ (nI H) then 312 else 296), [some (aR 0 16), some (aI v), some (aI (nI k)), some (aI (s (16 + k))), none, none], [], M1)) rfl trivial ?_
  refine Fn_else (nI_ge (b := 44) hH (by decide)) ?_
  refine Fn_blk 6 (c' := (302, [some (aR 0 16), some (aI v), some (aI (nI k)), some (aI (s (16 + k))), none, none], [aI (3 : Int32), aI (v >>> ((4 : Int32) &&& 31)), aI (1 : Int32), aR 0 16], M1)) rfl trivial ?_
  refine Fn_pure (m' := m_L_low) (as := [aI (v >>> ((4 : Int32) &&& 31)), aI (3 : Int32)]) (rr := [aI (1 : Int32), aR 0 16]) (e_low _ _ _ (by decide)) rfl rfl ?_
  refine Fn_eq (c' := (305, [some (aR 0 16), some (aI v), some (aI (nI k)), some (aI (s (16 + k))), none, none], [aI (nI m), aI (1 : Int32), aR 0 16], M1)) (by rw [e3]) ?_
  refine Fn_blk 1 (c' := (306, [some (aR 0 16), some (aI v), some (aI (nI k)), some (aI (s (16 + k))), none, none], [aI ((1 : Int32) + (nI m)), aR 0 16], M1)) rfl trivial ?_
  refine Fn_eq (c' := (306, [some (aR 0 16), some (aI v), some (aI (nI k)), some (aI (s (16 + k))), none, none], [aI (nI (1 + m)), aR 0 16], M1)) (by rw [show (1 : Int32) = nI 1 from rfl, nI_add]) ?_
  refine Fn_call (m' := m_X4_pass) (as := [aR 0 16, aI (nI (1 + m))]) (rr := []) (q_pass hV (by omega) (by omega) (Nat.zero_le _)) w1 rfl rfl (fun M2 w2 => ?_)
  refine Fn_blk 1 (c' := (313, [some (aR 0 16), some (aI v), some (aI (nI k)), some (aI (s (16 + k))), none, none], [aI (dkN (goM (1 + m) s) (H + (1 + m)) - dkN s H)], M2)) rfl trivial ?_
  exact Fn_iret rfl rfl (by rfl) w2
theorem d286_n {xs : Nat → Int32} {L : Nat} {s : Nat → Int32} {H : Nat} {M : Mem} (hV : Vs s H) (v : Int32) {k : Nat} (hk : k < 4) (hH : ¬ H < 44)  (h0 : Wd s [] M) : Fn xs L m_L_does (286, [some (aR 0 16), some (aI v), some (aI (nI k)), some (aI (s (16 + k))), none, none], [], M) (aI (0 : Int32)) (Wd s []) := by
  refine Fn_blk 2 (c' := (288, [some (aR 0 16), some (aI v), some (aI (nI k)), some (aI (s (16 + k))), none, none], [aI (0 : Int32), aR 0 16], M)) rfl trivial ?_
  refine Fn_call (m' := m_X4_count) (as := [aR 0 16, aI (0 : Int32)]) (rr := []) (q_count_0 hV) h0 rfl rfl (fun M1 w1 => ?_)
  refine Fn_blk 2 (c' := ((if (44 : Int32) ≤ (nI H) then 312 else 296), [some (aR 0 16), some (aI v), some (aI (nI k)), some (aI (s (16 + k))), none, none], [], M1)) rfl trivial ?_
  refine Fn_if (nI_le (a := 44) (by omega) (by have := hV.2.1.2; omega)) ?_
  refine Fn_blk 1 (c' := (313, [some (aR 0 16), some (aI v), some (aI (nI k)), some (aI (s (16 + k))), none, none], [aI (0 : Int32)], M1)) rfl trivial ?_
  exact Fn_iret rfl rfl (by rfl) w1
/-- what an order of the script's does: it answers a number that is not negative, and leaves a good island -/
def DO (xs : Nat → Int32) (L : Nat) (v : Int32) (s : Nat → Int32) : Prop := ∃ (r : Int32) (z : Nat → Int32) (G : Nat), Cw xs L m_L_does [aR 0 16, aI v] s [] (aI r) z [] ∧ 0 ≤ r ∧ Vs z G ∧ Xs z G ∧ G < 48 ∧ ¬ z 36 < s 36
section DOS
variable {xs : Nat → Int32} {L : Nat} {s : Nat → Int32} {H k : Nat}
theorem nlt_r (x : Int32) : ¬ x < x := fun h => absurd (Int32.lt_iff_toInt_lt.mp h) (Int.lt_irrefl _)
theorem t_nn {x : Int32} (h : 0 ≤ x.toInt) : 0 ≤ x := Int32.le_iff_toInt_le.mpr h
theorem DO_mk {v r : Int32} {z : Nat → Int32} {G : Nat} {q : List (Nat → Int32)} (h : ∀ M, Wd s [] M → Fn xs L m_L_does (0, [some (aR 0 16), some (aI v), none, none, none, none], [], M) (aI r) (Wd z q)) (hr : 0 ≤ r) (hV : Vs z G) (hX : Xs z G) (hG : G < 48) (h36 : ¬ z 36 < s 36) : DO xs L v s := by
  refine ⟨r, z, G, fun M h0 => ?_, hr, hV, hX, hG, h36⟩
  obtain ⟨M', a, b⟩ := h M h0
  exact ⟨M', a, Wd_weak b⟩
theorem bc_nn {m : Int32} (hm : m ∈ m16) : 0 ≤ bcF m := by
  rw [bcF_m hm]
  have q : m16.all (fun m => decide (0 ≤ manF m)) = true := by decide +kernel
  exact of_decide_eq_true (List.all_eq_true.mp q m hm)
theorem pass_nn {n : Nat} (hV : Vs s H) (hn : H + n ≤ 48) : 0 ≤ dkN (goM n s) (H + n) - dkN s H := by
  have e : dkN (goM n s) H = dkN s H := dkN_c H (fun h hh => row_goM n hV hn h hh 1 (by decide))
  rw [← e]
  have a := (dk_P (Z := goM n s) n H hn).1
  have b := dk_B (Z := goM n s) H (by omega)
  have c := dk_B (Z := goM n s) (H + n) hn
  exact t_nn (by rw [i_sub (by omega) (by omega)]; omega)
theorem rt36 {g l e w : Int32} (hk : k < 4) : ¬ rtF s k g l e w 36 < s 36 := by rw [rtF_o (by omega) (by omega) (by omega) (by omega)]; exact nlt_r _
theorem up36 {i : Nat} {x : Int32} (hi : i ≠ 36) : ¬ upd s i x 36 < s 36 := by rw [upd_ne (by omega)]; exact nlt_r _
theorem go36 {n : Nat} (hV : Vs s H) (hn : H + n ≤ 48) : ¬ goM n s 36 < s 36 := by
  rcases isB_or (Vs_b5 hV) with e | e
  · rw [e]
    rcases isB_or (Vs_b5 (Vs_goM n hV hn)) with z | z <;> rw [z] <;> decide
  · rw [e, spo_goM n hV hn e]
    decide
theorem do_t {v : Int32} {r : Int32} {c : Nat} {P : Mem → Prop} (hc : ∀ M, Wd s [] M → Fn xs L m_L_does (c, [some (aR 0 16), some (aI v), some (aI (nI k)), some (aI (s (16 + k))), none, none], [], M) (aI r) P) : ∀ M, Wd s [] M → Fn xs L m_L_does (c, [some (aR 0 16), some (aI v), some (aI (nI k)), some (aI (s (16 + k))), none, none], [], M) (aI r) P := hc
theorem t84 {v : Int32} (hV : Vs s H) (hX : Xs s H) (hH : H < 48) (hk : k < 4) (J : ∀ (r : Int32) (P : Mem → Prop), (∀ M, Wd s [] M → Fn xs L m_L_does (84, [some (aR 0 16), some (aI v), some (aI (nI k)), some (aI (s (16 + k))), none, none], [], M) (aI r) P) → ∀ M, Wd s [] M → Fn xs L m_L_does (0, [some (aR 0 16), some (aI v), none, none, none, none], [], M) (aI r) P) : DO xs L v s := by
  by_cases hp : s (16 + k) = 0
  · exact DO_mk (J _ _ (fun M h0 => d84_t hV v hk hp h0)) (t_nn (hV.1 k hk).2.2.2.1.1) (Vs_bg hV hk) (Xs_bg hX hk) hH (by rw [bgF_o (by omega) (by omega)]; exact nlt_r _)
  · exact DO_mk (J _ _ (fun M h0 => d84_n hV v hk hp h0)) (Int32.le_refl _) hV hX hH (nlt_r _)
theorem t98 {v : Int32} (hV : Vs s H) (hX : Xs s H) (hH : H < 48) (hk : k < 4) (J : ∀ (r : Int32) (P : Mem → Prop), (∀ M, Wd s [] M → Fn xs L m_L_does (98, [some (aR 0 16), some (aI v), some (aI (nI k)), some (aI (s (16 + k))), none, none], [], M) (aI r) P) → ∀ M, Wd s [] M → Fn xs L m_L_does (0, [some (aR 0 16), some (aI v), none, none, none, none], [], M) (aI r) P) : DO xs L v s := by
  by_cases h1 : s (16 + k) = 1
  · exact DO_mk (J _ _ (fun M h0 => d98_1 hV v hk h1 h0)) (bc_nn (mkF_m _ _)) (by rw [spF_st]; exact Vs_st hV hk) (by rw [spF_st]; exact Xs_st hV hX hk) hH (by rw [spF_st, stF_o (by omega) (by omega)]; exact nlt_r _)
  · by_cases hp : s (16 + k) = 2
    · exact DO_mk (J _ _ (fun M h0 => d98_2 hV v hk h1 hp h0)) (bc_nn (mkF_m _ _)) (by rw [spF_st]; exact Vs_st hV hk) (by rw [spF_st]; exact Xs_st hV hX hk) hH (by rw [spF_st, stF_o (by omega) (by omega)]; exact nlt_r _)
    · exact DO_mk (J _ _ (fun M h0 => d98_n hV v hk h1 hp h0)) (Int32.le_refl _) hV hX hH (nlt_r _)
theorem t118 {v : Int32} (hV : Vs s H) (hX : Xs s H) (hH : H < 48) (hk : k < 4) (J : ∀ (r : Int32) (P : Mem → Prop), (∀ M, Wd s [] M → Fn xs L m_L_does (118, [some (aR 0 16), some (aI v), some (aI (nI k)), some (aI (s (16 + k))), none, none], [], M) (aI r) P) → ∀ M, Wd s [] M → Fn xs L m_L_does (0, [some (aR 0 16), some (aI v), none, none, none, none], [], M) (aI r) P) : DO xs L v s := by
  by_cases h6 : (v >>> ((6 : Int32) &&& 31)) &&& (3 : Int32) = 0
  · exact DO_mk (J _ _ (fun M h0 => d118_a hV v hk h6 h0)) (by split <;> decide) (Vs_lose hV hk) (Xs_lo hV hX hk) hH (by rw [loF_o (by omega) (by omega)]; exact nlt_r _)
  · by_cases hp : s (16 + k) = 3
    · exact DO_mk (J _ _ (fun M h0 => d118_b hV v hk h6 hp h0)) (by split <;> decide) (Vs_lose hV hk) (Xs_lo hV hX hk) hH (by rw [loF_o (by omega) (by omega)]; exact nlt_r _)
    · exact DO_mk (J _ _ (fun M h0 => d118_n hV v hk h6 hp h0)) (Int32.le_refl _) hV hX hH (nlt_r _)
theorem t142 {v : Int32} (hV : Vs s H) (hX : Xs s H) (hH : H < 48) (hk : k < 4) (J : ∀ (r : Int32) (P : Mem → Prop), (∀ M, Wd s [] M → Fn xs L m_L_does (142, [some (aR 0 16), some (aI v), some (aI (nI k)), some (aI (s (16 + k))), none, none], [], M) (aI r) P) → ∀ M, Wd s [] M → Fn xs L m_L_does (0, [some (aR 0 16), some (aI v), none, none, none, none], [], M) (aI r) P) : DO xs L v s := by
  obtain ⟨a, e6, ha⟩ := low_b (v >>> ((6 : Int32) &&& 31)) (N := 400) (by decide) (by decide)
  by_cases hp : s (16 + k) = 0
  · obtain ⟨l, e9, hl2⟩ := low_b (v >>> ((9 : Int32) &&& 31)) (N := 120) (by decide) (by decide)
    obtain ⟨m, e11, hm⟩ := low_b (v >>> ((11 : Int32) &&& 31)) (N := 60) (by decide) (by decide)
    obtain ⟨w, e8, hw⟩ := low_b (v >>> ((8 : Int32) &&& 31)) (N := 5) (by decide) (by decide)
    have hr : 0 ≤ s k := t_nn (by have := okk_g hV.1 hk; omega)
    by_cases hl : l < 50 + a
    · exact DO_mk (J _ _ (fun M h0 => d142_a hV v hk hp ha hm hw e6 e9 e11 e8 hl h0)) hr (Vs_rate hV hk ⟨nI_le (a := 50) (by omega) (by omega), nI_le (b := 500) (by omega) (by decide)⟩ ⟨nI_pos' (by omega), nI_le (by omega) (by omega)⟩ ⟨nI_le (a := 1) (by omega) (by omega), nI_le (b := 99) (by omega) (by decide)⟩ ⟨nI_pos' (by omega), nI_le (b := 4) (by omega) (by decide)⟩) (Xs_rate hX hk hp (nI_pos' (by omega))) hH (rt36 hk)
    · exact DO_mk (J _ _ (fun M h0 => d142_b hV v hk hp ha hm hw e6 e9 e11 e8 hl hl2 h0)) hr (Vs_rate hV hk ⟨nI_le (a := 50) (by omega) (by omega), nI_le (b := 500) (by omega) (by decide)⟩ ⟨Int32.le_refl _, nI_pos' (by omega)⟩ ⟨nI_le (a := 1) (by omega) (by omega), nI_le (b := 99) (by omega) (by decide)⟩ ⟨nI_pos' (by omega), nI_le (b := 4) (by omega) (by decide)⟩) (Xs_rate hX hk hp (nI_pos' (by omega))) hH (rt36 hk)
  · exact DO_mk (J _ _ (fun M h0 => d142_n hV v hk hp e6 h0)) (Int32.le_refl _) hV hX hH (nlt_r _)
theorem t219 {v : Int32} (hV : Vs s H) (hX : Xs s H) (hH : H < 48) (hk : k < 4) (J : ∀ (r : Int32) (P : Mem → Prop), (∀ M, Wd s [] M → Fn xs L m_L_does (219, [some (aR 0 16), some (aI v), some (aI (nI k)), some (aI (s (16 + k))), none, none], [], M) (aI r) P) → ∀ M, Wd s [] M → Fn xs L m_L_does (0, [some (aR 0 16), some (aI v), none, none, none, none], [], M) (aI r) P) : DO xs L v s := by
  exact DO_mk (J _ _ (fun M h0 => d219 hV v hk h0)) (Int32.not_lt.mp (shd_nn hV)) (Vs_shed hV) (Xs_up hX (by decide) (by decide)) hH (up36 (by decide))
theorem t224 {v : Int32} (hV : Vs s H) (hX : Xs s H) (hH : H < 48) (hk : k < 4) (J : ∀ (r : Int32) (P : Mem → Prop), (∀ M, Wd s [] M → Fn xs L m_L_does (224, [some (aR 0 16), some (aI v), some (aI (nI k)), some (aI (s (16 + k))), none, none], [], M) (aI r) P) → ∀ M, Wd s [] M → Fn xs L m_L_does (0, [some (aR 0 16), some (aI v), none, none, none, none], [], M) (aI r) P) : DO xs L v s := by
  obtain ⟨h, e4h, hh⟩ := low_b (v >>> ((4 : Int32) &&& 31)) (N := 48) (by decide) (by decide)
  obtain ⟨x, e10, hx⟩ := low_b (v >>> ((10 : Int32) &&& 31)) (N := 900) (by decide) (by decide)
  exact DO_mk (J _ _ (fun M h0 => d224 hV v hk hh hx e4h e10 h0)) (t_nn (hV.2.2.2.2.2.1 h hh).1) (Vs_up hV (Or.inr (Or.inr (Or.inr ⟨by omega, by omega⟩))) ⟨fun z => absurd z (by omega), fun z => absurd z (by omega), fun z => absurd z (by omega), fun _ => by rw [nI_toInt (by omega)]; omega⟩) (Xs_up hX (by omega) (by omega)) hH (up36 (by omega))
theorem t247 {v : Int32} (hV : Vs s H) (hX : Xs s H) (hH : H < 48) (hk : k < 4) (J : ∀ (r : Int32) (P : Mem → Prop), (∀ M, Wd s [] M → Fn xs L m_L_does (247, [some (aR 0 16), some (aI v), some (aI (nI k)), some (aI (s (16 + k))), none, none], [], M) (aI r) P) → ∀ M, Wd s [] M → Fn xs L m_L_does (0, [some (aR 0 16), some (aI v), none, none, none, none], [], M) (aI r) P) : DO xs L v s := by
  obtain ⟨w, hw, es⟩ := and_k (v >>> ((4 : Int32) &&& 31)) (m := 1) (by decide)
  rcases (show w = 0 ∨ w = 1 by omega) with e | e <;> subst e
  · obtain ⟨x, e5, hx⟩ := low_b (v >>> ((5 : Int32) &&& 31)) (N := 301) (by decide) (by decide)
    exact DO_mk (J _ _ (fun M h0 => d247_0 hV v hk es hx e5 h0)) (t_nn hV.2.2.2.2.2.2.1.1) (Vs_up hV (Or.inl rfl) ⟨fun _ => by rw [nI_toInt (by omega)]; omega, fun z => absurd z (by omega), fun z => absurd z (by omega), fun z => absurd z (by omega)⟩) (Xs_up hX (by decide) (by decide)) hH (up36 (by decide))
  · obtain ⟨x, e5, hx⟩ := low_b (v >>> ((5 : Int32) &&& 31)) (N := 12) (by decide) (by decide)
    exact DO_mk (J _ _ (fun M h0 => d247_1 hV v hk es hx e5 h0)) (t_nn hV.2.2.2.2.2.2.2.1.1) (Vs_up hV (Or.inr (Or.inl rfl)) ⟨fun z => absurd z (by omega), fun _ => by rw [nI_toInt (by omega)]; omega, fun z => absurd z (by omega), fun z => absurd z (by omega)⟩) (Xs_up hX (by decide) (by decide)) hH (up36 (by decide))
theorem t286 {v : Int32} (hV : Vs s H) (hX : Xs s H) (hH : H < 48) (hk : k < 4) (J : ∀ (r : Int32) (P : Mem → Prop), (∀ M, Wd s [] M → Fn xs L m_L_does (286, [some (aR 0 16), some (aI v), some (aI (nI k)), some (aI (s (16 + k))), none, none], [], M) (aI r) P) → ∀ M, Wd s [] M → Fn xs L m_L_does (0, [some (aR 0 16), some (aI v), none, none, none, none], [], M) (aI r) P) : DO xs L v s := by
  by_cases h44 : H < 44
  · obtain ⟨m, e3, hm⟩ := low_b (v >>> ((4 : Int32) &&& 31)) (N := 3) (by decide) (by decide)
    exact DO_mk (J _ _ (fun M h0 => d286_t hV v hk h44 hm e3 h0)) (pass_nn hV (by omega)) (Vs_goM _ hV (by omega)) (Xs_goM _ hV hX (by omega)) (by omega) (go36 hV (by omega))
  · exact DO_mk (J _ _ (fun M h0 => d286_n hV v hk h44 h0)) (Int32.le_refl _) hV hX hH (nlt_r _)
theorem q_does {v : Int32} (hV : Vs s H) (hX : Xs s H) (hH : H < 48) : DO xs L v s := by
  obtain ⟨k, e4, hk⟩ := low_b (v >>> ((4 : Int32) &&& 31)) (N := 4) (by decide) (by decide)
  obtain ⟨c, hc, ec⟩ := and_k v (m := 15) (by decide)
  rcases (show c = 0 ∨ c = 1 ∨ c = 2 ∨ c = 3 ∨ c = 4 ∨ c = 5 ∨ c = 6 ∨ c = 7 ∨ c = 8 ∨ c = 9 ∨ c = 10 ∨ c = 11 ∨ c = 12 ∨ c = 13 ∨ c = 14 ∨ c = 15 by omega) with e | e | e | e | e | e | e | e | e | e | e | e | e | e | e | e <;> subst e
  · exact t84 hV hX hH hk (fun r P h M h0 => ds_0 hV v hk e4 h0 (fun M1 w1 => dj_0 (H := H) v ec w1 (fun M2 w2 => h M2 w2)))
  · exact t84 hV hX hH hk (fun r P h M h0 => ds_0 hV v hk e4 h0 (fun M1 w1 => dj_1 (H := H) v ec w1 (fun M2 w2 => h M2 w2)))
  · exact t84 hV hX hH hk (fun r P h M h0 => ds_0 hV v hk e4 h0 (fun M1 w1 => dj_2 (H := H) v ec w1 (fun M2 w2 => h M2 w2)))
  · exact t84 hV hX hH hk (fun r P h M h0 => ds_0 hV v hk e4 h0 (fun M1 w1 => dj_3 (H := H) v ec w1 (fun M2 w2 => h M2 w2)))
  · exact t98 hV hX hH hk (fun r P h M h0 => ds_0 hV v hk e4 h0 (fun M1 w1 => dj_4 (H := H) v ec w1 (fun M2 w2 => h M2 w2)))
  · exact t118 hV hX hH hk (fun r P h M h0 => ds_0 hV v hk e4 h0 (fun M1 w1 => dj_5 (H := H) v ec w1 (fun M2 w2 => h M2 w2)))
  · exact t142 hV hX hH hk (fun r P h M h0 => ds_0 hV v hk e4 h0 (fun M1 w1 => dj_6 (H := H) v ec w1 (fun M2 w2 => h M2 w2)))
  · exact t142 hV hX hH hk (fun r P h M h0 => ds_0 hV v hk e4 h0 (fun M1 w1 => dj_7 (H := H) v ec w1 (fun M2 w2 => h M2 w2)))
  · exact t219 hV hX hH hk (fun r P h M h0 => ds_0 hV v hk e4 h0 (fun M1 w1 => dj_8 (H := H) v ec w1 (fun M2 w2 => h M2 w2)))
  · exact t224 hV hX hH hk (fun r P h M h0 => ds_0 hV v hk e4 h0 (fun M1 w1 => dj_9 (H := H) v ec w1 (fun M2 w2 => h M2 w2)))
  · exact t224 hV hX hH hk (fun r P h M h0 => ds_0 hV v hk e4 h0 (fun M1 w1 => dj_10 (H := H) v ec w1 (fun M2 w2 => h M2 w2)))
  · exact t224 hV hX hH hk (fun r P h M h0 => ds_0 hV v hk e4 h0 (fun M1 w1 => dj_11 (H := H) v ec w1 (fun M2 w2 => h M2 w2)))
  · exact t247 hV hX hH hk (fun r P h M h0 => ds_0 hV v hk e4 h0 (fun M1 w1 => dj_12 (H := H) v ec w1 (fun M2 w2 => h M2 w2)))
  · exact t286 hV hX hH hk (fun r P h M h0 => ds_0 hV v hk e4 h0 (fun M1 w1 => dj_13 (H := H) v ec w1 (fun M2 w2 => h M2 w2)))
  · exact t286 hV hX hH hk (fun r P h M h0 => ds_0 hV v hk e4 h0 (fun M1 w1 => dj_14 (H := H) v ec w1 (fun M2 w2 => h M2 w2)))
  · exact t286 hV hX hH hk (fun r P h M h0 => ds_0 hV v hk e4 h0 (fun M1 w1 => dj_15 (H := H) v ec w1 (fun M2 w2 => h M2 w2)))
end DOS
