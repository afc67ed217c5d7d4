/-! THE MODEL: links; reading -/
def lko (B : HP) (a : Nat) : Nat → Nat → Nat → Nat
  | 0, _, r => r
  | n + 1, s, r => lko B a n (s + 1) (if s &&& a = 0 ∧ 0 < cW B (s ||| a) then r ||| s else r)
theorem lko_lt {B : HP} {a : Nat} : ∀ n s r, s + n ≤ 256 → r < 256 → lko B a n s r < 256
  | 0, _, _, _, h => h
  | n + 1, s, r, hs, h => by
    rw [lko]
    refine lko_lt n (s + 1) _ (by omega) ?_
    split
    · exact or_lt h (by omega)
    · exact h
theorem lko_bit {B : HP} {a q : Nat} : ∀ n s r, (lko B a n s r).testBit q = true ↔ (r.testBit q = true ∨ ∃ t, s ≤ t ∧ t < s + n ∧ t &&& a = 0 ∧ 0 < cW B (t ||| a) ∧ t.testBit q = true)
  | 0, s, r => by
    rw [lko]
    constructor
    · exact Or.inl
    · intro h
      rcases h with h | ⟨t, h1, h2, _⟩
      · exact h
      · omega
  | n + 1, s, r => by
    rw [lko, lko_bit n (s + 1)]
    constructor
    · intro h
      rcases h with h | ⟨t, h1, h2, h3⟩
      · split at h
        · rename_i c
          rw [Nat.testBit_or, Bool.or_eq_true] at h
          rcases h with h | h
          · exact Or.inl h
          · exact Or.inr ⟨s, Nat.le_refl _, by omega, c.1, c.2, h⟩
        · exact Or.inl h
      · exact Or.inr ⟨t, by omega, by omega, h3⟩
    · intro h
      rcases h with h | ⟨t, h1, h2, h3, h4, h5⟩
      · left
        split
        · rw [Nat.testBit_or, h]
          rfl
        · exact h
      · by_cases e : t = s
        · subst e
          left
          rw [if_pos ⟨h3, h4⟩, Nat.testBit_or, h5, Bool.or_true]
        · exact Or.inr ⟨t, by omega, by omega, h3, h4, h5⟩
theorem bit_or_sub {u x y : Nat} (h : u &&& (x ||| y) = x ||| y) : u &&& y = y := by
  apply Nat.eq_of_testBit_eq
  intro i
  have := congrArg (fun z => Nat.testBit z i) h
  simp only [Nat.testBit_and, Nat.testBit_or] at this
  rw [Nat.testBit_and]
  cases h1 : y.testBit i
  · simp
  · rw [h1] at this
    simpa using this
theorem lko_lkP {B : HP} {a : Nat} (ha : a < 256) : lko B a 256 0 0 = lkP B a := by
  apply Nat.eq_of_testBit_eq
  intro q
  rw [Bool.eq_iff_iff, lko_bit 256 0 0, lkP_bit]
  simp only [Nat.zero_testBit, Bool.false_eq_true, false_or, Bool.and_eq_true, decide_eq_true_eq]
  constructor
  · rintro ⟨t, -, h2, h3, h4, h5⟩
    have hq : q < 8 := by
      rcases Nat.lt_or_ge q 8 with z | z
      · exact z
      · rw [Nat.testBit_lt_two_pow (Nat.lt_of_lt_of_le (show t < 2 ^ 8 by omega) (Nat.pow_le_pow_right (by decide) z))] at h5
        cases h5
    have h6 : a.testBit q = false := by
      have := congrArg (fun z => Nat.testBit z q) h3
      simp only [Nat.testBit_and, h5, Nat.zero_testBit, Bool.true_and] at this
      exact this
    refine ⟨⟨hq, ?_⟩, ?_⟩
    · apply Nat.eq_of_testBit_eq
      intro i
      rw [Nat.testBit_and, Nat.testBit_two_pow, Nat.zero_testBit]
      by_cases e : q = i
      · subst e
        rw [h6]
        rfl
      · simp [e]
    · refine cW_sub (s := t ||| a) (fun u hu hs => ?_) h4
      apply Nat.eq_of_testBit_eq
      intro i
      have := congrArg (fun z => Nat.testBit z i) hs
      simp only [Nat.testBit_and, Nat.testBit_or] at this
      rw [Nat.testBit_and, Nat.testBit_or, Nat.testBit_two_pow]
      by_cases e : q = i
      · subst e
        rw [h5] at this
        simpa using this
      · cases h1 : a.testBit i
        · simp [e]
        · rw [h1] at this
          simpa [e] using this
  · rintro ⟨⟨hq, h1⟩, h2⟩
    exact ⟨2 ^ q, Nat.zero_le _, by have := p2_lt hq; omega, by rw [Nat.and_comm]; exact h1, by rw [Nat.or_comm]; exact h2, Nat.testBit_two_pow_self⟩
theorem orB_bit {B : HP} {q : Nat} : ∀ n, (orB B n).testBit q = true ↔ ∃ t, t < n ∧ B t = true ∧ t.testBit q = true
  | 0 => by
    rw [orB, Nat.zero_testBit]
    constructor
    · intro h
      cases h
    · rintro ⟨t, h, _⟩
      omega
  | n + 1 => by
    have ih := orB_bit (B := B) (q := q) n
    rw [orB]
    constructor
    · intro h
      split at h
      · rename_i c
        rw [Nat.testBit_or, Bool.or_eq_true] at h
        rcases h with h | h
        · obtain ⟨t, h1, h2⟩ := ih.mp h
          exact ⟨t, by omega, h2⟩
        · exact ⟨n, by omega, c, h⟩
      · obtain ⟨t, h1, h2⟩ := ih.mp h
        exact ⟨t, by omega, h2⟩
    · rintro ⟨t, h1, h2, h3⟩
      by_cases e : t = n
      · subst e
        rw [if_pos h2, Nat.testBit_or, h3, Bool.or_true]
      · have := ih.mpr ⟨t, by omega, h2, h3⟩
        split
        · rw [Nat.testBit_or, this]
          rfl
        · exact this
theorem and_p2 {u q : Nat} : u &&& 2 ^ q = 2 ^ q ↔ u.testBit q = true := by
  constructor
  · intro h
    have := congrArg (fun z => Nat.testBit z q) h
    simpa [Nat.testBit_and, Nat.testBit_two_pow_self] using this
  · intro h
    apply Nat.eq_of_testBit_eq
    intro i
    rw [Nat.testBit_and, Nat.testBit_two_pow]
    by_cases e : q = i
    · subst e
      rw [h]
      rfl
    · simp [e]
theorem orB_lkP {B : HP} : orB B 256 = lkP B 0 := by
  apply Nat.eq_of_testBit_eq
  intro q
  rw [Bool.eq_iff_iff, orB_bit 256, lkP_bit]
  simp only [Nat.zero_and, Nat.zero_or, Bool.and_eq_true, decide_eq_true_eq, and_true]
  constructor
  · rintro ⟨t, h1, h2, h3⟩
    have hq : q < 8 := by
      rcases Nat.lt_or_ge q 8 with z | z
      · exact z
      · rw [Nat.testBit_lt_two_pow (Nat.lt_of_lt_of_le (show t < 2 ^ 8 by omega) (Nat.pow_le_pow_right (by decide) z))] at h3
        cases h3
    exact ⟨hq, cW_pos.mpr ⟨t, h1, h2, and_p2.mpr h3⟩⟩
  · rintro ⟨hq, h⟩
    obtain ⟨t, h1, h2, h3⟩ := cW_pos.mp h
    exact ⟨t, h1, h2, and_p2.mp h3⟩
theorem ba_l2 {a b : Bool} (h : b = false) : ¬ (a && b) = true := by rw [h]; simp
theorem ba_t2 {b : Bool} {P : Prop} [Decidable P] (h : P) (h2 : b = true) : (decide P && b) = true := by simp [h, h2]
theorem cW_non {B : HP} {a s : Nat} (h : ¬ 0 < cW B a) : ¬ 0 < cW B (s ||| a) := fun z => h (cW_sub (fun u _ hu => bit_or_sub hu) z)
theorem lkS_non {B : HP} {a : Nat} (h : ¬ 0 < cW B a) : lkS B a = 0 := cnt_zero (fun t _ _ => by
  have := cW_non (s := t) h
  rw [Nat.or_comm] at this
  simp [this])
theorem lkP_non {B : HP} {a : Nat} (ha : a < 256) (h : ¬ 0 < cW B a) : lkP B a = 0 := by
  rw [← lko_lkP ha]
  apply Nat.eq_of_testBit_eq
  intro q
  rw [Nat.zero_testBit]
  cases e : (lko B a 256 0 0).testBit q
  · rfl
  · rcases (lko_bit 256 0 0).mp e with z | ⟨t, _, _, _, z, _⟩
    · rw [Nat.zero_testBit] at z
      cases z
    · exact absurd z (cW_non h)
theorem FA.or {μ : Mem} {B : HP} (h : FA μ B) {s a : Nat} (ha : 0 < a) (ha2 : a < 256) (hs : s < 256) : μ 78 (s ||| a) = bI (decide (0 < cW B (s ||| a))) := h.at (Nat.lt_of_lt_of_le ha Nat.right_le_or) (or_lt hs ha2)
set_option maxHeartbeats 4000000 in
theorem c_X9_linkOf {l : Launch} {a : Nat} {B : HP} {μ : Mem} {Q : Option Value → Mem → Prop} (hF : FA μ B) (h0 : 0 < a) (ha : a < 256) (hQ : Q (some (.int (nI (lkS B a)))) μ) : CC l 0 mX9_linkOf [.ref 24, .int (nI a)] μ Q := by
  refine CC.of (M := mX9_linkOf) (by decide +kernel) rfl (fun v h => by simp at h; rcases h with rfl | rfl <;> rfl) (Nat.le_of_ble_eq_true rfl) (fun X hX => ?_)
  have hc := hX.cx
  have a78 := HA78
  have L : ∀ (n s m : Nat), s + n = 256 → m ≤ s → Q (some (.int (nI (m + cnt (fun b => decide (a &&& b = 0) && decide (0 < cW B (a ||| b))) n s)))) μ → TT X 15 [.ref 24, .int (nI a), .int (nI m), .int (nI s)] [] μ := by
    intro n
    induction n with
    | zero =>
      intro s m hs hm h
      refine tt_il3 (q := 16) hc dX9_linkOf_15 rfl ?_
      refine tt_sipush (v := nI 256) (q := 19) hc (by decide) dX9_linkOf_16 rfl ?_
      first | (with_reducible refine chk2 ?_; refine tt_icgeN (t := 48) (q := 22) hc (by omega) (by omega) dX9_linkOf_19 rfl rfl (fun c_19 => ?_) (fun c_19 => ?_)) | refine tt_icge (t := 48) (q := 22) hc dX9_linkOf_19 rfl rfl (fun c_19 => ?_) (fun c_19 => ?_)
      · refine tt_il2 (q := 49) hc dX9_linkOf_48 rfl ?_
        refine tt_reti hX rfl dX9_linkOf_49 ?_
        exact h
      · omega
    | succ n ih =>
      intro s m hs hm h
      have hor := or_lt (a := s) (b := a) (by omega) ha
      have han := and_lt (a := s) (b := a) (by omega)
      have e1 : (a &&& s) = (s &&& a) := Nat.and_comm a s
      have e2 : (a ||| s) = (s ||| a) := Nat.or_comm a s
      rw [cnt, e1, e2] at h
      refine tt_il3 (q := 16) hc dX9_linkOf_15 rfl ?_
      refine tt_sipush (v := nI 256) (q := 19) hc (by decide) dX9_linkOf_16 rfl ?_
      first | (with_reducible refine chk2 ?_; refine tt_icgeN (t := 48) (q := 22) hc (by omega) (by omega) dX9_linkOf_19 rfl rfl (fun c_19 => ?_) (fun c_19 => ?_)) | refine tt_icge (t := 48) (q := 22) hc dX9_linkOf_19 rfl rfl (fun c_19 => ?_) (fun c_19 => ?_)
      · omega
      · refine tt_il3 (q := 23) hc dX9_linkOf_22 rfl ?_
        refine tt_il1 (q := 24) hc dX9_linkOf_23 rfl ?_
        first | (with_reducible refine chk2 ?_; refine tt_iandN (q := 25) hc dX9_linkOf_24 rfl ?_) | (with_reducible refine chkan ?_; refine tt_iandnN (q := 25) hc dX9_linkOf_24 rfl ?_) | (with_reducible refine chkna ?_; refine tt_inandN (q := 25) hc dX9_linkOf_24 rfl ?_) | refine tt_iand (q := 25) hc dX9_linkOf_24 rfl ?_
        first | (with_reducible refine chkb ?_; refine tt_ifneB (t := 42) (q := 28) hc dX9_linkOf_25 rfl rfl (fun c_25 => ?_) (fun c_25 => ?_)) | (with_reducible refine chk1 ?_; refine tt_ifneN (t := 42) (q := 28) hc (by omega) dX9_linkOf_25 rfl rfl (fun c_25 => ?_) (fun c_25 => ?_)) | refine tt_ifne (t := 42) (q := 28) hc dX9_linkOf_25 rfl rfl (fun c_25 => ?_) (fun c_25 => ?_)
        · first | refine tt_inc3 (q := 45) hc dX9_linkOf_42 rfl (by decide) (incN _) ?_ | refine tt_inc3 (q := 45) hc dX9_linkOf_42 rfl (by decide) rfl ?_
          refine tt_goto (t := 15) hc dX9_linkOf_45 rfl ?_
          first
          | (rw [if_neg (ba_l (decide_eq_false (Nat.ne_of_gt c_25))), Nat.zero_add] at h; exact ih (s + 1) m (by omega) (by omega) h)
          | (rw [if_neg (ba_l2 c_36), Nat.zero_add] at h; exact ih (s + 1) m (by omega) (by omega) h)
          | (rw [if_pos (ba_t2 c_25 c_36), ← Nat.add_assoc] at h; exact ih (s + 1) (m + 1) (by omega) (by omega) h)
        · refine tt_al0 (q := 29) hc dX9_linkOf_28 rfl ?_
          refine tt_getR (q := 32) hc fl_X9_19 (by first | assumption | exact ⟨by decide, _, rfl, rfl⟩) dX9_linkOf_29 rfl ?_
          refine tt_il3 (q := 33) hc dX9_linkOf_32 rfl ?_
          refine tt_il1 (q := 34) hc dX9_linkOf_33 rfl ?_
          first | (with_reducible refine chk2 ?_; refine tt_iorN (q := 35) hc dX9_linkOf_34 rfl ?_) | refine tt_ior (q := 35) hc dX9_linkOf_34 rfl ?_
          refine tt_zald (q := 36) hc (by first | assumption | exact ⟨by decide, rfl, by decide⟩) (by omega) dX9_linkOf_35 rfl ?_
          rw [hF.or h0 ha (by omega)]
          first | (with_reducible refine chkb ?_; refine tt_ifeqB (t := 42) (q := 39) hc dX9_linkOf_36 rfl rfl (fun c_36 => ?_) (fun c_36 => ?_)) | (with_reducible refine chk1 ?_; refine tt_ifeqN (t := 42) (q := 39) hc (by omega) dX9_linkOf_36 rfl rfl (fun c_36 => ?_) (fun c_36 => ?_)) | refine tt_ifeq (t := 42) (q := 39) hc dX9_linkOf_36 rfl rfl (fun c_36 => ?_) (fun c_36 => ?_)
          · first | refine tt_inc3 (q := 45) hc dX9_linkOf_42 rfl (by decide) (incN _) ?_ | refine tt_inc3 (q := 45) hc dX9_linkOf_42 rfl (by decide) rfl ?_
            refine tt_goto (t := 15) hc dX9_linkOf_45 rfl ?_
            first
            | (rw [if_neg (ba_l (decide_eq_false (Nat.ne_of_gt c_25))), Nat.zero_add] at h; exact ih (s + 1) m (by omega) (by omega) h)
            | (rw [if_neg (ba_l2 c_36), Nat.zero_add] at h; exact ih (s + 1) m (by omega) (by omega) h)
            | (rw [if_pos (ba_t2 c_25 c_36), ← Nat.add_assoc] at h; exact ih (s + 1) (m + 1) (by omega) (by omega) h)
          · first | refine tt_inc2 (q := 42) hc dX9_linkOf_39 rfl (by decide) (incN _) ?_ | refine tt_inc2 (q := 42) hc dX9_linkOf_39 rfl (by decide) rfl ?_
            first | refine tt_inc3 (q := 45) hc dX9_linkOf_42 rfl (by decide) (incN _) ?_ | refine tt_inc3 (q := 45) hc dX9_linkOf_42 rfl (by decide) rfl ?_
            refine tt_goto (t := 15) hc dX9_linkOf_45 rfl ?_
            first
            | (rw [if_neg (ba_l (decide_eq_false (Nat.ne_of_gt c_25))), Nat.zero_add] at h; exact ih (s + 1) m (by omega) (by omega) h)
            | (rw [if_neg (ba_l2 c_36), Nat.zero_add] at h; exact ih (s + 1) m (by omega) (by omega) h)
            | (rw [if_pos (ba_t2 c_25 c_36), ← Nat.add_assoc] at h; exact ih (s + 1) (m + 1) (by omega) (by omega) h)
  refine tt_al0 (q := 1) hc dX9_linkOf_0 rfl ?_
  refine tt_getR (q := 4) hc fl_X9_19 (by first | assumption | exact ⟨by decide, _, rfl, rfl⟩) dX9_linkOf_1 rfl ?_
  refine tt_il1 (q := 5) hc dX9_linkOf_4 rfl ?_
  refine tt_zald (q := 6) hc (by first | assumption | exact ⟨by decide, rfl, by decide⟩) (by omega) dX9_linkOf_5 rfl ?_
  rw [hF.at h0 ha]
  first | (with_reducible refine chkb ?_; refine tt_ifneB (t := 11) (q := 9) hc dX9_linkOf_6 rfl rfl (fun c_6 => ?_) (fun c_6 => ?_)) | (with_reducible refine chk1 ?_; refine tt_ifneN (t := 11) (q := 9) hc (by omega) dX9_linkOf_6 rfl rfl (fun c_6 => ?_) (fun c_6 => ?_)) | refine tt_ifne (t := 11) (q := 9) hc dX9_linkOf_6 rfl rfl (fun c_6 => ?_) (fun c_6 => ?_)
  · refine tt_iconst (v := nI 0) (q := 12) hc rfl dX9_linkOf_11 rfl ?_
    refine tt_is2 (q := 13) hc dX9_linkOf_12 rfl (by decide) ?_
    refine tt_iconst (v := nI 0) (q := 14) hc rfl dX9_linkOf_13 rfl ?_
    refine tt_is3 (q := 15) hc dX9_linkOf_14 rfl (by decide) ?_
    exact L 256 0 0 rfl (Nat.le_refl _) (by rw [Nat.zero_add]; exact hQ)
  · refine tt_iconst (v := nI 0) (q := 10) hc rfl dX9_linkOf_9 rfl ?_
    refine tt_reti hX rfl dX9_linkOf_10 ?_
    rw [lkS_non (of_decide_eq_false c_6)] at hQ
    exact hQ
set_option maxHeartbeats 4000000 in
theorem c_X9_linked {l : Launch} {a : Nat} {B : HP} {μ : Mem} {Q : Option Value → Mem → Prop} (hF : FA μ B) (h0 : 0 < a) (ha : a < 256) (hQ : Q (some (.int (nI (lkP B a)))) μ) : CC l 0 mX9_linked [.ref 24, .int (nI a)] μ Q := by
  refine CC.of (M := mX9_linked) (by decide +kernel) rfl (fun v h => by simp at h; rcases h with rfl | rfl <;> rfl) (Nat.le_of_ble_eq_true rfl) (fun X hX => ?_)
  have hc := hX.cx
  have a78 := HA78
  have L : ∀ (n s r : Nat), s + n = 256 → r < 256 → Q (some (.int (nI (lko B a n s r)))) μ → TT X 15 [.ref 24, .int (nI a), .int (nI r), .int (nI s)] [] μ := by
    intro n
    induction n with
    | zero =>
      intro s r hs hr h
      refine tt_il3 (q := 16) hc dX9_linked_15 rfl ?_
      refine tt_sipush (v := nI 256) (q := 19) hc (by decide) dX9_linked_16 rfl ?_
      first | (with_reducible refine chk2 ?_; refine tt_icgeN (t := 49) (q := 22) hc (by omega) (by omega) dX9_linked_19 rfl rfl (fun c_19 => ?_) (fun c_19 => ?_)) | refine tt_icge (t := 49) (q := 22) hc dX9_linked_19 rfl rfl (fun c_19 => ?_) (fun c_19 => ?_)
      · refine tt_il2 (q := 50) hc dX9_linked_49 rfl ?_
        refine tt_reti hX rfl dX9_linked_50 ?_
        exact h
      · omega
    | succ n ih =>
      intro s r hs hr h
      have hor := or_lt (a := s) (b := a) (by omega) ha
      have han := and_lt (a := s) (b := a) (by omega)
      have hor2 := or_lt (a := r) (b := s) hr (by omega)
      rw [lko] at h
      refine tt_il3 (q := 16) hc dX9_linked_15 rfl ?_
      refine tt_sipush (v := nI 256) (q := 19) hc (by decide) dX9_linked_16 rfl ?_
      first | (with_reducible refine chk2 ?_; refine tt_icgeN (t := 49) (q := 22) hc (by omega) (by omega) dX9_linked_19 rfl rfl (fun c_19 => ?_) (fun c_19 => ?_)) | refine tt_icge (t := 49) (q := 22) hc dX9_linked_19 rfl rfl (fun c_19 => ?_) (fun c_19 => ?_)
      · omega
      · refine tt_il3 (q := 23) hc dX9_linked_22 rfl ?_
        refine tt_il1 (q := 24) hc dX9_linked_23 rfl ?_
        first | (with_reducible refine chk2 ?_; refine tt_iandN (q := 25) hc dX9_linked_24 rfl ?_) | (with_reducible refine chkan ?_; refine tt_iandnN (q := 25) hc dX9_linked_24 rfl ?_) | (with_reducible refine chkna ?_; refine tt_inandN (q := 25) hc dX9_linked_24 rfl ?_) | refine tt_iand (q := 25) hc dX9_linked_24 rfl ?_
        first | (with_reducible refine chkb ?_; refine tt_ifneB (t := 43) (q := 28) hc dX9_linked_25 rfl rfl (fun c_25 => ?_) (fun c_25 => ?_)) | (with_reducible refine chk1 ?_; refine tt_ifneN (t := 43) (q := 28) hc (by omega) dX9_linked_25 rfl rfl (fun c_25 => ?_) (fun c_25 => ?_)) | refine tt_ifne (t := 43) (q := 28) hc dX9_linked_25 rfl rfl (fun c_25 => ?_) (fun c_25 => ?_)
        · first | refine tt_inc3 (q := 46) hc dX9_linked_43 rfl (by decide) (incN _) ?_ | refine tt_inc3 (q := 46) hc dX9_linked_43 rfl (by decide) rfl ?_
          refine tt_goto (t := 15) hc dX9_linked_46 rfl ?_
          first
          | (rw [if_neg (fun z => absurd z.1 (Nat.ne_of_gt c_25))] at h; exact ih (s + 1) r (by omega) hr h)
          | (rw [if_neg (fun z => of_decide_eq_false c_36 z.2)] at h; exact ih (s + 1) r (by omega) hr h)
          | (rw [if_pos ⟨c_25, of_decide_eq_true c_36⟩] at h; exact ih (s + 1) _ (by omega) hor2 h)
        · refine tt_al0 (q := 29) hc dX9_linked_28 rfl ?_
          refine tt_getR (q := 32) hc fl_X9_19 (by first | assumption | exact ⟨by decide, _, rfl, rfl⟩) dX9_linked_29 rfl ?_
          refine tt_il3 (q := 33) hc dX9_linked_32 rfl ?_
          refine tt_il1 (q := 34) hc dX9_linked_33 rfl ?_
          first | (with_reducible refine chk2 ?_; refine tt_iorN (q := 35) hc dX9_linked_34 rfl ?_) | refine tt_ior (q := 35) hc dX9_linked_34 rfl ?_
          refine tt_zald (q := 36) hc (by first | assumption | exact ⟨by decide, rfl, by decide⟩) (by omega) dX9_linked_35 rfl ?_
          rw [hF.or h0 ha (by omega)]
          first | (with_reducible refine chkb ?_; refine tt_ifeqB (t := 43) (q := 39) hc dX9_linked_36 rfl rfl (fun c_36 => ?_) (fun c_36 => ?_)) | (with_reducible refine chk1 ?_; refine tt_ifeqN (t := 43) (q := 39) hc (by omega) dX9_linked_36 rfl rfl (fun c_36 => ?_) (fun c_36 => ?_)) | refine tt_ifeq (t := 43) (q := 39) hc dX9_linked_36 rfl rfl (fun c_36 => ?_) (fun c_36 => ?_)
          · first | refine tt_inc3 (q := 46) hc dX9_linked_43 rfl (by decide) (incN _) ?_ | refine tt_inc3 (q := 46) hc dX9_linked_43 rfl (by decide) rfl ?_
            refine tt_goto (t := 15) hc dX9_linked_46 rfl ?_
            first
            | (rw [if_neg (fun z => absurd z.1 (Nat.ne_of_gt c_25))] at h; exact ih (s + 1) r (by omega) hr h)
            | (rw [if_neg (fun z => of_decide_eq_false c_36 z.2)] at h; exact ih (s + 1) r (by omega) hr h)
            | (rw [if_pos ⟨c_25, of_decide_eq_true c_36⟩] at h; exact ih (s + 1) _ (by omega) hor2 h)
          · refine tt_il2 (q := 40) hc dX9_linked_39 rfl ?_
            refine tt_il3 (q := 41) hc dX9_linked_40 rfl ?_
            first | (with_reducible refine chk2 ?_; refine tt_iorN (q := 42) hc dX9_linked_41 rfl ?_) | refine tt_ior (q := 42) hc dX9_linked_41 rfl ?_
            refine tt_is2 (q := 43) hc dX9_linked_42 rfl (by decide) ?_
            first | refine tt_inc3 (q := 46) hc dX9_linked_43 rfl (by decide) (incN _) ?_ | refine tt_inc3 (q := 46) hc dX9_linked_43 rfl (by decide) rfl ?_
            refine tt_goto (t := 15) hc dX9_linked_46 rfl ?_
            first
            | (rw [if_neg (fun z => absurd z.1 (Nat.ne_of_gt c_25))] at h; exact ih (s + 1) r (by omega) hr h)
            | (rw [if_neg (fun z => of_decide_eq_false c_36 z.2)] at h; exact ih (s + 1) r (by omega) hr h)
            | (rw [if_pos ⟨c_25, of_decide_eq_true c_36⟩] at h; exact ih (s + 1) _ (by omega) hor2 h)
  refine tt_al0 (q := 1) hc dX9_linked_0 rfl ?_
  refine tt_getR (q := 4) hc fl_X9_19 (by first | assumption | exact ⟨by decide, _, rfl, rfl⟩) dX9_linked_1 rfl ?_
  refine tt_il1 (q := 5) hc dX9_linked_4 rfl ?_
  refine tt_zald (q := 6) hc (by first | assumption | exact ⟨by decide, rfl, by decide⟩) (by omega) dX9_linked_5 rfl ?_
  rw [hF.at h0 ha]
  first | (with_reducible refine chkb ?_; refine tt_ifneB (t := 11) (q := 9) hc dX9_linked_6 rfl rfl (fun c_6 => ?_) (fun c_6 => ?_)) | (with_reducible refine chk1 ?_; refine tt_ifneN (t := 11) (q := 9) hc (by omega) dX9_linked_6 rfl rfl (fun c_6 => ?_) (fun c_6 => ?_)) | refine tt_ifne (t := 11) (q := 9) hc dX9_linked_6 rfl rfl (fun c_6 => ?_) (fun c_6 => ?_)
  · refine tt_iconst (v := nI 0) (q := 12) hc rfl dX9_linked_11 rfl ?_
    refine tt_is2 (q := 13) hc dX9_linked_12 rfl (by decide) ?_
    refine tt_iconst (v := nI 0) (q := 14) hc rfl dX9_linked_13 rfl ?_
    refine tt_is3 (q := 15) hc dX9_linked_14 rfl (by decide) ?_
    exact L 256 0 0 rfl (by decide) (by rw [lko_lkP ha]; exact hQ)
  · refine tt_iconst (v := nI 0) (q := 10) hc rfl dX9_linked_9 rfl ?_
    refine tt_reti hX rfl dX9_linked_10 ?_
    rw [lkP_non ha (of_decide_eq_false c_6)] at hQ
    exact hQ
set_option maxHeartbeats 4000000 in
theorem c_X9_isBody {l : Launch} {v : Int32} {K : Nat} {μ : Mem} {Q : Option Value → Mem → Prop} (hK : K = 3 ∨ K = 4) (hz : μ 24 0 = nI K) (hQ : Q (some (.int (bI (inB v (nI 1) (nI 255) && decide (pop v.toNatClampNeg = K))))) μ) : CC l 2 mX9_isBody [.ref 24, .int v] μ Q := by
  refine CC.of (M := mX9_isBody) (by decide +kernel) rfl (fun v h => by simp at h; rcases h with rfl | rfl <;> rfl) (Nat.le_of_ble_eq_true rfl) (fun X hX => ?_)
  have hc := hX.cx
  refine tt_il1 (q := 1) hc dX9_isBody_0 rfl ?_
  refine tt_cS1 (q := 4) (d' := 1) hc (by first | decide | omega) kmX9_isSet ml_X9_144 (Nat.le_of_ble_eq_true rfl) dX9_isBody_1 rfl ?_
  refine c_X9_isSet ?_
  dsimp only [Option.toList, List.nil_append, List.cons_append]
  first | (with_reducible refine chkb ?_; refine tt_ifeqB (t := 22) (q := 7) hc dX9_isBody_4 rfl rfl (fun c_4 => ?_) (fun c_4 => ?_)) | (with_reducible refine chk1 ?_; refine tt_ifeqN (t := 22) (q := 7) hc (by omega) dX9_isBody_4 rfl rfl (fun c_4 => ?_) (fun c_4 => ?_)) | refine tt_ifeq (t := 22) (q := 7) hc dX9_isBody_4 rfl rfl (fun c_4 => ?_) (fun c_4 => ?_)
  · refine tt_iconst (v := nI 0) (q := 23) hc rfl dX9_isBody_22 rfl ?_
    refine tt_retz hX rfl (by first | decide | exact bI_01 _) dX9_isBody_23 ?_
    first
    | (rw [c_4, Bool.false_and] at hQ; exact hQ)
    | (rw [decide_eq_false c_15, Bool.and_false] at hQ; exact hQ)
    | (rw [decide_eq_true c_15, Bool.and_true, c_4] at hQ; exact hQ)
  · obtain ⟨n, hn1, hn5, rfl⟩ := inB_t (by decide) (by decide) c_4
    rw [nI_clamp (by omega)] at hQ
    have hp := pop_le n (by omega)
    refine tt_il1 (q := 8) hc dX9_isBody_7 rfl ?_
    refine tt_cS1 (q := 11) (d' := 1) hc (by first | decide | omega) kmX9_many ml_X9_110 (Nat.le_of_ble_eq_true rfl) dX9_isBody_8 rfl ?_
    refine c_X9_many ?_
    dsimp only [Option.toList, List.nil_append, List.cons_append]
    refine tt_al0 (q := 12) hc dX9_isBody_11 rfl ?_
    refine tt_getI (q := 15) hc fl_X9_9 (by first | assumption | exact ⟨by decide, _, rfl, _, rfl⟩) dX9_isBody_12 rfl ?_
    rw [hz]
    first | (with_reducible refine chk2 ?_; refine tt_icneN (t := 22) (q := 18) hc (by omega) (by omega) dX9_isBody_15 rfl rfl (fun c_15 => ?_) (fun c_15 => ?_)) | refine tt_icne (t := 22) (q := 18) hc dX9_isBody_15 rfl rfl (fun c_15 => ?_) (fun c_15 => ?_)
    · refine tt_iconst (v := nI 0) (q := 23) hc rfl dX9_isBody_22 rfl ?_
      refine tt_retz hX rfl (by first | decide | exact bI_01 _) dX9_isBody_23 ?_
      first
      | (rw [c_4, Bool.false_and] at hQ; exact hQ)
      | (rw [decide_eq_false c_15, Bool.and_false] at hQ; exact hQ)
      | (rw [decide_eq_true c_15, Bool.and_true, c_4] at hQ; exact hQ)
    · refine tt_iconst (v := nI 1) (q := 19) hc rfl dX9_isBody_18 rfl ?_
      refine tt_goto (t := 23) hc dX9_isBody_19 rfl ?_
      refine tt_retz hX rfl (by first | decide | exact bI_01 _) dX9_isBody_23 ?_
      first
      | (rw [c_4, Bool.false_and] at hQ; exact hQ)
      | (rw [decide_eq_false c_15, Bool.and_false] at hQ; exact hQ)
      | (rw [decide_eq_true c_15, Bool.and_true, c_4] at hQ; exact hQ)
theorem decN {k : Nat} (h : 0 < k) : nI k + Int32.ofInt (-1) = nI (k - 1) := by
  obtain ⟨j, rfl⟩ : ∃ j, k = j + 1 := ⟨k - 1, by omega⟩
  rw [← nI_1 j, Int32.add_assoc, show (1 : Int32) + Int32.ofInt (-1) = 0 by decide, Int32.add_zero, Nat.add_sub_cancel]
set_option maxHeartbeats 4000000 in
theorem c_X9_bodyOf {l : Launch} {i : Int32} {S : ST} {μ : Mem} {Q : Option Value → Mem → Prop} (hM : MR μ S) (hQ : Q (some (.int (an_bodyOf i S))) μ) : CC l 0 mX9_bodyOf [.ref 24, .int i] μ Q := by
  refine CC.of (M := mX9_bodyOf) (by decide +kernel) rfl (fun v h => by simp at h; rcases h with rfl | rfl <;> rfl) (Nat.le_of_ble_eq_true rfl) (fun X hX => ?_)
  have hc := hX.cx
  obtain ⟨K, B, hs, ks, im, ls, tx, pp⟩ := S
  obtain ⟨⟨a0, a1, a2⟩, -⟩ := id hM
  have a77 : HA 77 1 256 := ⟨by decide, rfl, by decide⟩
  rw [an_bodyOf] at hQ
  have L : ∀ (n s k : Nat) (w : Value), s + n = 256 → 0 < s → k < 2 ^ 31 → Q (some (.int (onI (nth B n s k)))) μ → TT X 10 [.ref 24, w, .int (nI k), .int (nI s)] [] μ := by
    intro n
    induction n with
    | zero =>
      intro s k w hs h0 hk h
      refine tt_il3 (q := 11) hc dX9_bodyOf_10 rfl ?_
      refine tt_sipush (v := nI 256) (q := 14) hc (by decide) dX9_bodyOf_11 rfl ?_
      first | (with_reducible refine chk2 ?_; refine tt_icgeN (t := 44) (q := 17) hc (by omega) (by omega) dX9_bodyOf_14 rfl rfl (fun c_14 => ?_) (fun c_14 => ?_)) | refine tt_icge (t := 44) (q := 17) hc dX9_bodyOf_14 rfl rfl (fun c_14 => ?_) (fun c_14 => ?_)
      · refine tt_bipush (v := -5) (q := 46) hc (by decide) dX9_bodyOf_44 rfl ?_
        refine tt_reti hX rfl dX9_bodyOf_46 ?_
        exact h
      · omega
    | succ n ih =>
      intro s k w hs h0 hk h
      rw [nth] at h
      refine tt_il3 (q := 11) hc dX9_bodyOf_10 rfl ?_
      refine tt_sipush (v := nI 256) (q := 14) hc (by decide) dX9_bodyOf_11 rfl ?_
      first | (with_reducible refine chk2 ?_; refine tt_icgeN (t := 44) (q := 17) hc (by omega) (by omega) dX9_bodyOf_14 rfl rfl (fun c_14 => ?_) (fun c_14 => ?_)) | refine tt_icge (t := 44) (q := 17) hc dX9_bodyOf_14 rfl rfl (fun c_14 => ?_) (fun c_14 => ?_)
      · omega
      · refine tt_al0 (q := 18) hc dX9_bodyOf_17 rfl ?_
        refine tt_getR (q := 21) hc fl_X9_15 (by first | assumption | exact ⟨by decide, _, rfl, rfl⟩) dX9_bodyOf_18 rfl ?_
        refine tt_il3 (q := 22) hc dX9_bodyOf_21 rfl ?_
        refine tt_zald (q := 23) hc (by first | assumption | exact ⟨by decide, rfl, by decide⟩) (by omega) dX9_bodyOf_22 rfl ?_
        rw [a2 s (by omega)]
        first | (with_reducible refine chkb ?_; refine tt_ifneB (t := 29) (q := 26) hc dX9_bodyOf_23 rfl rfl (fun c_23 => ?_) (fun c_23 => ?_)) | (with_reducible refine chk1 ?_; refine tt_ifneN (t := 29) (q := 26) hc (by omega) dX9_bodyOf_23 rfl rfl (fun c_23 => ?_) (fun c_23 => ?_)) | refine tt_ifne (t := 29) (q := 26) hc dX9_bodyOf_23 rfl rfl (fun c_23 => ?_) (fun c_23 => ?_)
        · refine tt_il2 (q := 30) hc dX9_bodyOf_29 rfl ?_
          first | (with_reducible refine chkb ?_; refine tt_ifneB (t := 35) (q := 33) hc dX9_bodyOf_30 rfl rfl (fun c_30 => ?_) (fun c_30 => ?_)) | (with_reducible refine chk1 ?_; refine tt_ifneN (t := 35) (q := 33) hc (by omega) dX9_bodyOf_30 rfl rfl (fun c_30 => ?_) (fun c_30 => ?_)) | refine tt_ifne (t := 35) (q := 33) hc dX9_bodyOf_30 rfl rfl (fun c_30 => ?_) (fun c_30 => ?_)
          · refine tt_inc2 (v := nI (k - 1)) (q := 38) hc dX9_bodyOf_35 rfl (by decide) (decN c_30) ?_
            first | refine tt_inc3 (q := 41) hc dX9_bodyOf_38 rfl (by decide) (incN _) ?_ | refine tt_inc3 (q := 41) hc dX9_bodyOf_38 rfl (by decide) rfl ?_
            refine tt_goto (t := 10) hc dX9_bodyOf_41 rfl ?_
            first
            | (rw [if_neg (by rw [c_23]; exact Bool.false_ne_true)] at h; exact ih (s + 1) k _ (by omega) (by omega) hk h)
            | (rw [if_pos c_23, if_neg (Nat.ne_of_gt c_30)] at h; exact ih (s + 1) (k - 1) _ (by omega) (by omega) (by omega) h)
          · refine tt_il3 (q := 34) hc dX9_bodyOf_33 rfl ?_
            refine tt_reti hX rfl dX9_bodyOf_34 ?_
            rw [if_pos c_23, if_pos c_30] at h
            exact h
        · refine tt_goto (t := 38) hc dX9_bodyOf_26 rfl ?_
          first | refine tt_inc3 (q := 41) hc dX9_bodyOf_38 rfl (by decide) (incN _) ?_ | refine tt_inc3 (q := 41) hc dX9_bodyOf_38 rfl (by decide) rfl ?_
          refine tt_goto (t := 10) hc dX9_bodyOf_41 rfl ?_
          first
          | (rw [if_neg (by rw [c_23]; exact Bool.false_ne_true)] at h; exact ih (s + 1) k _ (by omega) (by omega) hk h)
          | (rw [if_pos c_23, if_neg (Nat.ne_of_gt c_30)] at h; exact ih (s + 1) (k - 1) _ (by omega) (by omega) (by omega) h)
  refine tt_il1 (q := 1) hc dX9_bodyOf_0 rfl ?_
  refine tt_ifge (t := 6) (q := 4) hc dX9_bodyOf_1 rfl rfl (fun c_1 => ?_) (fun c_1 => ?_)
  · rw [if_neg (Int32.not_lt.mpr c_1)] at hQ
    obtain ⟨k, hk, rfl⟩ := nI_of (Int32.not_lt.mpr c_1)
    rw [nI_clamp hk] at hQ
    refine tt_il1 (q := 7) hc dX9_bodyOf_6 rfl ?_
    refine tt_is2 (q := 8) hc dX9_bodyOf_7 rfl (by decide) ?_
    refine tt_iconst (v := nI 1) (q := 9) hc rfl dX9_bodyOf_8 rfl ?_
    refine tt_is3 (q := 10) hc dX9_bodyOf_9 rfl (by decide) ?_
    exact L 255 1 k _ rfl (by decide) hk hQ
  · refine tt_iconst (v := -1) (q := 5) hc rfl dX9_bodyOf_4 rfl ?_
    refine tt_reti hX rfl dX9_bodyOf_5 ?_
    rw [if_pos (Int32.not_le.mp c_1)] at hQ
    exact hQ
set_option maxHeartbeats 4000000 in
theorem c_X9_faces {l : Launch} {j : Int32} {S : ST} {μ : Mem} {Q : Option Value → Mem → Prop} (hM : MR μ S) (hQ : ∀ μ', frm mL μ μ' → MR μ' S → Q (some (.int (an_faces j S))) μ') : CC l 3 mX9_faces [.ref 24, .int j] μ Q := by
  refine CC.of (M := mX9_faces) (by decide +kernel) rfl (fun v h => by simp at h; rcases h with rfl | rfl <;> rfl) (Nat.le_of_ble_eq_true rfl) (fun X hX => ?_)
  have hc := hX.cx
  obtain ⟨K, B, hs, ks, im, ls, tx, pp⟩ := S
  obtain ⟨⟨a0, a1, a2⟩, -⟩ := id hM
  have a77 : HA 77 1 256 := ⟨by decide, rfl, by decide⟩
  rw [an_faces] at hQ
  refine tt_il1 (q := 1) hc dX9_faces_0 rfl ?_
  refine tt_iconst (v := nI 1) (q := 2) hc rfl dX9_faces_1 rfl ?_
  refine tt_iconst (v := nI 4) (q := 3) hc rfl dX9_faces_2 rfl ?_
  refine tt_cS3 (q := 6) (d' := 0) hc (by first | decide | omega) kmX9_in ml_X9_91 (Nat.le_of_ble_eq_true rfl) dX9_faces_3 rfl ?_
  refine c_X9_in ?_
  dsimp only [Option.toList, List.nil_append, List.cons_append]
  first | (with_reducible refine chkb ?_; refine tt_ifneB (t := 12) (q := 9) hc dX9_faces_6 rfl rfl (fun c_6 => ?_) (fun c_6 => ?_)) | (with_reducible refine chk1 ?_; refine tt_ifneN (t := 12) (q := 9) hc (by omega) dX9_faces_6 rfl rfl (fun c_6 => ?_) (fun c_6 => ?_)) | refine tt_ifne (t := 12) (q := 9) hc dX9_faces_6 rfl rfl (fun c_6 => ?_) (fun c_6 => ?_)
  · rw [if_pos c_6] at hQ
    obtain ⟨n, hn1, hn5, rfl⟩ := inB_t (by decide) (by decide) c_6
    rw [nI_clamp (by omega)] at hQ
    refine tt_al0 (q := 13) hc dX9_faces_12 rfl ?_
    refine tt_al0 (q := 14) hc dX9_faces_13 rfl ?_
    refine tt_getR (q := 17) hc fl_X9_15 (by first | assumption | exact ⟨by decide, _, rfl, rfl⟩) dX9_faces_14 rfl ?_
    refine tt_cV1 (q := 20) (d' := 0) (ci := 9) hc (by first | decide | omega) kmX9_layFaces ml_X9_150 (by first | assumption | exact ⟨by decide, _, rfl⟩) rfl (Nat.le_of_ble_eq_true rfl) dX9_faces_17 rfl ?_
    refine c_X9_layFaces a77 (by decide) a0 a2 (fun ν hf hF => ?_)
    dsimp only [Option.toList, List.nil_append, List.cons_append]
    refine tt_al0 (q := 21) hc dX9_faces_20 rfl ?_
    refine tt_il1 (q := 22) hc dX9_faces_21 rfl ?_
    refine tt_cV1 (q := 25) (d' := 2) (ci := 9) hc (by first | decide | omega) kmX9_facesOf ml_X9_113 (by first | assumption | exact ⟨by decide, _, rfl⟩) rfl (Nat.le_of_ble_eq_true rfl) dX9_faces_22 rfl ?_
    refine c_X9_facesOf hF (by omega) ?_
    dsimp only [Option.toList, List.nil_append, List.cons_append]
    refine tt_reti hX rfl dX9_faces_25 ?_
    exact hQ ν (hf.ml (by decide)) (hM.wk hf (by decide))
  · refine tt_bipush (v := -2) (q := 11) hc (by decide) dX9_faces_9 rfl ?_
    refine tt_reti hX rfl dX9_faces_11 ?_
    rw [if_neg (by rw [c_6]; exact Bool.false_ne_true)] at hQ
    exact hQ μ frm.rf hM
set_option maxHeartbeats 4000000 in
theorem c_X9_wall {l : Launch} {i : Int32} {S : ST} {μ : Mem} {Q : Option Value → Mem → Prop} (hM : MR μ S) (hQ : ∀ μ', frm mL μ μ' → MR μ' S → Q (some (.int (an_wall i S))) μ') : CC l 3 mX9_wall [.ref 24, .int i] μ Q := by
  refine CC.of (M := mX9_wall) (by decide +kernel) rfl (fun v h => by simp at h; rcases h with rfl | rfl <;> rfl) (Nat.le_of_ble_eq_true rfl) (fun X hX => ?_)
  have hc := hX.cx
  obtain ⟨K, B, hs, ks, im, ls, tx, pp⟩ := S
  obtain ⟨⟨a0, a1, a2⟩, -⟩ := id hM
  have a77 : HA 77 1 256 := ⟨by decide, rfl, by decide⟩
  rw [an_wall] at hQ
  have L : ∀ (ν : Mem), FA ν B → ν 24 0 = nI K → ∀ (n s k : Nat) (w : Value), s + n = 256 → 0 < s → k < 2 ^ 31 → Q (some (.int (onI (nth (wal K B) n s k)))) ν → TT X 18 [.ref 24, w, .int (nI k), .int (nI s)] [] ν := by
    intro ν hF hz n
    induction n with
    | zero =>
      intro s k w hs h0 hk h
      refine tt_il3 (q := 19) hc dX9_wall_18 rfl ?_
      refine tt_sipush (v := nI 256) (q := 22) hc (by decide) dX9_wall_19 rfl ?_
      first | (with_reducible refine chk2 ?_; refine tt_icgeN (t := 55) (q := 25) hc (by omega) (by omega) dX9_wall_22 rfl rfl (fun c_22 => ?_) (fun c_22 => ?_)) | refine tt_icge (t := 55) (q := 25) hc dX9_wall_22 rfl rfl (fun c_22 => ?_) (fun c_22 => ?_)
      · refine tt_bipush (v := -5) (q := 57) hc (by decide) dX9_wall_55 rfl ?_
        refine tt_reti hX rfl dX9_wall_57 ?_
        exact h
      · omega
    | succ n ih =>
      intro s k w hs h0 hk h
      rw [nth] at h
      refine tt_il3 (q := 19) hc dX9_wall_18 rfl ?_
      refine tt_sipush (v := nI 256) (q := 22) hc (by decide) dX9_wall_19 rfl ?_
      first | (with_reducible refine chk2 ?_; refine tt_icgeN (t := 55) (q := 25) hc (by omega) (by omega) dX9_wall_22 rfl rfl (fun c_22 => ?_) (fun c_22 => ?_)) | refine tt_icge (t := 55) (q := 25) hc dX9_wall_22 rfl rfl (fun c_22 => ?_) (fun c_22 => ?_)
      · omega
      · refine tt_al0 (q := 26) hc dX9_wall_25 rfl ?_
        refine tt_il3 (q := 27) hc dX9_wall_26 rfl ?_
        refine tt_al0 (q := 28) hc dX9_wall_27 rfl ?_
        refine tt_getI (q := 31) hc fl_X9_9 (by first | assumption | exact ⟨by decide, _, rfl, _, rfl⟩) dX9_wall_28 rfl ?_
        rw [hz]
        refine tt_cV2 (q := 34) (d' := 2) (ci := 9) hc (by first | decide | omega) kmX9_isWall ml_X9_116 (by first | assumption | exact ⟨by decide, _, rfl⟩) rfl (Nat.le_of_ble_eq_true rfl) dX9_wall_31 rfl ?_
        refine c_X9_isWall a0.1 hF h0 (by omega) ?_
        dsimp only [Option.toList, List.nil_append, List.cons_append]
        first | (with_reducible refine chkb ?_; refine tt_ifneB (t := 40) (q := 37) hc dX9_wall_34 rfl rfl (fun c_34 => ?_) (fun c_34 => ?_)) | (with_reducible refine chk1 ?_; refine tt_ifneN (t := 40) (q := 37) hc (by omega) dX9_wall_34 rfl rfl (fun c_34 => ?_) (fun c_34 => ?_)) | refine tt_ifne (t := 40) (q := 37) hc dX9_wall_34 rfl rfl (fun c_34 => ?_) (fun c_34 => ?_)
        · refine tt_il2 (q := 41) hc dX9_wall_40 rfl ?_
          first | (with_reducible refine chkb ?_; refine tt_ifneB (t := 46) (q := 44) hc dX9_wall_41 rfl rfl (fun c_41 => ?_) (fun c_41 => ?_)) | (with_reducible refine chk1 ?_; refine tt_ifneN (t := 46) (q := 44) hc (by omega) dX9_wall_41 rfl rfl (fun c_41 => ?_) (fun c_41 => ?_)) | refine tt_ifne (t := 46) (q := 44) hc dX9_wall_41 rfl rfl (fun c_41 => ?_) (fun c_41 => ?_)
          · refine tt_inc2 (v := nI (k - 1)) (q := 49) hc dX9_wall_46 rfl (by decide) (decN c_41) ?_
            first | refine tt_inc3 (q := 52) hc dX9_wall_49 rfl (by decide) (incN _) ?_ | refine tt_inc3 (q := 52) hc dX9_wall_49 rfl (by decide) rfl ?_
            refine tt_goto (t := 18) hc dX9_wall_52 rfl ?_
            first
            | (rw [if_neg (by rw [c_34]; exact Bool.false_ne_true)] at h; exact ih (s + 1) k _ (by omega) (by omega) hk h)
            | (rw [if_pos c_34, if_neg (Nat.ne_of_gt c_41)] at h; exact ih (s + 1) (k - 1) _ (by omega) (by omega) (by omega) h)
          · refine tt_il3 (q := 45) hc dX9_wall_44 rfl ?_
            refine tt_reti hX rfl dX9_wall_45 ?_
            rw [if_pos c_34, if_pos c_41] at h
            exact h
        · refine tt_goto (t := 49) hc dX9_wall_37 rfl ?_
          first | refine tt_inc3 (q := 52) hc dX9_wall_49 rfl (by decide) (incN _) ?_ | refine tt_inc3 (q := 52) hc dX9_wall_49 rfl (by decide) rfl ?_
          refine tt_goto (t := 18) hc dX9_wall_52 rfl ?_
          first
          | (rw [if_neg (by rw [c_34]; exact Bool.false_ne_true)] at h; exact ih (s + 1) k _ (by omega) (by omega) hk h)
          | (rw [if_pos c_34, if_neg (Nat.ne_of_gt c_41)] at h; exact ih (s + 1) (k - 1) _ (by omega) (by omega) (by omega) h)
  refine tt_il1 (q := 1) hc dX9_wall_0 rfl ?_
  refine tt_ifge (t := 6) (q := 4) hc dX9_wall_1 rfl rfl (fun c_1 => ?_) (fun c_1 => ?_)
  · rw [if_neg (Int32.not_lt.mpr c_1)] at hQ
    obtain ⟨k, hk, rfl⟩ := nI_of (Int32.not_lt.mpr c_1)
    rw [nI_clamp hk] at hQ
    refine tt_al0 (q := 7) hc dX9_wall_6 rfl ?_
    refine tt_al0 (q := 8) hc dX9_wall_7 rfl ?_
    refine tt_getR (q := 11) hc fl_X9_15 (by first | assumption | exact ⟨by decide, _, rfl, rfl⟩) dX9_wall_8 rfl ?_
    refine tt_cV1 (q := 14) (d' := 0) (ci := 9) hc (by first | decide | omega) kmX9_layFaces ml_X9_150 (by first | assumption | exact ⟨by decide, _, rfl⟩) rfl (Nat.le_of_ble_eq_true rfl) dX9_wall_11 rfl ?_
    refine c_X9_layFaces a77 (by decide) a0 a2 (fun ν hf hF => ?_)
    dsimp only [Option.toList, List.nil_append, List.cons_append]
    refine tt_il1 (q := 15) hc dX9_wall_14 rfl ?_
    refine tt_is2 (q := 16) hc dX9_wall_15 rfl (by decide) ?_
    refine tt_iconst (v := nI 1) (q := 17) hc rfl dX9_wall_16 rfl ?_
    refine tt_is3 (q := 18) hc dX9_wall_17 rfl (by decide) ?_
    exact L ν hF ((hf.2 0 (by decide)).trans a1) 255 1 k _ rfl (by decide) hk (hQ ν (hf.ml (by decide)) (hM.wk hf (by decide)))
  · refine tt_iconst (v := -1) (q := 5) hc rfl dX9_wall_4 rfl ?_
    refine tt_reti hX rfl dX9_wall_5 ?_
    rw [if_pos (Int32.not_le.mp c_1)] at hQ
    exact hQ μ frm.rf hM
set_option maxHeartbeats 8000000 in
theorem c_X9_face {l : Launch} {s w : Int32} {S : ST} {μ : Mem} {Q : Option Value → Mem → Prop} (hM : MR μ S) (hQ : ∀ μ', frm mL μ μ' → MR μ' S → Q (some (.int (an_face s w S))) μ') : CC l 3 mX9_face [.ref 24, .int s, .int w] μ Q := by
  refine CC.of (M := mX9_face) (by decide +kernel) rfl (fun v h => by simp at h; rcases h with rfl | rfl | rfl <;> rfl) (Nat.le_of_ble_eq_true rfl) (fun X hX => ?_)
  have hc := hX.cx
  obtain ⟨K, B, hs, ks, im, ls, tx, pp⟩ := S
  obtain ⟨⟨a0, a1, a2⟩, -⟩ := id hM
  have a77 : HA 77 1 256 := ⟨by decide, rfl, by decide⟩
  have a78 := HA78
  have a26 := HA26
  rw [an_face] at hQ
  have W : ¬ inB w (nI 0) (nI 3) = true → inB s (nI 1) (nI 255) = true → Q (some (.int (-1))) μ := by
    intro h1 h2
    have h := hQ μ frm.rf hM
    rw [if_pos h2, if_neg (fun z => h1 (by rw [z]; decide)), if_neg (fun z => h1 (by rw [z]; decide)), if_neg (fun z => h1 (by rw [z]; decide)), if_neg (fun z => h1 (by rw [z]; decide))] at h
    exact h
  have SW : ∀ (ν : Mem) (n j : Nat), 0 < n → n < 256 → j ≤ 3 → FA ν B → Q (some (.int (if nI j = nI 0 then bI (decide (0 < cW B n)) else if nI j = nI 1 then nI (cW B n) else if nI j = nI 2 then nI (lkS B n) else if nI j = nI 3 then nI (lkP B n) else -1))) ν → TT X 27 [.ref 24, .int (nI n), .int (nI j)] [.int (nI j)] ν := by
    intro ν n j h0 hn hj hF h
    rcases (show j = 0 ∨ j = 1 ∨ j = 2 ∨ j = 3 by omega) with rfl | rfl | rfl | rfl
    · refine tt_tswI (t := 52) hc dX9_face_27 (by decide) (by decide) rfl rfl ?_
      refine tt_al0 (q := 53) hc dX9_face_52 rfl ?_
      refine tt_getR (q := 56) hc fl_X9_19 (by first | assumption | exact ⟨by decide, _, rfl, rfl⟩) dX9_face_53 rfl ?_
      refine tt_il1 (q := 57) hc dX9_face_56 rfl ?_
      refine tt_zald (q := 58) hc (by first | assumption | exact ⟨by decide, rfl, by decide⟩) (by omega) dX9_face_57 rfl ?_
      rw [hF.at h0 hn]
      first | (with_reducible refine chkb ?_; refine tt_ifeqB (t := 65) (q := 61) hc dX9_face_58 rfl rfl (fun c_58 => ?_) (fun c_58 => ?_)) | (with_reducible refine chk1 ?_; refine tt_ifeqN (t := 65) (q := 61) hc (by omega) dX9_face_58 rfl rfl (fun c_58 => ?_) (fun c_58 => ?_)) | refine tt_ifeq (t := 65) (q := 61) hc dX9_face_58 rfl rfl (fun c_58 => ?_) (fun c_58 => ?_)
      · refine tt_iconst (v := nI 0) (q := 66) hc rfl dX9_face_65 rfl ?_
        refine tt_reti hX rfl dX9_face_66 ?_
        rw [if_pos rfl, c_58] at h
        exact h
      · refine tt_iconst (v := nI 1) (q := 62) hc rfl dX9_face_61 rfl ?_
        refine tt_goto (t := 66) hc dX9_face_62 rfl ?_
        refine tt_reti hX rfl dX9_face_66 ?_
        rw [if_pos rfl, c_58] at h
        exact h
    · refine tt_tswI (t := 67) hc dX9_face_27 (by decide) (by decide) rfl rfl ?_
      refine tt_al0 (q := 68) hc dX9_face_67 rfl ?_
      refine tt_getR (q := 71) hc fl_X9_22 (by first | assumption | exact ⟨by decide, _, rfl, rfl⟩) dX9_face_68 rfl ?_
      refine tt_il1 (q := 72) hc dX9_face_71 rfl ?_
      refine tt_iald (q := 73) hc (by first | assumption | exact ⟨by decide, rfl, by decide⟩) (by omega) dX9_face_72 rfl ?_
      rw [hF.2.1 n h0 hn]
      refine tt_reti hX rfl dX9_face_73 ?_
      exact h
    · refine tt_tswI (t := 74) hc dX9_face_27 (by decide) (by decide) rfl rfl ?_
      refine tt_al0 (q := 75) hc dX9_face_74 rfl ?_
      refine tt_il1 (q := 76) hc dX9_face_75 rfl ?_
      refine tt_cV1 (q := 79) (d' := 0) (ci := 9) hc (by first | decide | omega) kmX9_linkOf ml_X9_194 (by first | assumption | exact ⟨by decide, _, rfl⟩) rfl (Nat.le_of_ble_eq_true rfl) dX9_face_76 rfl ?_
      refine c_X9_linkOf hF h0 hn ?_
      dsimp only [Option.toList, List.nil_append, List.cons_append]
      refine tt_reti hX rfl dX9_face_79 ?_
      exact h
    · refine tt_tswO (t := 80) hc dX9_face_27 (by decide) rfl ?_
      refine tt_al0 (q := 81) hc dX9_face_80 rfl ?_
      refine tt_il1 (q := 82) hc dX9_face_81 rfl ?_
      refine tt_cV1 (q := 85) (d' := 0) (ci := 9) hc (by first | decide | omega) kmX9_linked ml_X9_197 (by first | assumption | exact ⟨by decide, _, rfl⟩) rfl (Nat.le_of_ble_eq_true rfl) dX9_face_82 rfl ?_
      refine c_X9_linked hF h0 hn ?_
      dsimp only [Option.toList, List.nil_append, List.cons_append]
      refine tt_reti hX rfl dX9_face_85 ?_
      exact h
  refine tt_il1 (q := 1) hc dX9_face_0 rfl ?_
  refine tt_cS1 (q := 4) (d' := 1) hc (by first | decide | omega) kmX9_isSet ml_X9_144 (Nat.le_of_ble_eq_true rfl) dX9_face_1 rfl ?_
  refine c_X9_isSet ?_
  dsimp only [Option.toList, List.nil_append, List.cons_append]
  first | (with_reducible refine chkb ?_; refine tt_ifeqB (t := 16) (q := 7) hc dX9_face_4 rfl rfl (fun c_4 => ?_) (fun c_4 => ?_)) | (with_reducible refine chk1 ?_; refine tt_ifeqN (t := 16) (q := 7) hc (by omega) dX9_face_4 rfl rfl (fun c_4 => ?_) (fun c_4 => ?_)) | refine tt_ifeq (t := 16) (q := 7) hc dX9_face_4 rfl rfl (fun c_4 => ?_) (fun c_4 => ?_)
  · refine tt_iconst (v := -1) (q := 17) hc rfl dX9_face_16 rfl ?_
    refine tt_reti hX rfl dX9_face_17 ?_
    first
    | (rw [if_neg (by rw [c_4]; exact Bool.false_ne_true)] at hQ; exact hQ μ frm.rf hM)
    | exact W (ne_true_of_eq_false c_13) c_4
  · refine tt_il2 (q := 8) hc dX9_face_7 rfl ?_
    refine tt_iconst (v := nI 0) (q := 9) hc rfl dX9_face_8 rfl ?_
    refine tt_iconst (v := nI 3) (q := 10) hc rfl dX9_face_9 rfl ?_
    refine tt_cS3 (q := 13) (d' := 0) hc (by first | decide | omega) kmX9_in ml_X9_91 (Nat.le_of_ble_eq_true rfl) dX9_face_10 rfl ?_
    refine c_X9_in ?_
    dsimp only [Option.toList, List.nil_append, List.cons_append]
    first | (with_reducible refine chkb ?_; refine tt_ifneB (t := 18) (q := 16) hc dX9_face_13 rfl rfl (fun c_13 => ?_) (fun c_13 => ?_)) | (with_reducible refine chk1 ?_; refine tt_ifneN (t := 18) (q := 16) hc (by omega) dX9_face_13 rfl rfl (fun c_13 => ?_) (fun c_13 => ?_)) | refine tt_ifne (t := 18) (q := 16) hc dX9_face_13 rfl rfl (fun c_13 => ?_) (fun c_13 => ?_)
    · obtain ⟨n, hn1, hn5, rfl⟩ := inB_t (by decide) (by decide) c_4
      obtain ⟨j, -, hj3, rfl⟩ := inB_t (by decide) (by decide) c_13
      rw [if_pos c_4, nI_clamp (by omega)] at hQ
      refine tt_al0 (q := 19) hc dX9_face_18 rfl ?_
      refine tt_al0 (q := 20) hc dX9_face_19 rfl ?_
      refine tt_getR (q := 23) hc fl_X9_15 (by first | assumption | exact ⟨by decide, _, rfl, rfl⟩) dX9_face_20 rfl ?_
      refine tt_cV1 (q := 26) (d' := 0) (ci := 9) hc (by first | decide | omega) kmX9_layFaces ml_X9_150 (by first | assumption | exact ⟨by decide, _, rfl⟩) rfl (Nat.le_of_ble_eq_true rfl) dX9_face_23 rfl ?_
      refine c_X9_layFaces a77 (by decide) a0 a2 (fun ν hf hF => ?_)
      dsimp only [Option.toList, List.nil_append, List.cons_append]
      refine tt_il2 (q := 27) hc dX9_face_26 rfl ?_
      exact SW ν n j (by omega) (by omega) hj3 hF (hQ ν (hf.ml (by decide)) (hM.wk hf (by decide)))
    · refine tt_iconst (v := -1) (q := 17) hc rfl dX9_face_16 rfl ?_
      refine tt_reti hX rfl dX9_face_17 ?_
      first
      | (rw [if_neg (by rw [c_4]; exact Bool.false_ne_true)] at hQ; exact hQ μ frm.rf hM)
      | exact W (ne_true_of_eq_false c_13) c_4
