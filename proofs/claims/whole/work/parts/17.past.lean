/-! FLIPS DONE; PAST, SHELF, ROWS -/
theorem low_ok : ∀ f, f < 256 → 0 < f → (pop (lowb (255 ^^^ (255 &&& f))) = 1 ∧ f &&& lowb (255 ^^^ (255 &&& f)) = 0) ∨ lowb (255 ^^^ (255 &&& f)) = 0 := by decide +kernel
theorem low0 : lowb (255 ^^^ (255 &&& 0)) = 1 := by decide
theorem cW_sub {B : Nat → Bool} {s t : Nat} (h : ∀ u, u < 256 → u &&& s = s → u &&& t = t) (hp : 0 < cW B s) : 0 < cW B t := by
  obtain ⟨u, h1, h2, h3⟩ := cW_pos.mp hp
  exact cW_pos.mpr ⟨u, h1, h2, h u h1 h3⟩
theorem bit_sub {u s p : Nat} (h : u &&& s = s) (hb : s.testBit p = true) : u &&& 2 ^ p = 2 ^ p := by
  apply Nat.eq_of_testBit_eq
  intro i
  rw [Nat.testBit_and, Nat.testBit_two_pow]
  by_cases e : p = i
  · subst e
    have : (u &&& s).testBit p = true := by rw [h]; exact hb
    rw [Nat.testBit_and] at this
    simp only [Bool.and_eq_true] at this
    simp [this.1]
  · simp [e]
/-- all points of a face are there -/
theorem there_sub {B : Nat → Bool} {s : Nat} (hs : s < 256) (hp : 0 < cW B s) : lkP B 0 &&& s = s := by
  apply Nat.eq_of_testBit_eq
  intro i
  rw [Nat.testBit_and, lkP_bit]
  cases hb : s.testBit i
  · simp
  · have hi : i < 8 := by
      rcases Nat.lt_or_ge i 8 with q | q
      · exact q
      · rw [Nat.testBit_lt_two_pow (Nat.lt_of_lt_of_le hs (Nat.pow_le_pow_right (show 0 < 2 by decide) q : 2 ^ 8 ≤ 2 ^ i))] at hb
        cases hb
    have := cW_sub (t := 0 ||| 2 ^ i) (fun u _ h => by rw [Nat.zero_or]; exact bit_sub h hb) hp
    rw [Nat.zero_or] at this
    simp [hi, this]
theorem prt_pop {K : Nat} {B : Nat → Bool} (h : HOK K B) {a : Nat} (ha : a < 256) (hn : ¬ prt K B a = 0) : 0 < a ∧ 0 < cW B a ∧ cW B a + pop a = K + 1 ∧ pop (prt K B a) = cW B a ∧ a &&& prt K B a = 0 ∧ pop (a ||| prt K B a) = K + 1 := by
  have hlt := prt_lt K B a
  have key : 0 < a ∧ 0 < cW B a ∧ cW B a + pop a = K + 1 ∧ pop (prt K B a) = cW B a ∧ a &&& prt K B a = 0 := by
    unfold prt at hn ⊢
    split at hn
    · exact absurd rfl hn
    · rename_i q
      have q1 : 0 < a := by omega
      have q2 : 0 < cW B a := by omega
      rw [if_neg q]
      refine ⟨q1, q2, by omega, ?_⟩
      split at hn
      · rename_i hk
        rw [if_pos hk]
        have hth : 0 < lkP B 0 := by
          rcases Nat.eq_zero_or_pos (lkP B 0) with z | z
          · have := there_sub ha q2
            rw [z, Nat.zero_and] at this
            omega
          · exact z
        rcases low_ok (lkP B 0) (lkP_lt B 0) hth with ⟨z1, z2⟩ | z
        · refine ⟨by omega, ?_⟩
          have e := there_sub ha q2
          rw [← e, Nat.and_comm (lkP B 0) a, Nat.and_assoc, z2, Nat.and_zero]
        · exact absurd z hn
      · rename_i hk
        rw [if_neg hk]
        split at hn
        · rename_i h3
          rw [if_pos h3]
          exact ⟨by omega, lkP_no B a⟩
        · exact absurd rfl hn
  refine ⟨key.1, key.2.1, key.2.2.1, key.2.2.2.1, key.2.2.2.2, ?_⟩
  rw [pop_or a ha _ hlt key.2.2.2.2]
  omega
/-- the heap behind the FLIP of a -/
def flp (K : Nat) (B : Nat → Bool) (a : Nat) : Nat → Bool := if prt K B a = 0 then B else togA B (a ||| prt K B a)
set_option maxHeartbeats 4000000 in
theorem c_X0_flipAt {l : Launch} {j K a : Nat} (hj : j < 16) {B : Nat → Bool} {μ : Mem} {Q : Option Value → Mem → Prop} (hR : RC μ j K B) (hQ : ∀ μ', frm [40 + 2 * j + 1] μ μ' → RC μ' j K (flp K B a) → Q none μ') (ha : a < 256 := by omega) : CC l 3 mX0_flipAt [.ref (40 + 2 * j), .int (nI a)] μ Q := by
  refine CC.of (M := mX0_flipAt) (by decide +kernel) rfl (fun v h => by simp at h; rcases h with rfl | rfl <;> rfl) (Nat.le_of_ble_eq_true rfl) (fun X hX => ?_)
  have hc := hX.cx
  have ho : HO (40 + 2 * j) 0 := ⟨by omega, _, sh_ho hj⟩
  have hl := prt_lt K B a
  refine tt_al0 (q := 1) hc dX0_flipAt_0 rfl ?_
  refine tt_il1 (q := 2) hc dX0_flipAt_1 rfl ?_
  refine tt_cV1 (q := 5) (d' := 2) (ci := 0) hc (by decide) kmX0_partner ml_X0_64 (by first | assumption | exact ⟨by decide, _, rfl⟩) rfl (Nat.le_of_ble_eq_true rfl) dX0_flipAt_2 rfl ?_
  refine c_X0_partner hj hR ?_
  dsimp only [Option.toList, List.nil_append, List.cons_append]
  refine tt_is2 (q := 6) hc dX0_flipAt_5 rfl (by decide) ?_
  refine tt_il2 (q := 7) hc dX0_flipAt_6 rfl ?_
  first | (with_reducible refine chkb ?_; refine tt_ifeqB (t := 17) (q := 10) hc dX0_flipAt_7 rfl rfl (fun c_7 => ?_) (fun c_7 => ?_)) | (with_reducible refine chk1 ?_; refine tt_ifeqN (t := 17) (q := 10) hc (by omega) dX0_flipAt_7 rfl rfl (fun c_7 => ?_) (fun c_7 => ?_)) | refine tt_ifeq (t := 17) (q := 10) hc dX0_flipAt_7 rfl rfl (fun c_7 => ?_) (fun c_7 => ?_)
  · refine tt_retv hX rfl dX0_flipAt_17 ?_
    first
    | (rw [flp, if_pos c_7] at hQ; exact hQ _ frm.rf hR)
    | (rw [flp, if_neg (by omega)] at hQ; exact hQ _ hf hR')
  · refine tt_al0 (q := 11) hc dX0_flipAt_10 rfl ?_
    refine tt_il1 (q := 12) hc dX0_flipAt_11 rfl ?_
    refine tt_il2 (q := 13) hc dX0_flipAt_12 rfl ?_
    first | (with_reducible refine chk2 ?_; refine tt_iorN (q := 14) hc dX0_flipAt_13 rfl ?_) | refine tt_ior (q := 14) hc dX0_flipAt_13 rfl ?_
    refine tt_cV1 (q := 17) (d' := 1) (ci := 0) hc (by decide) kmX0_toggleAround ml_X0_41 (by first | assumption | exact ⟨by decide, _, rfl⟩) rfl (Nat.le_of_ble_eq_true rfl) dX0_flipAt_14 rfl ?_
    refine c_X0_toggleAround hj hR (or_lt ha hl) (prt_pop hR.1 ha (by omega)).2.2.2.2.2 (fun ν hf hR' => ?_)
    dsimp only [Option.toList, List.nil_append, List.cons_append]
    refine tt_retv hX rfl dX0_flipAt_17 ?_
    first
    | (rw [flp, if_pos c_7] at hQ; exact hQ _ frm.rf hR)
    | (rw [flp, if_neg (by omega)] at hQ; exact hQ _ hf hR')
/-- the first place of n from s on where P holds; 0: none -/
def fs1 (P : Nat → Bool) : Nat → Nat → Nat
  | 0, _ => 0
  | n + 1, s => if P s = true then s else fs1 P n (s + 1)
theorem fs1_lt (P : Nat → Bool) : ∀ n s m, s + n ≤ m → 0 < m → fs1 P n s < m
  | 0, _, _, _, h => h
  | n + 1, s, m, h1, h2 => by
    rw [fs1]
    split
    · omega
    · exact fs1_lt P n (s + 1) m (by omega) h2
def ffP (K : Nat) (B : Nat → Bool) (s : Nat) : Bool := decide (pop s < cW B s) && decide (¬ prt K B s = 0)
def ff (K : Nat) (B : Nat → Bool) : Nat := fs1 (ffP K B) 255 1
set_option maxHeartbeats 4000000 in
theorem c_X0_firstFewer {l : Launch} {j K : Nat} (hj : j < 16) {B : Nat → Bool} {μ : Mem} {Q : Option Value → Mem → Prop} (hR : RC μ j K B) (hQ : Q (some (.int (nI (ff K B)))) μ) : CC l 3 mX0_firstFewer [.ref (40 + 2 * j)] μ Q := by
  refine CC.of (M := mX0_firstFewer) (by decide +kernel) rfl (fun v h => by simp at h; subst h; rfl) (Nat.le_of_ble_eq_true rfl) (fun X hX => ?_)
  have hc := hX.cx
  have ho : HO (40 + 2 * j) 0 := ⟨by omega, _, sh_ho hj⟩
  have hw : HR (40 + 2 * j) 0 1 (40 + 2 * j + 1) := ⟨by omega, _, sh_ho hj, rfl⟩
  have hA : HA (40 + 2 * j + 1) 0 256 := ⟨by omega, sh_hw hj, by decide⟩
  have L : ∀ (n s : Nat), s + n = 256 → Q (some (.int (nI (fs1 (ffP K B) n s)))) μ → TT X 2 [.ref (40 + 2 * j), .int (nI s)] [] μ := by
    intro n
    induction n with
    | zero =>
      intro s hs h
      refine tt_il1 (q := 3) hc dX0_firstFewer_2 rfl ?_
      refine tt_sipush (v := nI 256) (q := 6) hc (by decide) dX0_firstFewer_3 rfl ?_
      first | (with_reducible refine chk2 ?_; refine tt_icgeN (t := 38) (q := 9) hc (by omega) (by omega) dX0_firstFewer_6 rfl rfl (fun c_6 => ?_) (fun c_6 => ?_)) | refine tt_icge (t := 38) (q := 9) hc dX0_firstFewer_6 rfl rfl (fun c_6 => ?_) (fun c_6 => ?_)
      · refine tt_iconst (v := nI 0) (q := 39) hc rfl dX0_firstFewer_38 rfl ?_
        refine tt_reti hX rfl dX0_firstFewer_39 ?_
        exact h
      · omega
    | succ n ih =>
      intro s hs h
      have h3 := cW_le B s
      have h4 := pop_le s (by omega)
      have hl := prt_lt K B s
      rw [fs1, ffP] at h
      refine tt_il1 (q := 3) hc dX0_firstFewer_2 rfl ?_
      refine tt_sipush (v := nI 256) (q := 6) hc (by decide) dX0_firstFewer_3 rfl ?_
      first | (with_reducible refine chk2 ?_; refine tt_icgeN (t := 38) (q := 9) hc (by omega) (by omega) dX0_firstFewer_6 rfl rfl (fun c_6 => ?_) (fun c_6 => ?_)) | refine tt_icge (t := 38) (q := 9) hc dX0_firstFewer_6 rfl rfl (fun c_6 => ?_) (fun c_6 => ?_)
      · omega
      · refine tt_al0 (q := 10) hc dX0_firstFewer_9 rfl ?_
        refine tt_getR (q := 13) hc fl_X0_15 (by first | assumption | exact ⟨by decide, _, rfl, rfl⟩) dX0_firstFewer_10 rfl ?_
        refine tt_il1 (q := 14) hc dX0_firstFewer_13 rfl ?_
        refine tt_iald (q := 15) hc (by first | assumption | exact ⟨by decide, rfl, by decide⟩) (by omega) dX0_firstFewer_14 rfl ?_
        rw [hR.2.2 _ (by omega)]
        refine tt_il1 (q := 16) hc dX0_firstFewer_15 rfl ?_
        refine tt_cS1 (q := 19) (d' := 0) hc (by decide) kmJ6_bitCount_0f7a4 ml_X0_25 (Nat.le_of_ble_eq_true rfl) dX0_firstFewer_16 rfl ?_
        refine c_J6_bitCount_0f7a4 ?_
        dsimp only [Option.toList, List.nil_append, List.cons_append]
        first | (with_reducible refine chk2 ?_; refine tt_icleN (t := 32) (q := 22) hc (by omega) (by omega) dX0_firstFewer_19 rfl rfl (fun c_19 => ?_) (fun c_19 => ?_)) | refine tt_icle (t := 32) (q := 22) hc dX0_firstFewer_19 rfl rfl (fun c_19 => ?_) (fun c_19 => ?_)
        · first | refine tt_inc1 (q := 35) hc dX0_firstFewer_32 rfl (by decide) (incN _) ?_ | refine tt_inc1 (q := 35) hc dX0_firstFewer_32 rfl (by decide) rfl ?_
          refine tt_goto (t := 2) hc dX0_firstFewer_35 rfl ?_
          first
          | (refine ih _ (by omega) ?_; rw [decide_eq_false (p := ¬ prt K B s = 0) (by omega), Bool.and_false, if_neg Bool.false_ne_true] at h; exact h)
          | (refine ih _ (by omega) ?_; rw [decide_eq_false (p := pop s < cW B s) (by omega), Bool.false_and, if_neg Bool.false_ne_true] at h; exact h)
        · refine tt_al0 (q := 23) hc dX0_firstFewer_22 rfl ?_
          refine tt_il1 (q := 24) hc dX0_firstFewer_23 rfl ?_
          refine tt_cV1 (q := 27) (d' := 2) (ci := 0) hc (by decide) kmX0_partner ml_X0_64 (by first | assumption | exact ⟨by decide, _, rfl⟩) rfl (Nat.le_of_ble_eq_true rfl) dX0_firstFewer_24 rfl ?_
          refine c_X0_partner hj hR ?_
          dsimp only [Option.toList, List.nil_append, List.cons_append]
          first | (with_reducible refine chkb ?_; refine tt_ifeqB (t := 32) (q := 30) hc dX0_firstFewer_27 rfl rfl (fun c_27 => ?_) (fun c_27 => ?_)) | (with_reducible refine chk1 ?_; refine tt_ifeqN (t := 32) (q := 30) hc (by omega) dX0_firstFewer_27 rfl rfl (fun c_27 => ?_) (fun c_27 => ?_)) | refine tt_ifeq (t := 32) (q := 30) hc dX0_firstFewer_27 rfl rfl (fun c_27 => ?_) (fun c_27 => ?_)
          · first | refine tt_inc1 (q := 35) hc dX0_firstFewer_32 rfl (by decide) (incN _) ?_ | refine tt_inc1 (q := 35) hc dX0_firstFewer_32 rfl (by decide) rfl ?_
            refine tt_goto (t := 2) hc dX0_firstFewer_35 rfl ?_
            first
            | (refine ih _ (by omega) ?_; rw [decide_eq_false (p := ¬ prt K B s = 0) (by omega), Bool.and_false, if_neg Bool.false_ne_true] at h; exact h)
            | (refine ih _ (by omega) ?_; rw [decide_eq_false (p := pop s < cW B s) (by omega), Bool.false_and, if_neg Bool.false_ne_true] at h; exact h)
          · refine tt_il1 (q := 31) hc dX0_firstFewer_30 rfl ?_
            refine tt_reti hX rfl dX0_firstFewer_31 ?_
            rw [decide_eq_true (p := pop s < cW B s) (by omega), decide_eq_true (p := ¬ prt K B s = 0) (by omega), Bool.and_self, if_pos rfl] at h
            exact h
  refine tt_iconst (v := nI 1) (q := 1) hc rfl dX0_firstFewer_0 rfl ?_
  refine tt_is1 (q := 2) hc dX0_firstFewer_1 rfl (by decide) ?_
  exact L 255 1 rfl hQ
/-- the heaps before the latest steps, the latest first -/
def PR (μ : Mem) (K : Nat) (hs : List (Nat → Bool)) : Prop := hs.length ≤ 8 ∧ μ 2 2 = nI hs.length ∧ ∃ nx, nx < 8 ∧ μ 2 1 = nI nx ∧ ∀ i B, hs[i]? = some B → RC μ (4 + (nx + 7 - i) % 8) K B
def pastL : List Nat := 2 :: List.range' 48 16
theorem pastL_in {i : Nat} (h1 : 48 ≤ i) (h2 : i < 64) : i ∈ pastL := List.mem_cons_of_mem _ (List.mem_range'_1.mpr ⟨h1, by omega⟩)
theorem PR.frm {μ μ' : Mem} {l : List Nat} {K : Nat} {hs : List (Nat → Bool)} (h : PR μ K hs) (hf : frm l μ μ') (hl : ∀ i ∈ l, i ∉ pastL) : PR μ' K hs := by
  obtain ⟨h1, h2, nx, h3, h4, h5⟩ := h
  have e2 : μ' 2 = μ 2 := hf 2 (fun z => hl 2 z List.mem_cons_self)
  refine ⟨h1, by rw [e2]; exact h2, nx, h3, by rw [e2]; exact h4, fun i B hB => ?_⟩
  have hm := Nat.mod_lt (nx + 7 - i) (show 8 > 0 by decide)
  exact (h5 i B hB).frm hf (fun z => hl _ z (pastL_in (by omega) (by omega))) (fun z => hl _ z (pastL_in (by omega) (by omega)))
theorem min8 {a b : Nat} (hb : b < 2 ^ 31) (ha : a < 2 ^ 31) : (if nI b < nI a then nI b else nI a) = nI (min a b) := by
  by_cases h : b < a
  · rw [if_pos (nI_lt h ha), Nat.min_eq_right (by omega)]
  · rw [if_neg (nI_nlt (by omega) hb), Nat.min_eq_left (by omega)]
set_option maxHeartbeats 4000000 in
theorem c_X2_note {l : Launch} {K : Nat} {B : Nat → Bool} {hs : List (Nat → Bool)} {μ : Mem} {Q : Option Value → Mem → Prop} (hR : RC μ 0 K B) (hP : PR μ K hs) (hQ : ∀ μ', frm pastL μ μ' → PR μ' K ((B :: hs).take 8) → Q none μ') : CC l 2 mX2_note [.ref 2, .ref 40] μ Q := by
  refine CC.of (M := mX2_note) (by decide +kernel) rfl (fun v h => by simp at h; rcases h with rfl | rfl <;> rfl) (Nat.le_of_ble_eq_true rfl) (fun X hX => ?_)
  have hc := hX.cx
  obtain ⟨h1, h2, nx, h3, h4, h5⟩ := hP
  have hq3 : HQ 3 3 8 (fun j => 48 + 2 * j) := ⟨by decide, rfl, by decide⟩
  have e48 : 48 + 2 * nx = 40 + 2 * (4 + nx) := by omega
  have ho2 : HO (40 + 2 * (4 + nx)) 0 := ⟨by omega, _, sh_ho (by omega)⟩
  have st2 : ∀ (ν : Mem) (i : Nat), frm [40 + 2 * (4 + nx), 40 + 2 * (4 + nx) + 1] ν μ → True := fun _ _ _ => trivial
  refine tt_al0 (q := 1) hc dX2_note_0 rfl ?_
  refine tt_getR (q := 4) hc fl_X2_11 (by first | assumption | exact ⟨by decide, _, rfl, rfl⟩) dX2_note_1 rfl ?_
  refine tt_al0 (q := 5) hc dX2_note_4 rfl ?_
  refine tt_getI (q := 8) hc fl_X2_18 (by first | assumption | exact ⟨by decide, _, rfl, _, rfl⟩) dX2_note_5 rfl ?_
  rw [h4]
  refine tt_aald (q := 9) hc (r := _) (by first | assumption | exact ⟨by decide, rfl, by decide⟩) (by decide) (by omega) dX2_note_8 rfl ?_
  dsimp only; rw [e48]
  refine tt_al1 (q := 10) hc dX2_note_9 rfl ?_
  refine tt_cV1 (q := 13) (d' := 1) (ci := 0) hc (by decide) kmX0_copyOf ml_X2_22 (by first | assumption | exact ⟨by decide, _, rfl⟩) rfl (Nat.le_of_ble_eq_true rfl) dX2_note_10 rfl ?_
  refine c_X0_copyOf (j := 4 + nx) (j2 := 0) (by omega) (by decide) (by omega) hR (fun ν hf hE => ?_)
  have k2 : ν 2 = μ 2 := hf 2 (by simp; omega)
  dsimp only [Option.toList, List.nil_append, List.cons_append]
  refine tt_al0 (q := 14) hc dX2_note_13 rfl ?_
  refine tt_al0 (q := 15) hc dX2_note_14 rfl ?_
  refine tt_getI (q := 18) hc fl_X2_18 (by first | assumption | exact ⟨by decide, _, rfl, _, rfl⟩) dX2_note_15 rfl ?_
  rw [k2, h4]
  refine tt_iconst (v := nI 1) (q := 19) hc rfl dX2_note_18 rfl ?_
  first | (with_reducible refine chk2 ?_; refine tt_iaddN (q := 20) hc dX2_note_19 rfl ?_) | refine tt_iadd (q := 20) hc dX2_note_19 rfl ?_
  refine tt_bipush (v := nI 8) (q := 22) hc (by decide) dX2_note_20 rfl ?_
  first | (with_reducible refine chk2 ?_; refine tt_iremN (q := 23) hc (by omega) (by omega) (by omega) dX2_note_22 rfl ?_) | refine tt_irem (q := 23) hc (by decide) dX2_note_22 rfl ?_
  refine tt_putI (q := 26) hc fp_X2_18 (by first | assumption | exact ⟨by decide, _, rfl, _, rfl⟩) dX2_note_23 rfl ?_
  refine tt_al0 (q := 27) hc dX2_note_26 rfl ?_
  refine tt_al0 (q := 28) hc dX2_note_27 rfl ?_
  refine tt_getI (q := 31) hc fl_X2_26 (by first | assumption | exact ⟨by decide, _, rfl, _, rfl⟩) dX2_note_28 rfl ?_
  rw [mset_eq, pk_un (by decide), k2, h2]
  refine tt_iconst (v := nI 1) (q := 32) hc rfl dX2_note_31 rfl ?_
  first | (with_reducible refine chk2 ?_; refine tt_iaddN (q := 33) hc dX2_note_32 rfl ?_) | refine tt_iadd (q := 33) hc dX2_note_32 rfl ?_
  refine tt_bipush (v := nI 8) (q := 35) hc (by decide) dX2_note_33 rfl ?_
  refine tt_min (q := 38) hc (by decide) mi_X2_29 (Nat.le_of_ble_eq_true rfl) dX2_note_35 rfl ?_
  rw [min8 (by decide) (by omega)]
  refine tt_putI (q := 41) hc fp_X2_26 (by first | assumption | exact ⟨by decide, _, rfl, _, rfl⟩) dX2_note_38 rfl ?_
  refine tt_retv hX rfl dX2_note_41 ?_
  refine hQ _ (fun i hi => ?_) ⟨by simp; omega, ?_, (nx + 1) % 8, Nat.mod_lt _ (by decide), ?_, fun i B' hB' => ?_⟩
  · rw [mset_ne (fun e => hi (by rw [e]; exact List.mem_cons_self)), mset_ne (fun e => hi (by rw [e]; exact List.mem_cons_self))]
    refine hf i (fun z => hi (pastL_in ?_ ?_))
    · simp at z; omega
    · simp at z; omega
  · rw [mset_eq, pk_us, List.length_take, List.length_cons, Nat.min_comm]
  · rw [mset_eq, pk_un (by decide), mset_eq, pk_us]
  · have hi : i < 8 := by
      have := (List.getElem?_eq_some_iff.mp hB').1
      simp at this
      omega
    rw [List.getElem?_take_of_lt hi] at hB'
    have key : RC ν (4 + ((nx + 1) % 8 + 7 - i) % 8) K B' := by
      cases i with
      | zero =>
        simp only [List.getElem?_cons_zero, Option.some.injEq] at hB'
        subst hB'
        have e : ((nx + 1) % 8 + 7 - 0) % 8 = nx := by omega
        rw [e]
        exact hE
      | succ i =>
        simp only [List.getElem?_cons_succ] at hB'
        have e : ((nx + 1) % 8 + 7 - (i + 1)) % 8 = (nx + 7 - i) % 8 := by omega
        rw [e]
        have hne : (nx + 7 - i) % 8 ≠ nx := by omega
        exact (h5 i B' hB').frm hf (by simp; omega) (by simp; omega)
    have hm := Nat.mod_lt ((nx + 1) % 8 + 7 - i) (show 8 > 0 by decide)
    exact key.frm (frm.tr (frm.set (i := 2)) frm.set) (by simp; omega) (by simp; omega)
set_option maxHeartbeats 4000000 in
theorem c_X2_restore {l : Launch} {K : Nat} {B : Nat → Bool} {hs : List (Nat → Bool)} {μ : Mem} {Q : Option Value → Mem → Prop} (hP : PR μ K (B :: hs)) (hQ : ∀ μ', frm [2, 40, 41] μ μ' → PR μ' K hs → RC μ' 0 K B → Q none μ') : CC l 2 mX2_restore [.ref 2, .ref 40] μ Q := by
  refine CC.of (M := mX2_restore) (by decide +kernel) rfl (fun v h => by simp at h; rcases h with rfl | rfl <;> rfl) (Nat.le_of_ble_eq_true rfl) (fun X hX => ?_)
  have hc := hX.cx
  obtain ⟨h1, h2, nx, h3, h4, h5⟩ := hP
  have hq3 : HQ 3 3 8 (fun j => 48 + 2 * j) := ⟨by decide, rfl, by decide⟩
  rw [List.length_cons] at h1 h2
  have hm := Nat.mod_lt (nx + 7) (show 8 > 0 by decide)
  have ho0 : HO (40 + 2 * 0) 0 := ⟨by omega, _, rfl⟩
  have e48 : 48 + 2 * ((nx + 7) % 8) = 40 + 2 * (4 + (nx + 7) % 8) := by omega
  have hE := h5 0 B rfl
  refine tt_al0 (q := 1) hc dX2_restore_0 rfl ?_
  refine tt_getI (q := 4) hc fl_X2_26 (by first | assumption | exact ⟨by decide, _, rfl, _, rfl⟩) dX2_restore_1 rfl ?_
  rw [h2]
  first | (with_reducible refine chk1 ?_; refine tt_ifleN (t := 46) (q := 7) hc (by omega) dX2_restore_4 rfl rfl (fun c_4 => ?_) (fun c_4 => ?_)) | refine tt_ifle (t := 46) (q := 7) hc dX2_restore_4 rfl rfl (fun c_4 => ?_) (fun c_4 => ?_)
  · omega
  · refine tt_al0 (q := 8) hc dX2_restore_7 rfl ?_
    refine tt_al0 (q := 9) hc dX2_restore_8 rfl ?_
    refine tt_getI (q := 12) hc fl_X2_18 (by first | assumption | exact ⟨by decide, _, rfl, _, rfl⟩) dX2_restore_9 rfl ?_
    rw [h4]
    refine tt_bipush (v := nI 8) (q := 14) hc (by decide) dX2_restore_12 rfl ?_
    first | (with_reducible refine chk2 ?_; refine tt_iaddN (q := 15) hc dX2_restore_14 rfl ?_) | refine tt_iadd (q := 15) hc dX2_restore_14 rfl ?_
    refine tt_iconst (v := nI 1) (q := 16) hc rfl dX2_restore_15 rfl ?_
    first | (with_reducible refine chk2 ?_; refine tt_isubN (q := 17) hc (by omega) dX2_restore_16 rfl ?_) | refine tt_isub (q := 17) hc dX2_restore_16 rfl ?_
    refine tt_bipush (v := nI 8) (q := 19) hc (by decide) dX2_restore_17 rfl ?_
    first | (with_reducible refine chk2 ?_; refine tt_iremN (q := 20) hc (by omega) (by omega) (by omega) dX2_restore_19 rfl ?_) | refine tt_irem (q := 20) hc (by decide) dX2_restore_19 rfl ?_
    rw [show (nx + 8 - 1) % 8 = (nx + 7) % 8 by omega]
    refine tt_putI (q := 23) hc fp_X2_18 (by first | assumption | exact ⟨by decide, _, rfl, _, rfl⟩) dX2_restore_20 rfl ?_
    refine tt_al0 (q := 24) hc dX2_restore_23 rfl ?_
    refine tt_dup (q := 25) hc rfl dX2_restore_24 rfl ?_
    refine tt_getI (q := 28) hc fl_X2_26 (by first | assumption | exact ⟨by decide, _, rfl, _, rfl⟩) dX2_restore_25 rfl ?_
    rw [mset_eq, pk_un (by decide), h2]
    refine tt_iconst (v := nI 1) (q := 29) hc rfl dX2_restore_28 rfl ?_
    first | (with_reducible refine chk2 ?_; refine tt_isubN (q := 30) hc (by omega) dX2_restore_29 rfl ?_) | refine tt_isub (q := 30) hc dX2_restore_29 rfl ?_
    rw [show hs.length + 1 - 1 = hs.length by omega]
    refine tt_putI (q := 33) hc fp_X2_26 (by first | assumption | exact ⟨by decide, _, rfl, _, rfl⟩) dX2_restore_30 rfl ?_
    refine tt_al1 (q := 34) hc dX2_restore_33 rfl ?_
    refine tt_al0 (q := 35) hc dX2_restore_34 rfl ?_
    refine tt_getR (q := 38) hc fl_X2_11 (by first | assumption | exact ⟨by decide, _, rfl, rfl⟩) dX2_restore_35 rfl ?_
    refine tt_al0 (q := 39) hc dX2_restore_38 rfl ?_
    refine tt_getI (q := 42) hc fl_X2_18 (by first | assumption | exact ⟨by decide, _, rfl, _, rfl⟩) dX2_restore_39 rfl ?_
    rw [mset_eq, pk_un (by decide), mset_eq, pk_us]
    refine tt_aald (q := 43) hc (r := _) (by first | assumption | exact ⟨by decide, rfl, by decide⟩) (by decide) (by omega) dX2_restore_42 rfl ?_
    dsimp only; rw [e48]
    refine tt_cV1 (q := 46) (d' := 1) (ci := 0) hc (by decide) kmX0_copyOf ml_X2_22 (by first | assumption | exact ⟨by decide, _, rfl⟩) rfl (Nat.le_of_ble_eq_true rfl) dX2_restore_43 rfl ?_
    refine c_X0_copyOf (j := 0) (j2 := 4 + (nx + 7) % 8) (by omega) (by omega) (by omega) (hE.frm (frm.tr (frm.set (i := 2)) frm.set) (by simp; omega) (by simp; omega)) (fun ν hf hE' => ?_)
    dsimp only [Option.toList, List.nil_append, List.cons_append]
    refine tt_retv hX rfl dX2_restore_46 ?_
    refine hQ _ (fun i hi => ?_) ⟨by omega, ?_, (nx + 7) % 8, hm, ?_, fun i B' hB' => ?_⟩ hE'
    · simp at hi
      rw [hf i (by simp; omega), mset_ne hi.1, mset_ne hi.1]
    · rw [hf 2 (by decide), mset_eq, pk_us]
    · rw [hf 2 (by decide), mset_eq, pk_un (by decide), pk_us]
    · have hi := (List.getElem?_eq_some_iff.mp hB').1
      have e := h5 (i + 1) B' (by rw [List.getElem?_cons_succ]; exact hB')
      have e2 : ((nx + 7) % 8 + 7 - i) % 8 = (nx + 7 - (i + 1)) % 8 := by omega
      rw [e2]
      have hm2 := Nat.mod_lt (nx + 7 - (i + 1)) (show 8 > 0 by decide)
      exact (e.frm (frm.tr (frm.set (i := 2)) frm.set) (by simp; omega) (by simp; omega)).frm hf (by simp; omega) (by simp; omega)
theorem c_X2_forget {l : Launch} {K : Nat} {hs : List (Nat → Bool)} {μ : Mem} {Q : Option Value → Mem → Prop} (hP : PR μ K hs) (hQ : ∀ μ', frm [2] μ μ' → (∀ K', PR μ' K' []) → Q none μ') : CC l 0 mX2_forget [.ref 2] μ Q := by
  refine CC.of (M := mX2_forget) (by decide +kernel) rfl (fun v h => by simp at h; subst h; rfl) (Nat.le_of_ble_eq_true rfl) (fun X hX => ?_)
  have hc := hX.cx
  obtain ⟨h1, h2, nx, h3, h4, h5⟩ := hP
  refine tt_al0 (q := 1) hc dX2_forget_0 rfl ?_
  refine tt_iconst (v := nI 0) (q := 2) hc rfl dX2_forget_1 rfl ?_
  refine tt_putI (q := 5) hc fp_X2_26 (by first | assumption | exact ⟨by decide, _, rfl, _, rfl⟩) dX2_forget_2 rfl ?_
  refine tt_retv hX rfl dX2_forget_5 ?_
  exact hQ _ frm.set (fun K' => ⟨by simp, by rw [mset_eq, pk_us]; rfl, nx, h3, by rw [mset_eq, pk_un (by decide)]; exact h4, fun i B h => by simp at h⟩)
