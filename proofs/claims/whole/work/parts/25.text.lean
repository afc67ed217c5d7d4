/-! TEXT of the class -/
/-- THE TEXT in the class: signs below 128 -/
def XR (μ : Mem) (tx : List Nat) : Prop := tx.length ≤ 120 ∧ μ 18 1 = nI tx.length ∧ (∀ i b, tx[i]? = some b → μ 19 i = nI b) ∧ ∀ b ∈ tx, b < 128
theorem XR.frm {μ μ' : Mem} {tx : List Nat} {l : List Nat} (h : XR μ tx) (hf : frm l μ μ') (h1 : 18 ∉ l) (h2 : 19 ∉ l) : XR μ' tx := by
  have e1 := hf 18 h1
  have e2 := hf 19 h2
  exact ⟨h.1, by rw [e1]; exact h.2.1, by rw [e2]; exact h.2.2.1, h.2.2.2⟩
theorem HA19 : HA 19 2 120 := ⟨by decide, rfl, by decide⟩
theorem XR.at {μ : Mem} {tx : List Nat} (h : XR μ tx) {i : Nat} (hi : i < tx.length) : μ 19 i = nI (tx.getD i 0) ∧ tx.getD i 0 < 128 := ⟨h.2.2.1 i _ (getD_some hi), h.2.2.2 _ (List.mem_of_getElem? (getD_some hi))⟩
theorem byt : ∀ n, n < 128 → (nI n).toInt8.toInt32 = nI n := by decide +kernel
set_option maxHeartbeats 4000000 in
theorem c_X6_add {l : Launch} {b : Nat} {tx : List Nat} {μ : Mem} {Q : Option Value → Mem → Prop} (hb : b < 128) (hX6 : XR μ tx) (hQ1 : 120 ≤ tx.length → Q (some (.int (bI false))) μ) (hQ : tx.length < 120 → ∀ μ', frm [18, 19] μ μ' → XR μ' (tx ++ [b]) → μ' 18 5 = μ 18 5 → Q (some (.int (bI true))) μ') : CC l 0 mX6_add [.ref 18, .int (nI b)] μ Q := by
  refine CC.of (M := mX6_add) (by decide +kernel) rfl (fun v h => by simp at h; rcases h with rfl | rfl <;> rfl) (Nat.le_of_ble_eq_true rfl) (fun X hX => ?_)
  have hc := hX.cx
  obtain ⟨h1, h2, h3, h4⟩ := hX6
  have a19 := HA19
  have hbb := byt b hb
  refine tt_al0 (q := 1) hc dX6_add_0 rfl ?_
  refine tt_getI (q := 4) hc fl_X6_25 (by first | assumption | exact ⟨by decide, _, rfl, _, rfl⟩) dX6_add_1 rfl ?_
  rw [h2]
  refine tt_bipush (v := nI 120) (q := 6) hc (by decide) dX6_add_4 rfl ?_
  first | (with_reducible refine chk2 ?_; refine tt_icltN (t := 11) (q := 9) hc (by omega) (by omega) dX6_add_6 rfl rfl (fun c_6 => ?_) (fun c_6 => ?_)) | refine tt_iclt (t := 11) (q := 9) hc dX6_add_6 rfl rfl (fun c_6 => ?_) (fun c_6 => ?_)
  · refine tt_al0 (q := 12) hc dX6_add_11 rfl ?_
    refine tt_getR (q := 15) hc fl_X6_9 (by first | assumption | exact ⟨by decide, _, rfl, rfl⟩) dX6_add_12 rfl ?_
    refine tt_al0 (q := 16) hc dX6_add_15 rfl ?_
    refine tt_getI (q := 19) hc fl_X6_25 (by first | assumption | exact ⟨by decide, _, rfl, _, rfl⟩) dX6_add_16 rfl ?_
    rw [h2]
    refine tt_il1 (q := 20) hc dX6_add_19 rfl ?_
    refine tt_i2b (q := 21) hc hbb dX6_add_20 rfl ?_
    refine tt_bast (q := 22) hc (by first | assumption | exact ⟨by decide, rfl, by decide⟩) (by omega) (by assumption) dX6_add_21 rfl ?_
    refine tt_al0 (q := 23) hc dX6_add_22 rfl ?_
    refine tt_dup (q := 24) hc rfl dX6_add_23 rfl ?_
    refine tt_getI (q := 27) hc fl_X6_25 (by first | assumption | exact ⟨by decide, _, rfl, _, rfl⟩) dX6_add_24 rfl ?_
    rw [mset_ne (by decide), h2]
    refine tt_iconst (v := nI 1) (q := 28) hc rfl dX6_add_27 rfl ?_
    first | (with_reducible refine chk2 ?_; refine tt_iaddN (q := 29) hc dX6_add_28 rfl ?_) | refine tt_iadd (q := 29) hc dX6_add_28 rfl ?_
    refine tt_putI (q := 32) hc fp_X6_25 (by first | assumption | exact ⟨by decide, _, rfl, _, rfl⟩) dX6_add_29 rfl ?_
    refine tt_iconst (v := nI 1) (q := 33) hc rfl dX6_add_32 rfl ?_
    refine tt_retz hX rfl (by first | decide | exact bI_01 _) dX6_add_33 ?_
    refine hQ c_6 _ (((frm.set (i := 19)).mono (by simp)).tr ((frm.set (i := 18)).mono (by simp))) ⟨by simp; omega, ?_, fun i x hx => ?_, fun x hx => ?_⟩ ?_
    · rw [mset_eq, pk_us, List.length_append]
      rfl
    · rw [mset_ne (by decide), mset_eq]
      by_cases e : i < tx.length
      · rw [List.getElem?_append_left e] at hx
        rw [pk_un (by omega)]
        exact h3 i x hx
      · have hl := (List.getElem?_eq_some_iff.mp hx).1
        rw [List.length_append, List.length_cons, List.length_nil] at hl
        have e2 : i = tx.length := by omega
        subst e2
        rw [List.getElem?_append_right (Nat.le_refl _), Nat.sub_self] at hx
        simp only [List.getElem?_cons_zero, Option.some.injEq] at hx
        rw [pk_us, hx]
    · rcases List.mem_append.mp hx with z | z
      · exact h4 x z
      · rw [List.mem_singleton.mp z]
        exact hb
    · rw [mset_eq, pk_un (by decide), mset_ne (by decide)]
  · refine tt_iconst (v := nI 0) (q := 10) hc rfl dX6_add_9 rfl ?_
    refine tt_retz hX rfl (by first | decide | exact bI_01 _) dX6_add_10 ?_
    exact hQ1 c_6
/-- the first place, n at most from i on, whose sign is not from a to b -/
def bhN (tx : List Nat) (a b : Nat) : Nat → Nat → Nat
  | 0, i => i
  | n + 1, i => if tx.getD i 0 < a ∨ b < tx.getD i 0 then i else bhN tx a b n (i + 1)
theorem bhN_le (tx : List Nat) (a b : Nat) : ∀ n i, i ≤ bhN tx a b n i ∧ bhN tx a b n i ≤ i + n
  | 0, i => ⟨Nat.le_refl _, Nat.le_refl _⟩
  | n + 1, i => by
    have := bhN_le tx a b n (i + 1)
    rw [bhN]
    split <;> omega
def bh (tx : List Nat) (a b p : Nat) : Nat := bhN tx a b (tx.length - p) p
set_option maxHeartbeats 4000000 in
theorem c_X6_behind {l : Launch} {a b p : Nat} {tx : List Nat} {μ : Mem} {Q : Option Value → Mem → Prop} (hX6 : XR μ tx) (ha : a < 128) (hb : b < 128) (hp : p ≤ tx.length) (hQ : Q (some (.int (nI (bh tx a b p)))) μ) : CC l 0 mX6_behind [.ref 18, .int (nI p), .int (nI a), .int (nI b)] μ Q := by
  refine CC.of (M := mX6_behind) (by decide +kernel) rfl (fun v h => by simp at h; rcases h with rfl | rfl | rfl | rfl <;> rfl) (Nat.le_of_ble_eq_true rfl) (fun X hX => ?_)
  have hc := hX.cx
  have h1 := hX6.1
  have h2 := hX6.2.1
  have a19 := HA19
  have L : ∀ (n i : Nat), i + n = tx.length → Q (some (.int (nI (bhN tx a b n i)))) μ → TT X 3 [.ref 18, .int (nI p), .int (nI a), .int (nI b), .int (nI i)] [] μ := by
    intro n
    induction n with
    | zero =>
      intro i hi h
      refine tt_il4 (q := 5) hc dX6_behind_3 rfl ?_
      refine tt_al0 (q := 6) hc dX6_behind_5 rfl ?_
      refine tt_getI (q := 9) hc fl_X6_25 (by first | assumption | exact ⟨by decide, _, rfl, _, rfl⟩) dX6_behind_6 rfl ?_
      rw [h2]
      first | (with_reducible refine chk2 ?_; refine tt_icgeN (t := 43) (q := 12) hc (by omega) (by omega) dX6_behind_9 rfl rfl (fun c_9 => ?_) (fun c_9 => ?_)) | refine tt_icge (t := 43) (q := 12) hc dX6_behind_9 rfl rfl (fun c_9 => ?_) (fun c_9 => ?_)
      · refine tt_al0 (q := 44) hc dX6_behind_43 rfl ?_
        refine tt_getI (q := 47) hc fl_X6_25 (by first | assumption | exact ⟨by decide, _, rfl, _, rfl⟩) dX6_behind_44 rfl ?_
        refine tt_reti hX rfl dX6_behind_47 ?_
        rw [h2, ← hi]
        exact h
      · omega
    | succ n ih =>
      intro i hi h
      have hx := hX6.at (i := i) (by omega)
      rw [bhN] at h
      refine tt_il4 (q := 5) hc dX6_behind_3 rfl ?_
      refine tt_al0 (q := 6) hc dX6_behind_5 rfl ?_
      refine tt_getI (q := 9) hc fl_X6_25 (by first | assumption | exact ⟨by decide, _, rfl, _, rfl⟩) dX6_behind_6 rfl ?_
      rw [h2]
      first | (with_reducible refine chk2 ?_; refine tt_icgeN (t := 43) (q := 12) hc (by omega) (by omega) dX6_behind_9 rfl rfl (fun c_9 => ?_) (fun c_9 => ?_)) | refine tt_icge (t := 43) (q := 12) hc dX6_behind_9 rfl rfl (fun c_9 => ?_) (fun c_9 => ?_)
      · omega
      · refine tt_al0 (q := 13) hc dX6_behind_12 rfl ?_
        refine tt_getR (q := 16) hc fl_X6_9 (by first | assumption | exact ⟨by decide, _, rfl, rfl⟩) dX6_behind_13 rfl ?_
        refine tt_il4 (q := 18) hc dX6_behind_16 rfl ?_
        refine tt_bald (q := 19) hc (by first | assumption | exact ⟨by decide, rfl, by decide⟩) (by omega) dX6_behind_18 rfl ?_
        rw [hx.1]
        refine tt_il2 (q := 20) hc dX6_behind_19 rfl ?_
        first | (with_reducible refine chk2 ?_; refine tt_icltN (t := 34) (q := 23) hc (by omega) (by omega) dX6_behind_20 rfl rfl (fun c_20 => ?_) (fun c_20 => ?_)) | refine tt_iclt (t := 34) (q := 23) hc dX6_behind_20 rfl rfl (fun c_20 => ?_) (fun c_20 => ?_)
        · refine tt_il4 (q := 36) hc dX6_behind_34 rfl ?_
          refine tt_reti hX rfl dX6_behind_36 ?_
          rw [if_pos (by omega)] at h
          exact h
        · refine tt_al0 (q := 24) hc dX6_behind_23 rfl ?_
          refine tt_getR (q := 27) hc fl_X6_9 (by first | assumption | exact ⟨by decide, _, rfl, rfl⟩) dX6_behind_24 rfl ?_
          refine tt_il4 (q := 29) hc dX6_behind_27 rfl ?_
          refine tt_bald (q := 30) hc (by first | assumption | exact ⟨by decide, rfl, by decide⟩) (by omega) dX6_behind_29 rfl ?_
          rw [hx.1]
          refine tt_il3 (q := 31) hc dX6_behind_30 rfl ?_
          first | (with_reducible refine chk2 ?_; refine tt_icleN (t := 37) (q := 34) hc (by omega) (by omega) dX6_behind_31 rfl rfl (fun c_31 => ?_) (fun c_31 => ?_)) | refine tt_icle (t := 37) (q := 34) hc dX6_behind_31 rfl rfl (fun c_31 => ?_) (fun c_31 => ?_)
          · first | refine tt_inc4 (q := 40) hc dX6_behind_37 rfl (by decide) (incN _) ?_ | refine tt_inc4 (q := 40) hc dX6_behind_37 rfl (by decide) rfl ?_
            refine tt_goto (t := 3) hc dX6_behind_40 rfl ?_
            rw [if_neg (by omega)] at h
            exact ih (i + 1) (by omega) h
          · refine tt_il4 (q := 36) hc dX6_behind_34 rfl ?_
            refine tt_reti hX rfl dX6_behind_36 ?_
            rw [if_pos (by omega)] at h
            exact h
  refine tt_il1 (q := 1) hc dX6_behind_0 rfl ?_
  refine tt_is4 (q := 3) hc dX6_behind_1 rfl (by decide) ?_
  exact L _ p (by omega) hQ
/-- whether word w stands there, its first n letters from place i on -/
def eqN (tx : List Nat) (w f : Nat) : Nat → Nat → Bool
  | 0, _ => true
  | n + 1, i => decide (nI (tx.getD (f + i) 0) = (litB.getD w []).getD i 0) && eqN tx w f n (i + 1)
def stB (tx : List Nat) (w f t : Nat) : Bool := decide (litL.getD w 0 = t - f) && eqN tx w f (litL.getD w 0) 0
set_option maxHeartbeats 4000000 in
theorem c_X6_stands {l : Launch} {w f t : Nat} {tx : List Nat} {μ : Mem} {Q : Option Value → Mem → Prop} (hX6 : XR μ tx) (hw : w < 12) (hft : f ≤ t) (ht : t ≤ tx.length) (hQ : Q (some (.int (bI (stB tx w f t)))) μ) : CC l 4 mX6_stands [.ref 18, .ref (112 + 2 * w), .int (nI f), .int (nI t)] μ Q := by
  refine CC.of (M := mX6_stands) (by decide +kernel) rfl (fun v h => by simp at h; rcases h with rfl | rfl | rfl | rfl <;> rfl) (Nat.le_of_ble_eq_true rfl) (fun X hX => ?_)
  have hc := hX.cx
  have h1 := hX6.1
  have a19 := HA19
  have hl := (lit_len w hw).1
  rw [stB] at hQ
  have L : ∀ (n i : Nat), i + n = litL.getD w 0 → litL.getD w 0 = t - f → Q (some (.int (bI (eqN tx w f n i)))) μ → TT X 15 [.ref 18, .ref (112 + 2 * w), .int (nI f), .int (nI t), .int (nI i)] [] μ := by
    intro n
    induction n with
    | zero =>
      intro i hi hlt h
      refine tt_il4 (q := 17) hc dX6_stands_15 rfl ?_
      refine tt_al1 (q := 18) hc dX6_stands_17 rfl ?_
      refine tt_cT0 (q := 21) (d' := 1) hc (by decide) kmJ0_length_8abf5 rfl ml_X6_54 hw (Nat.le_of_ble_eq_true rfl) dX6_stands_18 rfl ?_
      refine c_J0_length_8abf5 hw ?_
      dsimp only [Option.toList, List.nil_append, List.cons_append]
      first | (with_reducible refine chk2 ?_; refine tt_icgeN (t := 50) (q := 24) hc (by omega) (by omega) dX6_stands_21 rfl rfl (fun c_21 => ?_) (fun c_21 => ?_)) | refine tt_icge (t := 50) (q := 24) hc dX6_stands_21 rfl rfl (fun c_21 => ?_) (fun c_21 => ?_)
      · refine tt_iconst (v := nI 1) (q := 51) hc rfl dX6_stands_50 rfl ?_
        refine tt_retz hX rfl (by first | decide | exact bI_01 _) dX6_stands_51 ?_
        exact h
      · omega
    | succ n ih =>
      intro i hi hlt h
      have hx := hX6.at (i := f + i) (by omega)
      rw [eqN] at h
      refine tt_il4 (q := 17) hc dX6_stands_15 rfl ?_
      refine tt_al1 (q := 18) hc dX6_stands_17 rfl ?_
      refine tt_cT0 (q := 21) (d' := 1) hc (by decide) kmJ0_length_8abf5 rfl ml_X6_54 hw (Nat.le_of_ble_eq_true rfl) dX6_stands_18 rfl ?_
      refine c_J0_length_8abf5 hw ?_
      dsimp only [Option.toList, List.nil_append, List.cons_append]
      first | (with_reducible refine chk2 ?_; refine tt_icgeN (t := 50) (q := 24) hc (by omega) (by omega) dX6_stands_21 rfl rfl (fun c_21 => ?_) (fun c_21 => ?_)) | refine tt_icge (t := 50) (q := 24) hc dX6_stands_21 rfl rfl (fun c_21 => ?_) (fun c_21 => ?_)
      · omega
      · refine tt_al0 (q := 25) hc dX6_stands_24 rfl ?_
        refine tt_getR (q := 28) hc fl_X6_9 (by first | assumption | exact ⟨by decide, _, rfl, rfl⟩) dX6_stands_25 rfl ?_
        refine tt_il2 (q := 29) hc dX6_stands_28 rfl ?_
        refine tt_il4 (q := 31) hc dX6_stands_29 rfl ?_
        first | (with_reducible refine chk2 ?_; refine tt_iaddN (q := 32) hc dX6_stands_31 rfl ?_) | refine tt_iadd (q := 32) hc dX6_stands_31 rfl ?_
        refine tt_bald (q := 33) hc (by first | assumption | exact ⟨by decide, rfl, by decide⟩) (by omega) dX6_stands_32 rfl ?_
        rw [hx.1]
        refine tt_al1 (q := 34) hc dX6_stands_33 rfl ?_
        refine tt_il4 (q := 36) hc dX6_stands_34 rfl ?_
        refine tt_cT1 (q := 39) (d' := 3) hc (by decide) kmJ0_charAt_5068e rfl ml_X6_60 hw (Nat.le_of_ble_eq_true rfl) dX6_stands_36 rfl ?_
        refine c_J0_charAt_5068e hw (by omega) ?_
        dsimp only [Option.toList, List.nil_append, List.cons_append]
        refine tt_iceq (q := 42) (t := 44) hc dX6_stands_39 rfl rfl (fun c_39 => ?_) (fun c_39 => ?_)
        · rw [decide_eq_true c_39, Bool.true_and] at h
          refine tt_inc4 (q := 47) hc dX6_stands_44 rfl (by decide) (incN _) ?_
          refine tt_goto (t := 15) hc dX6_stands_47 rfl ?_
          exact ih (i + 1) (by omega) hlt h
        · rw [decide_eq_false c_39, Bool.false_and] at h
          refine tt_iconst (q := 43) (v := nI 0) hc rfl dX6_stands_42 rfl ?_
          exact tt_retz hX rfl (by decide) dX6_stands_43 h
  refine tt_al1 (q := 1) hc dX6_stands_0 rfl ?_
  refine tt_cT0 (q := 4) (d' := 1) hc (by decide) kmJ0_length_8abf5 rfl ml_X6_54 hw (Nat.le_of_ble_eq_true rfl) dX6_stands_1 rfl ?_
  refine c_J0_length_8abf5 hw ?_
  dsimp only [Option.toList, List.nil_append, List.cons_append]
  refine tt_il3 (q := 5) hc dX6_stands_4 rfl ?_
  refine tt_il2 (q := 6) hc dX6_stands_5 rfl ?_
  first | (with_reducible refine chk2 ?_; refine tt_isubN (q := 7) hc (by omega) dX6_stands_6 rfl ?_) | refine tt_isub (q := 7) hc dX6_stands_6 rfl ?_
  first | (with_reducible refine chk2 ?_; refine tt_iceqN (t := 12) (q := 10) hc (by omega) (by omega) dX6_stands_7 rfl rfl (fun c_7 => ?_) (fun c_7 => ?_)) | refine tt_iceq (t := 12) (q := 10) hc dX6_stands_7 rfl rfl (fun c_7 => ?_) (fun c_7 => ?_)
  · refine tt_iconst (v := nI 0) (q := 13) hc rfl dX6_stands_12 rfl ?_
    refine tt_is4 (q := 15) hc dX6_stands_13 rfl (by decide) ?_
    rw [decide_eq_true c_7, Bool.true_and] at hQ
    exact L _ 0 (by omega) c_7 hQ
  · refine tt_iconst (v := nI 0) (q := 11) hc rfl dX6_stands_10 rfl ?_
    refine tt_retz hX rfl (by first | decide | exact bI_01 _) dX6_stands_11 ?_
    rw [decide_eq_false c_7, Bool.false_and] at hQ
    exact hQ
theorem litR_6 : ("FaceFlips$Text", 64, 0) ∈ litR ∧ ("FaceFlips$Text", 66, 1) ∈ litR ∧ ("FaceFlips$Text", 68, 2) ∈ litR ∧ ("FaceFlips$Text", 70, 3) ∈ litR ∧ ("FaceFlips$Text", 72, 4) ∈ litR ∧ ("FaceFlips$Text", 74, 5) ∈ litR := by decide
set_option maxHeartbeats 4000000 in
theorem c_X6_wordOf {l : Launch} {w : Nat} {μ : Mem} {Q : Option Value → Mem → Prop} (hw : w < 12) (hQ : Q (some (.ref (112 + 2 * w))) μ) : CC l 0 mX6_wordOf [.int (nI w)] μ Q := by
  refine CC.of (M := mX6_wordOf) (by decide +kernel) rfl (fun v h => by simp at h; subst h; rfl) (Nat.le_of_ble_eq_true rfl) (fun X hX => ?_)
  have hc := hX.cx
  refine tt_il0 (q := 1) hc dX6_wordOf_0 rfl ?_
  rcases (show w = 0 ∨ w = 1 ∨ w = 2 ∨ w = 3 ∨ w = 4 ∨ w = 5 ∨ w = 6 ∨ w = 7 ∨ w = 8 ∨ w = 9 ∨ w = 10 ∨ w = 11 by omega) with rfl | rfl | rfl | rfl | rfl | rfl | rfl | rfl | rfl | rfl | rfl | rfl
  · refine tt_tswI (t := 60) hc dX6_wordOf_1 (by decide) (by decide) rfl rfl ?_
    refine tt_ldcS (q := 62) (w := 0) hc (List.mem_of_getElem? (i := 0) rfl) dX6_wordOf_60 rfl ?_
    exact tt_reta hX rfl (Or.inr ⟨_, rfl⟩) dX6_wordOf_62 hQ
  · refine tt_tswI (t := 63) hc dX6_wordOf_1 (by decide) (by decide) rfl rfl ?_
    refine tt_ldcS (q := 65) (w := 1) hc (List.mem_of_getElem? (i := 1) rfl) dX6_wordOf_63 rfl ?_
    exact tt_reta hX rfl (Or.inr ⟨_, rfl⟩) dX6_wordOf_65 hQ
  · refine tt_tswI (t := 66) hc dX6_wordOf_1 (by decide) (by decide) rfl rfl ?_
    refine tt_ldcS (q := 68) (w := 2) hc (List.mem_of_getElem? (i := 2) rfl) dX6_wordOf_66 rfl ?_
    exact tt_reta hX rfl (Or.inr ⟨_, rfl⟩) dX6_wordOf_68 hQ
  · refine tt_tswI (t := 69) hc dX6_wordOf_1 (by decide) (by decide) rfl rfl ?_
    refine tt_ldcS (q := 71) (w := 3) hc (List.mem_of_getElem? (i := 3) rfl) dX6_wordOf_69 rfl ?_
    exact tt_reta hX rfl (Or.inr ⟨_, rfl⟩) dX6_wordOf_71 hQ
  · refine tt_tswI (t := 72) hc dX6_wordOf_1 (by decide) (by decide) rfl rfl ?_
    refine tt_ldcS (q := 74) (w := 4) hc (List.mem_of_getElem? (i := 4) rfl) dX6_wordOf_72 rfl ?_
    exact tt_reta hX rfl (Or.inr ⟨_, rfl⟩) dX6_wordOf_74 hQ
  · refine tt_tswI (t := 75) hc dX6_wordOf_1 (by decide) (by decide) rfl rfl ?_
    refine tt_ldcS (q := 77) (w := 5) hc (List.mem_of_getElem? (i := 5) rfl) dX6_wordOf_75 rfl ?_
    exact tt_reta hX rfl (Or.inr ⟨_, rfl⟩) dX6_wordOf_77 hQ
  · refine tt_tswI (t := 78) hc dX6_wordOf_1 (by decide) (by decide) rfl rfl ?_
    refine tt_ldcS (q := 80) (w := 6) hc (List.mem_of_getElem? (i := 6) rfl) dX6_wordOf_78 rfl ?_
    exact tt_reta hX rfl (Or.inr ⟨_, rfl⟩) dX6_wordOf_80 hQ
  · refine tt_tswI (t := 81) hc dX6_wordOf_1 (by decide) (by decide) rfl rfl ?_
    refine tt_ldcS (q := 83) (w := 7) hc (List.mem_of_getElem? (i := 7) rfl) dX6_wordOf_81 rfl ?_
    exact tt_reta hX rfl (Or.inr ⟨_, rfl⟩) dX6_wordOf_83 hQ
  · refine tt_tswI (t := 84) hc dX6_wordOf_1 (by decide) (by decide) rfl rfl ?_
    refine tt_ldcS (q := 86) (w := 8) hc (List.mem_of_getElem? (i := 8) rfl) dX6_wordOf_84 rfl ?_
    exact tt_reta hX rfl (Or.inr ⟨_, rfl⟩) dX6_wordOf_86 hQ
  · refine tt_tswI (t := 87) hc dX6_wordOf_1 (by decide) (by decide) rfl rfl ?_
    refine tt_ldcS (q := 89) (w := 9) hc (List.mem_of_getElem? (i := 9) rfl) dX6_wordOf_87 rfl ?_
    exact tt_reta hX rfl (Or.inr ⟨_, rfl⟩) dX6_wordOf_89 hQ
  · refine tt_tswI (t := 90) hc dX6_wordOf_1 (by decide) (by decide) rfl rfl ?_
    refine tt_ldcS (q := 92) (w := 10) hc (List.mem_of_getElem? (i := 10) rfl) dX6_wordOf_90 rfl ?_
    exact tt_reta hX rfl (Or.inr ⟨_, rfl⟩) dX6_wordOf_92 hQ
  · refine tt_tswO (t := 93) hc dX6_wordOf_1 (by decide) rfl ?_
    refine tt_ldcS (q := 95) (w := 11) hc (List.mem_of_getElem? (i := 11) rfl) dX6_wordOf_93 rfl ?_
    exact tt_reta hX rfl (Or.inr ⟨_, rfl⟩) dX6_wordOf_95 hQ
/-- the word that stands there -/
def woN (tx : List Nat) (f t : Nat) : Nat → Nat → Option Nat
  | 0, _ => none
  | n + 1, w => if stB tx w f t = true then some w else woN tx f t n (w + 1)
def wo (tx : List Nat) (f t : Nat) : Option Nat := woN tx f t 12 0
def m1I : Option Nat → Int32
  | some w => nI w
  | none => -1
set_option maxHeartbeats 4000000 in
theorem c_X6_wordAt {l : Launch} {f t : Nat} {tx : List Nat} {μ : Mem} {Q : Option Value → Mem → Prop} (hX6 : XR μ tx) (hft : f ≤ t) (ht : t ≤ tx.length) (hQ : Q (some (.int (m1I (wo tx f t)))) μ) : CC l 5 mX6_wordAt [.ref 18, .int (nI f), .int (nI t)] μ Q := by
  refine CC.of (M := mX6_wordAt) (by decide +kernel) rfl (fun v h => by simp at h; rcases h with rfl | rfl | rfl <;> rfl) (Nat.le_of_ble_eq_true rfl) (fun X hX => ?_)
  have hc := hX.cx
  have L : ∀ (n w : Nat), w + n = 12 → Q (some (.int (m1I (woN tx f t n w)))) μ → TT X 2 [.ref 18, .int (nI f), .int (nI t), .int (nI w)] [] μ := by
    intro n
    induction n with
    | zero =>
      intro w hw h
      refine tt_il3 (q := 3) hc dX6_wordAt_2 rfl ?_
      refine tt_bipush (v := nI 12) (q := 5) hc (by decide) dX6_wordAt_3 rfl ?_
      first | (with_reducible refine chk2 ?_; refine tt_icgeN (t := 29) (q := 8) hc (by omega) (by omega) dX6_wordAt_5 rfl rfl (fun c_5 => ?_) (fun c_5 => ?_)) | refine tt_icge (t := 29) (q := 8) hc dX6_wordAt_5 rfl rfl (fun c_5 => ?_) (fun c_5 => ?_)
      · refine tt_iconst (v := -1) (q := 30) hc rfl dX6_wordAt_29 rfl ?_
        refine tt_reti hX rfl dX6_wordAt_30 ?_
        exact h
      · omega
    | succ n ih =>
      intro w hw h
      rw [woN] at h
      refine tt_il3 (q := 3) hc dX6_wordAt_2 rfl ?_
      refine tt_bipush (v := nI 12) (q := 5) hc (by decide) dX6_wordAt_3 rfl ?_
      first | (with_reducible refine chk2 ?_; refine tt_icgeN (t := 29) (q := 8) hc (by omega) (by omega) dX6_wordAt_5 rfl rfl (fun c_5 => ?_) (fun c_5 => ?_)) | refine tt_icge (t := 29) (q := 8) hc dX6_wordAt_5 rfl rfl (fun c_5 => ?_) (fun c_5 => ?_)
      · omega
      · refine tt_al0 (q := 9) hc dX6_wordAt_8 rfl ?_
        refine tt_il3 (q := 10) hc dX6_wordAt_9 rfl ?_
        refine tt_cS1 (q := 13) (d' := 0) hc (by first | decide | omega) kmX6_wordOf ml_X6_46 (Nat.le_of_ble_eq_true rfl) dX6_wordAt_10 rfl ?_
        refine c_X6_wordOf (by omega) ?_
        dsimp only [Option.toList, List.nil_append, List.cons_append]
        refine tt_il1 (q := 14) hc dX6_wordAt_13 rfl ?_
        refine tt_il2 (q := 15) hc dX6_wordAt_14 rfl ?_
        refine tt_cV3 (q := 18) (d' := 4) (ci := 6) hc (by first | decide | omega) kmX6_stands ml_X6_50 (by first | assumption | exact ⟨by decide, _, rfl⟩) rfl (Nat.le_of_ble_eq_true rfl) dX6_wordAt_15 rfl ?_
        refine c_X6_stands hX6 (by omega) hft ht ?_
        dsimp only [Option.toList, List.nil_append, List.cons_append]
        first | (with_reducible refine chkb ?_; refine tt_ifeqB (t := 23) (q := 21) hc dX6_wordAt_18 rfl rfl (fun c_18 => ?_) (fun c_18 => ?_)) | (with_reducible refine chk1 ?_; refine tt_ifeqN (t := 23) (q := 21) hc (by omega) dX6_wordAt_18 rfl rfl (fun c_18 => ?_) (fun c_18 => ?_)) | refine tt_ifeq (t := 23) (q := 21) hc dX6_wordAt_18 rfl rfl (fun c_18 => ?_) (fun c_18 => ?_)
        · first | refine tt_inc3 (q := 26) hc dX6_wordAt_23 rfl (by decide) (incN _) ?_ | refine tt_inc3 (q := 26) hc dX6_wordAt_23 rfl (by decide) rfl ?_
          refine tt_goto (t := 2) hc dX6_wordAt_26 rfl ?_
          rw [c_18, if_neg Bool.false_ne_true] at h
          exact ih (w + 1) (by omega) h
        · refine tt_il3 (q := 22) hc dX6_wordAt_21 rfl ?_
          refine tt_reti hX rfl dX6_wordAt_22 ?_
          rw [c_18, if_pos rfl] at h
          exact h
  refine tt_iconst (v := nI 0) (q := 1) hc rfl dX6_wordAt_0 rfl ?_
  refine tt_is3 (q := 2) hc dX6_wordAt_1 rfl (by decide) ?_
  exact L 12 0 rfl hQ
