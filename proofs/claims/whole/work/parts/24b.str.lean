/-! THE JDK'S METHODS OVER LITERALS -/
theorem lit_len : ∀ w, w < 12 → litL.getD w 0 < 8 ∧ ∀ i, i < litL.getD w 0 → (((litB.getD w []).getD i 0 &&& nI 255).toUInt32 % 65536).toInt32 = (litB.getD w []).getD i 0 ∧ narrow .char (.int ((litB.getD w []).getD i 0)) = .int ((litB.getD w []).getD i 0) := by decide +kernel
theorem c_J0_coder_7d493 {l : Launch} {w : Nat} {μ : Mem} {Q : Option Value → Mem → Prop} (hw : w < 12) (hQ : Q (some (.int 0)) μ) : CC l 0 mJ0_coder_7d493 [.ref (112 + 2 * w)] μ Q := by
  refine CC.of (M := mJ0_coder_7d493) (by decide +kernel) rfl (fun v h => by simp at h; subst h; rfl) (Nat.le_of_ble_eq_true rfl) (fun X hX => ?_)
  have hc := hX.cx
  refine tt_comp (q := 3) hc rfl dJ0_coder_7d493_0 rfl ?_
  first | (with_reducible refine chkb ?_; refine tt_ifeqB (t := 13) (q := 6) hc dJ0_coder_7d493_3 rfl rfl (fun c_3 => ?_) (fun c_3 => ?_)) | (with_reducible refine chk1 ?_; refine tt_ifeqN (t := 13) (q := 6) hc (by omega) dJ0_coder_7d493_3 rfl rfl (fun c_3 => ?_) (fun c_3 => ?_)) | refine tt_ifeq (t := 13) (q := 6) hc dJ0_coder_7d493_3 rfl rfl (fun c_3 => ?_) (fun c_3 => ?_)
  · exact absurd c_3 (by decide)
  · refine tt_al0 (q := 7) hc dJ0_coder_7d493_6 rfl ?_
    refine tt_scod (q := 10) hc hw rfl dJ0_coder_7d493_7 rfl ?_
    refine tt_goto (t := 14) hc dJ0_coder_7d493_10 rfl ?_
    refine tt_retx hX rfl (by first | rfl | assumption) dJ0_coder_7d493_14 ?_
    exact hQ
theorem c_J0_length_8abf5 {l : Launch} {w : Nat} {μ : Mem} {Q : Option Value → Mem → Prop} (hw : w < 12) (hQ : Q (some (.int (nI (litL.getD w 0)))) μ) : CC l 1 mJ0_length_8abf5 [.ref (112 + 2 * w)] μ Q := by
  refine CC.of (M := mJ0_length_8abf5) (by decide +kernel) rfl (fun v h => by simp at h; subst h; rfl) (Nat.le_of_ble_eq_true rfl) (fun X hX => ?_)
  have hc := hX.cx
  have hl := (lit_len w hw).1
  refine tt_al0 (q := 1) hc dJ0_length_8abf5_0 rfl ?_
  refine tt_sval (q := 4) hc hw rfl dJ0_length_8abf5_1 rfl ?_
  refine tt_slen (q := 5) hc hw dJ0_length_8abf5_4 rfl ?_
  refine tt_al0 (q := 6) hc dJ0_length_8abf5_5 rfl ?_
  refine tt_cT0 (q := 9) (d' := 0) hc (by decide) kmJ0_coder_7d493 rfl ml_J0_335 hw (Nat.le_of_ble_eq_true rfl) dJ0_length_8abf5_6 rfl ?_
  refine c_J0_coder_7d493 hw ?_
  dsimp only [Option.toList, List.nil_append, List.cons_append]
  refine tt_ishrN (q := 10) (b := 0) hc (by omega) (by decide) dJ0_length_8abf5_9 rfl ?_
  rw [Nat.pow_zero, Nat.div_one]
  refine tt_reti hX rfl dJ0_length_8abf5_10 ?_
  exact hQ
theorem c_J0_isLatin1_aae02 {l : Launch} {w : Nat} {μ : Mem} {Q : Option Value → Mem → Prop} (hw : w < 12) (hQ : Q (some (.int (bI true))) μ) : CC l 0 mJ0_isLatin1_aae02 [.ref (112 + 2 * w)] μ Q := by
  refine CC.of (M := mJ0_isLatin1_aae02) (by decide +kernel) rfl (fun v h => by simp at h; subst h; rfl) (Nat.le_of_ble_eq_true rfl) (fun X hX => ?_)
  have hc := hX.cx
  refine tt_comp (q := 3) hc rfl dJ0_isLatin1_aae02_0 rfl ?_
  first | (with_reducible refine chkb ?_; refine tt_ifeqB (t := 17) (q := 6) hc dJ0_isLatin1_aae02_3 rfl rfl (fun c_3 => ?_) (fun c_3 => ?_)) | (with_reducible refine chk1 ?_; refine tt_ifeqN (t := 17) (q := 6) hc (by omega) dJ0_isLatin1_aae02_3 rfl rfl (fun c_3 => ?_) (fun c_3 => ?_)) | refine tt_ifeq (t := 17) (q := 6) hc dJ0_isLatin1_aae02_3 rfl rfl (fun c_3 => ?_) (fun c_3 => ?_)
  · exact absurd c_3 (by decide)
  · refine tt_al0 (q := 7) hc dJ0_isLatin1_aae02_6 rfl ?_
    refine tt_scod (q := 10) hc hw rfl dJ0_isLatin1_aae02_7 rfl ?_
    first | (with_reducible refine chkb ?_; refine tt_ifneB (t := 17) (q := 13) hc dJ0_isLatin1_aae02_10 rfl rfl (fun c_10 => ?_) (fun c_10 => ?_)) | (with_reducible refine chk1 ?_; refine tt_ifneN (t := 17) (q := 13) hc (by omega) dJ0_isLatin1_aae02_10 rfl rfl (fun c_10 => ?_) (fun c_10 => ?_)) | refine tt_ifne (t := 17) (q := 13) hc dJ0_isLatin1_aae02_10 rfl rfl (fun c_10 => ?_) (fun c_10 => ?_)
    · exact absurd rfl c_10
    · refine tt_iconst (v := nI 1) (q := 14) hc rfl dJ0_isLatin1_aae02_13 rfl ?_
      refine tt_goto (t := 18) hc dJ0_isLatin1_aae02_14 rfl ?_
      refine tt_retz hX rfl (by first | decide | exact bI_01 _) dJ0_isLatin1_aae02_18 ?_
      exact hQ
theorem c_J3_checkIndex_8e157 {l : Launch} {i n : Nat} {v : Value} {μ : Mem} {Q : Option Value → Mem → Prop} (hv : okv v = true) (hi : i < n) (hn : n < 2 ^ 31) (hQ : Q (some (.int (nI i))) μ) : CC l 0 mJ3_checkIndex_8e157 [.int (nI i), .int (nI n), v] μ Q := by
  refine CC.of (M := mJ3_checkIndex_8e157) (by decide +kernel) rfl (fun u h => by simp at h; rcases h with rfl | rfl | rfl <;> first | rfl | exact hv) (Nat.le_of_ble_eq_true rfl) (fun X hX => ?_)
  have hc := hX.cx
  refine tt_il0 (q := 1) hc dJ3_checkIndex_8e157_0 rfl ?_
  refine tt_ifltN (t := 9) (q := 4) hc (by omega) dJ3_checkIndex_8e157_1 rfl rfl ?_
  refine tt_il0 (q := 5) hc dJ3_checkIndex_8e157_4 rfl ?_
  refine tt_il1 (q := 6) hc dJ3_checkIndex_8e157_5 rfl ?_
  first | (with_reducible refine chk2 ?_; refine tt_icltN (t := 16) (q := 9) hc (by omega) (by omega) dJ3_checkIndex_8e157_6 rfl rfl (fun c_6 => ?_) (fun c_6 => ?_)) | refine tt_iclt (t := 16) (q := 9) hc dJ3_checkIndex_8e157_6 rfl rfl (fun c_6 => ?_) (fun c_6 => ?_)
  · refine tt_il0 (q := 17) hc dJ3_checkIndex_8e157_16 rfl ?_
    refine tt_reti hX rfl dJ3_checkIndex_8e157_17 ?_
    exact hQ
  · omega
theorem c_J0_checkIndex_df160 {l : Launch} {i n : Nat} {μ : Mem} {Q : Option Value → Mem → Prop} (hi : i < n) (hn : n < 2 ^ 31) (hQ : Q none μ) : CC l 1 mJ0_checkIndex_df160 [.int (nI i), .int (nI n)] μ Q := by
  refine CC.of (M := mJ0_checkIndex_df160) (by decide +kernel) rfl (fun u h => by simp at h; rcases h with rfl | rfl <;> rfl) (Nat.le_of_ble_eq_true rfl) (fun X hX => ?_)
  have hc := hX.cx
  refine tt_il0 (q := 1) hc dJ0_checkIndex_df160_0 rfl ?_
  refine tt_il1 (q := 2) hc dJ0_checkIndex_df160_1 rfl ?_
  refine tt_sioo (q := 5) hc rfl dJ0_checkIndex_df160_2 rfl (fun v hv => ?_)
  have hok : okv v = true := by rcases hv with rfl | rfl <;> rfl
  refine tt_cS3 (q := 8) (d' := 0) hc (by first | decide | omega) kmJ3_checkIndex_8e157 ml_J0_1059 (Nat.le_of_ble_eq_true rfl) dJ0_checkIndex_df160_5 rfl ?_
  refine c_J3_checkIndex_8e157 hok hi hn ?_
  dsimp only [Option.toList, List.nil_append, List.cons_append]
  refine tt_pop (q := 9) hc rfl dJ0_checkIndex_df160_8 rfl ?_
  refine tt_retv hX rfl dJ0_checkIndex_df160_9 ?_
  exact hQ
theorem c_J1_charAt_3b067 {l : Launch} {w i : Nat} {μ : Mem} {Q : Option Value → Mem → Prop} (hw : w < 12) (hi : i < litL.getD w 0) (hQ : Q (some (.int ((litB.getD w []).getD i 0))) μ) : CC l 2 mJ1_charAt_3b067 [.ref (113 + 2 * w), .int (nI i)] μ Q := by
  refine CC.of (M := mJ1_charAt_3b067) (by decide +kernel) rfl (fun u h => by simp at h; rcases h with rfl | rfl <;> rfl) (Nat.le_of_ble_eq_true rfl) (fun X hX => ?_)
  have hc := hX.cx
  have hl := lit_len w hw
  have h2 := hl.2 i hi
  refine tt_il1 (q := 1) hc dJ1_charAt_3b067_0 rfl ?_
  refine tt_al0 (q := 2) hc dJ1_charAt_3b067_1 rfl ?_
  refine tt_slen (q := 3) hc hw dJ1_charAt_3b067_2 rfl ?_
  refine tt_cS2 (q := 6) (d' := 1) hc (by first | decide | omega) kmJ0_checkIndex_df160 ml_J1_9 (Nat.le_of_ble_eq_true rfl) dJ1_charAt_3b067_3 rfl ?_
  refine c_J0_checkIndex_df160 hi (by omega) ?_
  dsimp only [Option.toList, List.nil_append, List.cons_append]
  refine tt_al0 (q := 7) hc dJ1_charAt_3b067_6 rfl ?_
  refine tt_il1 (q := 8) hc dJ1_charAt_3b067_7 rfl ?_
  refine tt_sbyt (q := 9) hc hw hi (by omega) dJ1_charAt_3b067_8 rfl ?_
  refine tt_sipush (v := nI 255) (q := 12) hc (by decide) dJ1_charAt_3b067_9 rfl ?_
  first | (with_reducible refine chk2 ?_; refine tt_iandN (q := 13) hc dJ1_charAt_3b067_12 rfl ?_) | (with_reducible refine chkan ?_; refine tt_iandnN (q := 13) hc dJ1_charAt_3b067_12 rfl ?_) | (with_reducible refine chkna ?_; refine tt_inandN (q := 13) hc dJ1_charAt_3b067_12 rfl ?_) | refine tt_iand (q := 13) hc dJ1_charAt_3b067_12 rfl ?_
  refine tt_i2c (q := 14) hc h2.1 dJ1_charAt_3b067_13 rfl ?_
  refine tt_retx hX rfl h2.2 dJ1_charAt_3b067_14 hQ
theorem c_J0_charAt_5068e {l : Launch} {w i : Nat} {μ : Mem} {Q : Option Value → Mem → Prop} (hw : w < 12) (hi : i < litL.getD w 0) (hQ : Q (some (.int ((litB.getD w []).getD i 0))) μ) : CC l 3 mJ0_charAt_5068e [.ref (112 + 2 * w), .int (nI i)] μ Q := by
  refine CC.of (M := mJ0_charAt_5068e) (by decide +kernel) rfl (fun u h => by simp at h; rcases h with rfl | rfl <;> rfl) (Nat.le_of_ble_eq_true rfl) (fun X hX => ?_)
  have hc := hX.cx
  have h2 := (lit_len w hw).2 i hi
  refine tt_al0 (q := 1) hc dJ0_charAt_5068e_0 rfl ?_
  refine tt_cT0 (q := 4) (d' := 0) hc (by decide) kmJ0_isLatin1_aae02 rfl ml_J0_492 hw (Nat.le_of_ble_eq_true rfl) dJ0_charAt_5068e_1 rfl ?_
  refine c_J0_isLatin1_aae02 hw ?_
  dsimp only [Option.toList, List.nil_append, List.cons_append]
  first | (with_reducible refine chkb ?_; refine tt_ifeqB (t := 16) (q := 7) hc dJ0_charAt_5068e_4 rfl rfl (fun c_4 => ?_) (fun c_4 => ?_)) | (with_reducible refine chk1 ?_; refine tt_ifeqN (t := 16) (q := 7) hc (by omega) dJ0_charAt_5068e_4 rfl rfl (fun c_4 => ?_) (fun c_4 => ?_)) | refine tt_ifeq (t := 16) (q := 7) hc dJ0_charAt_5068e_4 rfl rfl (fun c_4 => ?_) (fun c_4 => ?_)
  · cases c_4
  · refine tt_al0 (q := 8) hc dJ0_charAt_5068e_7 rfl ?_
    refine tt_sval (q := 11) hc hw rfl dJ0_charAt_5068e_8 rfl ?_
    refine tt_il1 (q := 12) hc dJ0_charAt_5068e_11 rfl ?_
    refine tt_cS2 (q := 15) (d' := 2) hc (by first | decide | omega) kmJ1_charAt_3b067 ml_J0_495 (Nat.le_of_ble_eq_true rfl) dJ0_charAt_5068e_12 rfl ?_
    refine c_J1_charAt_3b067 hw hi ?_
    dsimp only [Option.toList, List.nil_append, List.cons_append]
    refine tt_retx hX rfl h2.2 dJ0_charAt_5068e_15 hQ
