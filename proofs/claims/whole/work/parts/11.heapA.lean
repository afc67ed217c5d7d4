/-! CONTRACTS: small helpers; Heap's toggles -/
theorem ne_toInt {x : Int32} {k : Nat} (h : ¬ x = nI k) (hk : k < 2 ^ 31) : x.toInt ≠ (k : Int) := fun e => h (Int32.toInt_inj.mp (by rw [nI_toInt hk]; exact e))
/-- an Int32 between two bounds -/
def inB (v a b : Int32) : Bool := decide (a ≤ v) && decide (v ≤ b)
set_option maxRecDepth 100000 in
theorem bitc : ∀ n, n < 1024 → (let x0 := nI n
    let x1 := x0 - ((x0.toUInt32 >>> ((nI 1).toUInt32 &&& Int32.toUInt32 31)).toInt32 &&& 1431655765)
    let x2 := (x1 &&& 858993459) + ((x1.toUInt32 >>> ((nI 2).toUInt32 &&& Int32.toUInt32 31)).toInt32 &&& 858993459)
    let x3 := (x2 + (x2.toUInt32 >>> ((nI 4).toUInt32 &&& Int32.toUInt32 31)).toInt32) &&& 252645135
    let x4 := x3 + (x3.toUInt32 >>> ((nI 8).toUInt32 &&& Int32.toUInt32 31)).toInt32
    let x5 := x4 + (x4.toUInt32 >>> ((nI 16).toUInt32 &&& Int32.toUInt32 31)).toInt32
    x5 &&& nI 63) = nI (pop n) := by decide +kernel
theorem c_J6_bitCount_0f7a4 {l : Launch} {n : Nat} {μ : Mem} {Q : Option Value → Mem → Prop} (hQ : Q (some (.int (nI (pop n)))) μ) (hn : n < 1024 := by omega) : CC l 0 mJ6_bitCount_0f7a4 [.int (nI n)] μ Q := by
  refine CC.of (M := mJ6_bitCount_0f7a4) (by decide +kernel) rfl (fun v h => by simp at h; subst h; rfl) (Nat.le_of_ble_eq_true rfl) (fun X hX => ?_)
  have hc := hX.cx
  refine tt_il0 (q := 1) hc dJ6_bitCount_0f7a4_0 rfl ?_
  refine tt_il0 (q := 2) hc dJ6_bitCount_0f7a4_1 rfl ?_
  refine tt_iconst (v := nI 1) (q := 3) hc rfl dJ6_bitCount_0f7a4_2 rfl ?_
  refine tt_iushr (q := 4) hc rfl dJ6_bitCount_0f7a4_3 rfl ?_
  refine tt_ldcw (q := 7) hc kc_J6_265 dJ6_bitCount_0f7a4_4 rfl ?_
  first | (with_reducible refine chk2 ?_; refine tt_iandN (q := 8) hc dJ6_bitCount_0f7a4_7 rfl ?_) | (with_reducible refine chkan ?_; refine tt_iandnN (q := 8) hc dJ6_bitCount_0f7a4_7 rfl ?_) | (with_reducible refine chkna ?_; refine tt_inandN (q := 8) hc dJ6_bitCount_0f7a4_7 rfl ?_) | refine tt_iand (q := 8) hc dJ6_bitCount_0f7a4_7 rfl ?_
  first | (with_reducible refine chk2 ?_; refine tt_isubN (q := 9) hc (by omega) dJ6_bitCount_0f7a4_8 rfl ?_) | refine tt_isub (q := 9) hc dJ6_bitCount_0f7a4_8 rfl ?_
  refine tt_is0 (q := 10) hc dJ6_bitCount_0f7a4_9 rfl (by decide) ?_
  refine tt_il0 (q := 11) hc dJ6_bitCount_0f7a4_10 rfl ?_
  refine tt_ldcw (q := 14) hc kc_J6_266 dJ6_bitCount_0f7a4_11 rfl ?_
  first | (with_reducible refine chk2 ?_; refine tt_iandN (q := 15) hc dJ6_bitCount_0f7a4_14 rfl ?_) | (with_reducible refine chkan ?_; refine tt_iandnN (q := 15) hc dJ6_bitCount_0f7a4_14 rfl ?_) | (with_reducible refine chkna ?_; refine tt_inandN (q := 15) hc dJ6_bitCount_0f7a4_14 rfl ?_) | refine tt_iand (q := 15) hc dJ6_bitCount_0f7a4_14 rfl ?_
  refine tt_il0 (q := 16) hc dJ6_bitCount_0f7a4_15 rfl ?_
  refine tt_iconst (v := nI 2) (q := 17) hc rfl dJ6_bitCount_0f7a4_16 rfl ?_
  refine tt_iushr (q := 18) hc rfl dJ6_bitCount_0f7a4_17 rfl ?_
  refine tt_ldcw (q := 21) hc kc_J6_266 dJ6_bitCount_0f7a4_18 rfl ?_
  first | (with_reducible refine chk2 ?_; refine tt_iandN (q := 22) hc dJ6_bitCount_0f7a4_21 rfl ?_) | (with_reducible refine chkan ?_; refine tt_iandnN (q := 22) hc dJ6_bitCount_0f7a4_21 rfl ?_) | (with_reducible refine chkna ?_; refine tt_inandN (q := 22) hc dJ6_bitCount_0f7a4_21 rfl ?_) | refine tt_iand (q := 22) hc dJ6_bitCount_0f7a4_21 rfl ?_
  first | (with_reducible refine chk2 ?_; refine tt_iaddN (q := 23) hc dJ6_bitCount_0f7a4_22 rfl ?_) | refine tt_iadd (q := 23) hc dJ6_bitCount_0f7a4_22 rfl ?_
  refine tt_is0 (q := 24) hc dJ6_bitCount_0f7a4_23 rfl (by decide) ?_
  refine tt_il0 (q := 25) hc dJ6_bitCount_0f7a4_24 rfl ?_
  refine tt_il0 (q := 26) hc dJ6_bitCount_0f7a4_25 rfl ?_
  refine tt_iconst (v := nI 4) (q := 27) hc rfl dJ6_bitCount_0f7a4_26 rfl ?_
  refine tt_iushr (q := 28) hc rfl dJ6_bitCount_0f7a4_27 rfl ?_
  first | (with_reducible refine chk2 ?_; refine tt_iaddN (q := 29) hc dJ6_bitCount_0f7a4_28 rfl ?_) | refine tt_iadd (q := 29) hc dJ6_bitCount_0f7a4_28 rfl ?_
  refine tt_ldcw (q := 32) hc kc_J6_267 dJ6_bitCount_0f7a4_29 rfl ?_
  first | (with_reducible refine chk2 ?_; refine tt_iandN (q := 33) hc dJ6_bitCount_0f7a4_32 rfl ?_) | (with_reducible refine chkan ?_; refine tt_iandnN (q := 33) hc dJ6_bitCount_0f7a4_32 rfl ?_) | (with_reducible refine chkna ?_; refine tt_inandN (q := 33) hc dJ6_bitCount_0f7a4_32 rfl ?_) | refine tt_iand (q := 33) hc dJ6_bitCount_0f7a4_32 rfl ?_
  refine tt_is0 (q := 34) hc dJ6_bitCount_0f7a4_33 rfl (by decide) ?_
  refine tt_il0 (q := 35) hc dJ6_bitCount_0f7a4_34 rfl ?_
  refine tt_il0 (q := 36) hc dJ6_bitCount_0f7a4_35 rfl ?_
  refine tt_bipush (v := nI 8) (q := 38) hc (by decide) dJ6_bitCount_0f7a4_36 rfl ?_
  refine tt_iushr (q := 39) hc rfl dJ6_bitCount_0f7a4_38 rfl ?_
  first | (with_reducible refine chk2 ?_; refine tt_iaddN (q := 40) hc dJ6_bitCount_0f7a4_39 rfl ?_) | refine tt_iadd (q := 40) hc dJ6_bitCount_0f7a4_39 rfl ?_
  refine tt_is0 (q := 41) hc dJ6_bitCount_0f7a4_40 rfl (by decide) ?_
  refine tt_il0 (q := 42) hc dJ6_bitCount_0f7a4_41 rfl ?_
  refine tt_il0 (q := 43) hc dJ6_bitCount_0f7a4_42 rfl ?_
  refine tt_bipush (v := nI 16) (q := 45) hc (by decide) dJ6_bitCount_0f7a4_43 rfl ?_
  refine tt_iushr (q := 46) hc rfl dJ6_bitCount_0f7a4_45 rfl ?_
  first | (with_reducible refine chk2 ?_; refine tt_iaddN (q := 47) hc dJ6_bitCount_0f7a4_46 rfl ?_) | refine tt_iadd (q := 47) hc dJ6_bitCount_0f7a4_46 rfl ?_
  refine tt_is0 (q := 48) hc dJ6_bitCount_0f7a4_47 rfl (by decide) ?_
  refine tt_il0 (q := 49) hc dJ6_bitCount_0f7a4_48 rfl ?_
  refine tt_bipush (v := nI 63) (q := 51) hc (by decide) dJ6_bitCount_0f7a4_49 rfl ?_
  first | (with_reducible refine chk2 ?_; refine tt_iandN (q := 52) hc dJ6_bitCount_0f7a4_51 rfl ?_) | (with_reducible refine chkan ?_; refine tt_iandnN (q := 52) hc dJ6_bitCount_0f7a4_51 rfl ?_) | (with_reducible refine chkna ?_; refine tt_inandN (q := 52) hc dJ6_bitCount_0f7a4_51 rfl ?_) | refine tt_iand (q := 52) hc dJ6_bitCount_0f7a4_51 rfl ?_
  refine tt_reti hX rfl dJ6_bitCount_0f7a4_52 ?_
  exact qi hQ (bitc n hn)
theorem c_X9_many {l : Launch} {n : Nat} {μ : Mem} {Q : Option Value → Mem → Prop} (hQ : Q (some (.int (nI (pop n)))) μ) (hn : n < 1024 := by omega) : CC l 1 mX9_many [.int (nI n)] μ Q := by
  refine CC.of (M := mX9_many) (by decide +kernel) rfl (fun v h => by simp at h; subst h; rfl) (Nat.le_of_ble_eq_true rfl) (fun X hX => ?_)
  have hc := hX.cx
  refine tt_il0 (q := 1) hc dX9_many_0 rfl ?_
  refine tt_cS1 (q := 4) (d' := 0) hc (by decide) kmJ6_bitCount_0f7a4 ml_X9_95 (Nat.le_of_ble_eq_true rfl) dX9_many_1 rfl ?_
  refine c_J6_bitCount_0f7a4 ?_
  dsimp only [Option.toList, List.nil_append, List.cons_append]
  refine tt_reti hX rfl dX9_many_4 ?_
  exact hQ
theorem c_X9_in {l : Launch} {v a b : Int32} {μ : Mem} {Q : Option Value → Mem → Prop} (hQ : Q (some (.int (bI (inB v a b)))) μ) : CC l 0 mX9_in [.int v, .int a, .int b] μ Q := by
  refine CC.of (M := mX9_in) (by decide +kernel) rfl (fun v h => by simp at h; rcases h with rfl | rfl | rfl <;> rfl) (Nat.le_of_ble_eq_true rfl) (fun X hX => ?_)
  have hc := hX.cx
  refine tt_il0 (q := 1) hc dX9_in_0 rfl ?_
  refine tt_il1 (q := 2) hc dX9_in_1 rfl ?_
  first | (with_reducible refine chk2 ?_; refine tt_icltN (t := 14) (q := 5) hc (by omega) (by omega) dX9_in_2 rfl rfl (fun c_2 => ?_) (fun c_2 => ?_)) | refine tt_iclt (t := 14) (q := 5) hc dX9_in_2 rfl rfl (fun c_2 => ?_) (fun c_2 => ?_)
  · refine tt_iconst (v := nI 0) (q := 15) hc rfl dX9_in_14 rfl ?_
    refine tt_retz hX rfl (by first | decide | exact bI_01 _) dX9_in_15 ?_
    trace_state
    sorry
  · refine tt_il0 (q := 6) hc dX9_in_5 rfl ?_
    refine tt_il2 (q := 7) hc dX9_in_6 rfl ?_
    first | (with_reducible refine chk2 ?_; refine tt_icgtN (t := 14) (q := 10) hc (by omega) (by omega) dX9_in_7 rfl rfl (fun c_7 => ?_) (fun c_7 => ?_)) | refine tt_icgt (t := 14) (q := 10) hc dX9_in_7 rfl rfl (fun c_7 => ?_) (fun c_7 => ?_)
    · refine tt_iconst (v := nI 0) (q := 15) hc rfl dX9_in_14 rfl ?_
      refine tt_retz hX rfl (by first | decide | exact bI_01 _) dX9_in_15 ?_
      trace_state
      sorry
    · refine tt_iconst (v := nI 1) (q := 11) hc rfl dX9_in_10 rfl ?_
      refine tt_goto (t := 15) hc dX9_in_11 rfl ?_
      refine tt_retz hX rfl (by first | decide | exact bI_01 _) dX9_in_15 ?_
      trace_state
      sorry
theorem c_X9_isSet {l : Launch} {v : Int32} {μ : Mem} {Q : Option Value → Mem → Prop} (hQ : Q (some (.int (bI (inB v (nI 1) (nI 255))))) μ) : CC l 1 mX9_isSet [.int v] μ Q := by
  refine CC.of (M := mX9_isSet) (by decide +kernel) rfl (fun v h => by simp at h; subst h; rfl) (Nat.le_of_ble_eq_true rfl) (fun X hX => ?_)
  have hc := hX.cx
  refine tt_il0 (q := 1) hc dX9_isSet_0 rfl ?_
  refine tt_iconst (v := nI 1) (q := 2) hc rfl dX9_isSet_1 rfl ?_
  refine tt_sipush (v := nI 255) (q := 5) hc (by decide) dX9_isSet_2 rfl ?_
  refine tt_cS3 (q := 8) (d' := 0) hc (by decide) kmX9_in ml_X9_91 (Nat.le_of_ble_eq_true rfl) dX9_isSet_5 rfl ?_
  refine c_X9_in ?_
  dsimp only [Option.toList, List.nil_append, List.cons_append]
  refine tt_retz hX rfl (by first | decide | exact bI_01 _) dX9_isSet_8 ?_
  exact hQ
theorem c_X0_total {l : Launch} {j : Nat} (hj : j < 16) {μ : Mem} {Q : Option Value → Mem → Prop} (hQ : Q (some (.int (μ (40 + 2 * j + 1) 0))) μ) : CC l 0 mX0_total [.ref (40 + 2 * j)] μ Q := by
  refine CC.of (M := mX0_total) (by decide +kernel) rfl (fun v h => by simp at h; subst h; rfl) (Nat.le_of_ble_eq_true rfl) (fun X hX => ?_)
  have hc := hX.cx
  have hR : HR (40 + 2 * j) 0 1 (40 + 2 * j + 1) := ⟨by omega, _, sh_ho hj, rfl⟩
  have hA : HA (40 + 2 * j + 1) 0 256 := ⟨by omega, sh_hw hj, by decide⟩
  refine tt_al0 (q := 1) hc dX0_total_0 rfl ?_
  refine tt_getR (q := 4) hc fl_X0_15 (by first | assumption | exact ⟨by decide, _, rfl, rfl⟩) dX0_total_1 rfl ?_
  refine tt_iconst (v := nI 0) (q := 5) hc rfl dX0_total_4 rfl ?_
  refine tt_iald (q := 6) hc (by first | assumption | exact ⟨by decide, rfl, by decide⟩) (by omega) dX0_total_5 rfl ?_
  refine tt_reti hX rfl dX0_total_6 ?_
  exact hQ
