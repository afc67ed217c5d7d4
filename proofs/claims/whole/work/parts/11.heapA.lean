/-! CONTRACTS: small helpers; Heap's reads -/
theorem ne_toInt {x : Int32} {k : Nat} (h : ¬ x = nI k) (hk : k < 2 ^ 31) : x.toInt ≠ (k : Int) := fun e => h (Int32.toInt_inj.mp (by rw [nI_toInt hk]; exact e))
/-- an Int32 between two bounds -/
def inB (v a b : Int32) : Bool := decide (a ≤ v) && decide (v ≤ b)
theorem inB_lo {v a b : Int32} (h : v < a) : inB v a b = false := by
  simp only [inB, Bool.and_eq_false_iff, decide_eq_false_iff_not]
  exact Or.inl (Int32.not_le.mpr h)
theorem inB_hi {v a b : Int32} (h : b < v) : inB v a b = false := by
  simp only [inB, Bool.and_eq_false_iff, decide_eq_false_iff_not]
  exact Or.inr (Int32.not_le.mpr h)
theorem inB_in {v a b : Int32} (h : ¬ v < a) (h2 : ¬ b < v) : inB v a b = true := by
  simp only [inB, Bool.and_eq_true, decide_eq_true_eq]
  exact ⟨Int32.not_lt.mp h, Int32.not_lt.mp h2⟩
theorem inB_t {v : Int32} {a b : Nat} (hb : b < 2 ^ 31) (ha : a < 2 ^ 31) (h : inB v (nI a) (nI b) = true) : ∃ n, a ≤ n ∧ n ≤ b ∧ v = nI n := by
  simp only [inB, Bool.and_eq_true, decide_eq_true_eq] at h
  have h1 := Int32.le_iff_toInt_le.mp h.1
  have h2 := Int32.le_iff_toInt_le.mp h.2
  rw [nI_toInt ha] at h1
  rw [nI_toInt hb] at h2
  refine ⟨v.toInt.toNat, by omega, by omega, ?_⟩
  apply Int32.toInt_inj.mp
  rw [nI_toInt (by omega)]
  omega
theorem inB_f {v : Int32} {a b : Nat} (hb : b < 2 ^ 31) (ha : a < 2 ^ 31) (h : inB v (nI a) (nI b) = false) : ∀ n, a ≤ n → n ≤ b → v ≠ nI n := by
  intro n h1 h2 e
  rw [e, inB_in (nI_nlt h1 (by omega)) (nI_nlt h2 (by omega))] at h
  cases h
theorem qb1 {Q : Option Value → Mem → Prop} {μ : Mem} {b : Bool} (h : Q (some (.int (bI b))) μ) (e : b = true) : Q (some (.int (nI 1))) μ := by rw [e] at h; exact h
theorem qb0 {Q : Option Value → Mem → Prop} {μ : Mem} {b : Bool} (h : Q (some (.int (bI b))) μ) (e : b = false) : Q (some (.int (nI 0))) μ := by rw [e] at h; exact h
set_option maxRecDepth 100000 in
theorem bitc : ∀ n, n < 1024 → (let x0 := nI n
    let x1 := x0 - ((x0.toUInt32 >>> ((nI 1).toUInt32 &&& Int32.toUInt32 31)).toInt32 &&& 1431655765)
    let x2 := (x1 &&& 858993459) + ((x1.toUInt32 >>> ((nI 2).toUInt32 &&& Int32.toUInt32 31)).toInt32 &&& 858993459)
    let x3 := (x2 + (x2.toUInt32 >>> ((nI 4).toUInt32 &&& Int32.toUInt32 31)).toInt32) &&& 252645135
    let x4 := x3 + (x3.toUInt32 >>> ((nI 8).toUInt32 &&& Int32.toUInt32 31)).toInt32
    let x5 := x4 + (x4.toUInt32 >>> ((nI 16).toUInt32 &&& Int32.toUInt32 31)).toInt32
    x5 &&& nI 63) = nI (pop n) := by decide +kernel
theorem c_J6_bitCount_0f7a4 {l : Launch} {n : Nat} {μ : Mem} {Q : Option Value → Mem → Prop} (hQ : Q (some (.int (nI (pop n)))) μ) (hn : n < 1024 := by omega) : CC l 0 mJ6_bitCount_0f7a4 [.int (nI n)] μ Q := by
  refine CC.of (M := mJ6_bitCount_0f7a4) (by decide +kernel) rfl (fun v h => by simp at h; subst h; rfl) (Nat.le_of_ble_eq_true rfl) (fun X hX => ?_)
  have hc := hX.cx
  refine tt_il0 (q := 1) hc dJ6_bitCount_0f7a4_0 rfl ?_
  refine tt_il0 (q := 2) hc dJ6_bitCount_0f7a4_1 rfl ?_
  refine tt_iconst (v := nI 1) (q := 3) hc rfl dJ6_bitCount_0f7a4_2 rfl ?_
  refine tt_iushr (q := 4) hc rfl dJ6_bitCount_0f7a4_3 rfl ?_
  refine tt_ldcw (q := 7) hc kc_J6_265 dJ6_bitCount_0f7a4_4 rfl ?_
  first | (with_reducible refine chk2 ?_; refine tt_iandN (q := 8) hc dJ6_bitCount_0f7a4_7 rfl ?_) | (with_reducible refine chkan ?_; refine tt_iandnN (q := 8) hc dJ6_bitCount_0f7a4_7 rfl ?_) | (with_reducible refine chkna ?_; refine tt_inandN (q := 8) hc dJ6_bitCount_0f7a4_7 rfl ?_) | refine tt_iand (q := 8) hc dJ6_bitCount_0f7a4_7 rfl ?_
  first | (with_reducible refine chk2 ?_; refine tt_isubN (q := 9) hc (by omega) dJ6_bitCount_0f7a4_8 rfl ?_) | refine tt_isub (q := 9) hc dJ6_bitCount_0f7a4_8 rfl ?_
  refine tt_is0 (q := 10) hc dJ6_bitCount_0f7a4_9 rfl (by decide) ?_
  refine tt_il0 (q := 11) hc dJ6_bitCount_0f7a4_10 rfl ?_
  refine tt_ldcw (q := 14) hc kc_J6_266 dJ6_bitCount_0f7a4_11 rfl ?_
  first | (with_reducible refine chk2 ?_; refine tt_iandN (q := 15) hc dJ6_bitCount_0f7a4_14 rfl ?_) | (with_reducible refine chkan ?_; refine tt_iandnN (q := 15) hc dJ6_bitCount_0f7a4_14 rfl ?_) | (with_reducible refine chkna ?_; refine tt_inandN (q := 15) hc dJ6_bitCount_0f7a4_14 rfl ?_) | refine tt_iand (q := 15) hc dJ6_bitCount_0f7a4_14 rfl ?_
  refine tt_il0 (q := 16) hc dJ6_bitCount_0f7a4_15 rfl ?_
  refine tt_iconst (v := nI 2) (q := 17) hc rfl dJ6_bitCount_0f7a4_16 rfl ?_
  refine tt_iushr (q := 18) hc rfl dJ6_bitCount_0f7a4_17 rfl ?_
  refine tt_ldcw (q := 21) hc kc_J6_266 dJ6_bitCount_0f7a4_18 rfl ?_
  first | (with_reducible refine chk2 ?_; refine tt_iandN (q := 22) hc dJ6_bitCount_0f7a4_21 rfl ?_) | (with_reducible refine chkan ?_; refine tt_iandnN (q := 22) hc dJ6_bitCount_0f7a4_21 rfl ?_) | (with_reducible refine chkna ?_; refine tt_inandN (q := 22) hc dJ6_bitCount_0f7a4_21 rfl ?_) | refine tt_iand (q := 22) hc dJ6_bitCount_0f7a4_21 rfl ?_
  first | (with_reducible refine chk2 ?_; refine tt_iaddN (q := 23) hc dJ6_bitCount_0f7a4_22 rfl ?_) | refine tt_iadd (q := 23) hc dJ6_bitCount_0f7a4_22 rfl ?_
  refine tt_is0 (q := 24) hc dJ6_bitCount_0f7a4_23 rfl (by decide) ?_
  refine tt_il0 (q := 25) hc dJ6_bitCount_0f7a4_24 rfl ?_
  refine tt_il0 (q := 26) hc dJ6_bitCount_0f7a4_25 rfl ?_
  refine tt_iconst (v := nI 4) (q := 27) hc rfl dJ6_bitCount_0f7a4_26 rfl ?_
  refine tt_iushr (q := 28) hc rfl dJ6_bitCount_0f7a4_27 rfl ?_
  first | (with_reducible refine chk2 ?_; refine tt_iaddN (q := 29) hc dJ6_bitCount_0f7a4_28 rfl ?_) | refine tt_iadd (q := 29) hc dJ6_bitCount_0f7a4_28 rfl ?_
  refine tt_ldcw (q := 32) hc kc_J6_267 dJ6_bitCount_0f7a4_29 rfl ?_
  first | (with_reducible refine chk2 ?_; refine tt_iandN (q := 33) hc dJ6_bitCount_0f7a4_32 rfl ?_) | (with_reducible refine chkan ?_; refine tt_iandnN (q := 33) hc dJ6_bitCount_0f7a4_32 rfl ?_) | (with_reducible refine chkna ?_; refine tt_inandN (q := 33) hc dJ6_bitCount_0f7a4_32 rfl ?_) | refine tt_iand (q := 33) hc dJ6_bitCount_0f7a4_32 rfl ?_
  refine tt_is0 (q := 34) hc dJ6_bitCount_0f7a4_33 rfl (by decide) ?_
  refine tt_il0 (q := 35) hc dJ6_bitCount_0f7a4_34 rfl ?_
  refine tt_il0 (q := 36) hc dJ6_bitCount_0f7a4_35 rfl ?_
  refine tt_bipush (v := nI 8) (q := 38) hc (by decide) dJ6_bitCount_0f7a4_36 rfl ?_
  refine tt_iushr (q := 39) hc rfl dJ6_bitCount_0f7a4_38 rfl ?_
  first | (with_reducible refine chk2 ?_; refine tt_iaddN (q := 40) hc dJ6_bitCount_0f7a4_39 rfl ?_) | refine tt_iadd (q := 40) hc dJ6_bitCount_0f7a4_39 rfl ?_
  refine tt_is0 (q := 41) hc dJ6_bitCount_0f7a4_40 rfl (by decide) ?_
  refine tt_il0 (q := 42) hc dJ6_bitCount_0f7a4_41 rfl ?_
  refine tt_il0 (q := 43) hc dJ6_bitCount_0f7a4_42 rfl ?_
  refine tt_bipush (v := nI 16) (q := 45) hc (by decide) dJ6_bitCount_0f7a4_43 rfl ?_
  refine tt_iushr (q := 46) hc rfl dJ6_bitCount_0f7a4_45 rfl ?_
  first | (with_reducible refine chk2 ?_; refine tt_iaddN (q := 47) hc dJ6_bitCount_0f7a4_46 rfl ?_) | refine tt_iadd (q := 47) hc dJ6_bitCount_0f7a4_46 rfl ?_
  refine tt_is0 (q := 48) hc dJ6_bitCount_0f7a4_47 rfl (by decide) ?_
  refine tt_il0 (q := 49) hc dJ6_bitCount_0f7a4_48 rfl ?_
  refine tt_bipush (v := nI 63) (q := 51) hc (by decide) dJ6_bitCount_0f7a4_49 rfl ?_
  first | (with_reducible refine chk2 ?_; refine tt_iandN (q := 52) hc dJ6_bitCount_0f7a4_51 rfl ?_) | (with_reducible refine chkan ?_; refine tt_iandnN (q := 52) hc dJ6_bitCount_0f7a4_51 rfl ?_) | (with_reducible refine chkna ?_; refine tt_inandN (q := 52) hc dJ6_bitCount_0f7a4_51 rfl ?_) | refine tt_iand (q := 52) hc dJ6_bitCount_0f7a4_51 rfl ?_
  refine tt_reti hX rfl dJ6_bitCount_0f7a4_52 ?_
  exact qi hQ (bitc n hn)
theorem c_X9_many {l : Launch} {n : Nat} {μ : Mem} {Q : Option Value → Mem → Prop} (hQ : Q (some (.int (nI (pop n)))) μ) (hn : n < 1024 := by omega) : CC l 1 mX9_many [.int (nI n)] μ Q := by
  refine CC.of (M := mX9_many) (by decide +kernel) rfl (fun v h => by simp at h; subst h; rfl) (Nat.le_of_ble_eq_true rfl) (fun X hX => ?_)
  have hc := hX.cx
  refine tt_il0 (q := 1) hc dX9_many_0 rfl ?_
  refine tt_cS1 (q := 4) (d' := 0) hc (by decide) kmJ6_bitCount_0f7a4 ml_X9_95 (Nat.le_of_ble_eq_true rfl) dX9_many_1 rfl ?_
  refine c_J6_bitCount_0f7a4 ?_
  dsimp only [Option.toList, List.nil_append, List.cons_append]
  refine tt_reti hX rfl dX9_many_4 ?_
  exact hQ
theorem c_X9_in {l : Launch} {v a b : Int32} {μ : Mem} {Q : Option Value → Mem → Prop} (hQ : Q (some (.int (bI (inB v a b)))) μ) : CC l 0 mX9_in [.int v, .int a, .int b] μ Q := by
  refine CC.of (M := mX9_in) (by decide +kernel) rfl (fun v h => by simp at h; rcases h with rfl | rfl | rfl <;> rfl) (Nat.le_of_ble_eq_true rfl) (fun X hX => ?_)
  have hc := hX.cx
  refine tt_il0 (q := 1) hc dX9_in_0 rfl ?_
  refine tt_il1 (q := 2) hc dX9_in_1 rfl ?_
  first | (with_reducible refine chk2 ?_; refine tt_icltN (t := 14) (q := 5) hc (by omega) (by omega) dX9_in_2 rfl rfl (fun c_2 => ?_) (fun c_2 => ?_)) | refine tt_iclt (t := 14) (q := 5) hc dX9_in_2 rfl rfl (fun c_2 => ?_) (fun c_2 => ?_)
  · refine tt_iconst (v := nI 0) (q := 15) hc rfl dX9_in_14 rfl ?_
    refine tt_retz hX rfl (by first | decide | exact bI_01 _) dX9_in_15 ?_
    first | exact qb1 hQ (inB_in c_2 c_7) | exact qb0 hQ (inB_lo c_2) | exact qb0 hQ (inB_hi c_7)
  · refine tt_il0 (q := 6) hc dX9_in_5 rfl ?_
    refine tt_il2 (q := 7) hc dX9_in_6 rfl ?_
    first | (with_reducible refine chk2 ?_; refine tt_icgtN (t := 14) (q := 10) hc (by omega) (by omega) dX9_in_7 rfl rfl (fun c_7 => ?_) (fun c_7 => ?_)) | refine tt_icgt (t := 14) (q := 10) hc dX9_in_7 rfl rfl (fun c_7 => ?_) (fun c_7 => ?_)
    · refine tt_iconst (v := nI 0) (q := 15) hc rfl dX9_in_14 rfl ?_
      refine tt_retz hX rfl (by first | decide | exact bI_01 _) dX9_in_15 ?_
      first | exact qb1 hQ (inB_in c_2 c_7) | exact qb0 hQ (inB_lo c_2) | exact qb0 hQ (inB_hi c_7)
    · refine tt_iconst (v := nI 1) (q := 11) hc rfl dX9_in_10 rfl ?_
      refine tt_goto (t := 15) hc dX9_in_11 rfl ?_
      refine tt_retz hX rfl (by first | decide | exact bI_01 _) dX9_in_15 ?_
      first | exact qb1 hQ (inB_in c_2 c_7) | exact qb0 hQ (inB_lo c_2) | exact qb0 hQ (inB_hi c_7)
theorem c_X9_isSet {l : Launch} {v : Int32} {μ : Mem} {Q : Option Value → Mem → Prop} (hQ : Q (some (.int (bI (inB v (nI 1) (nI 255))))) μ) : CC l 1 mX9_isSet [.int v] μ Q := by
  refine CC.of (M := mX9_isSet) (by decide +kernel) rfl (fun v h => by simp at h; subst h; rfl) (Nat.le_of_ble_eq_true rfl) (fun X hX => ?_)
  have hc := hX.cx
  refine tt_il0 (q := 1) hc dX9_isSet_0 rfl ?_
  refine tt_iconst (v := nI 1) (q := 2) hc rfl dX9_isSet_1 rfl ?_
  refine tt_sipush (v := nI 255) (q := 5) hc (by decide) dX9_isSet_2 rfl ?_
  refine tt_cS3 (q := 8) (d' := 0) hc (by decide) kmX9_in ml_X9_91 (Nat.le_of_ble_eq_true rfl) dX9_isSet_5 rfl ?_
  refine c_X9_in ?_
  dsimp only [Option.toList, List.nil_append, List.cons_append]
  refine tt_retz hX rfl (by first | decide | exact bI_01 _) dX9_isSet_8 ?_
  exact hQ
theorem c_X0_total {l : Launch} {j K : Nat} (hj : j < 16) {B : Nat → Bool} {μ : Mem} {Q : Option Value → Mem → Prop} (hR : RC μ j K B) (hQ : Q (some (.int (nI (tot B)))) μ) : CC l 0 mX0_total [.ref (40 + 2 * j)] μ Q := by
  refine CC.of (M := mX0_total) (by decide +kernel) rfl (fun v h => by simp at h; subst h; rfl) (Nat.le_of_ble_eq_true rfl) (fun X hX => ?_)
  have hc := hX.cx
  have hw : HR (40 + 2 * j) 0 1 (40 + 2 * j + 1) := ⟨by omega, _, sh_ho hj, rfl⟩
  have hA : HA (40 + 2 * j + 1) 0 256 := ⟨by omega, sh_hw hj, by decide⟩
  refine tt_al0 (q := 1) hc dX0_total_0 rfl ?_
  refine tt_getR (q := 4) hc fl_X0_15 (by first | assumption | exact ⟨by decide, _, rfl, rfl⟩) dX0_total_1 rfl ?_
  refine tt_iconst (v := nI 0) (q := 5) hc rfl dX0_total_4 rfl ?_
  refine tt_iald (q := 6) hc (by first | assumption | exact ⟨by decide, rfl, by decide⟩) (by omega) dX0_total_5 rfl ?_
  refine tt_reti hX rfl dX0_total_6 ?_
  exact qi hQ (by rw [hR.2.2 0 (by omega), cW_0])
theorem c_X0_holders {l : Launch} {j K s : Nat} (hj : j < 16) {B : Nat → Bool} {μ : Mem} {Q : Option Value → Mem → Prop} (hR : RC μ j K B) (hQ : Q (some (.int (nI (cW B s)))) μ) (hs : s < 256 := by omega) : CC l 0 mX0_holders [.ref (40 + 2 * j), .int (nI s)] μ Q := by
  refine CC.of (M := mX0_holders) (by decide +kernel) rfl (fun v h => by simp at h; rcases h with rfl | rfl <;> rfl) (Nat.le_of_ble_eq_true rfl) (fun X hX => ?_)
  have hc := hX.cx
  have hw : HR (40 + 2 * j) 0 1 (40 + 2 * j + 1) := ⟨by omega, _, sh_ho hj, rfl⟩
  have hA : HA (40 + 2 * j + 1) 0 256 := ⟨by omega, sh_hw hj, by decide⟩
  refine tt_al0 (q := 1) hc dX0_holders_0 rfl ?_
  refine tt_getR (q := 4) hc fl_X0_15 (by first | assumption | exact ⟨by decide, _, rfl, rfl⟩) dX0_holders_1 rfl ?_
  refine tt_il1 (q := 5) hc dX0_holders_4 rfl ?_
  refine tt_iald (q := 6) hc (by first | assumption | exact ⟨by decide, rfl, by decide⟩) (by omega) dX0_holders_5 rfl ?_
  refine tt_reti hX rfl dX0_holders_6 ?_
  exact qi hQ (hR.2.2 s hs)
theorem c_X0_isBody {l : Launch} {j K s : Nat} (hj : j < 16) {B : Nat → Bool} {μ : Mem} {Q : Option Value → Mem → Prop} (hR : RC μ j K B) (hQ : Q (some (.int (bI (B s)))) μ) (hs : s < 256 := by omega) : CC l 1 mX0_isBody [.ref (40 + 2 * j), .int (nI s)] μ Q := by
  refine CC.of (M := mX0_isBody) (by decide +kernel) rfl (fun v h => by simp at h; rcases h with rfl | rfl <;> rfl) (Nat.le_of_ble_eq_true rfl) (fun X hX => ?_)
  have hc := hX.cx
  have hw : HR (40 + 2 * j) 0 1 (40 + 2 * j + 1) := ⟨by omega, _, sh_ho hj, rfl⟩
  have hk : HI (40 + 2 * j) 0 0 := ⟨by omega, _, sh_ho hj, _, rfl⟩
  have hA : HA (40 + 2 * j + 1) 0 256 := ⟨by omega, sh_hw hj, by decide⟩
  have hp : pop s < 2 ^ 31 := Nat.lt_of_le_of_lt (pop_le s hs) (by decide)
  have hc2 := cW_le B s
  have hK := hR.1.1
  refine tt_al0 (q := 1) hc dX0_isBody_0 rfl ?_
  refine tt_getR (q := 4) hc fl_X0_15 (by first | assumption | exact ⟨by decide, _, rfl, rfl⟩) dX0_isBody_1 rfl ?_
  refine tt_il1 (q := 5) hc dX0_isBody_4 rfl ?_
  refine tt_iald (q := 6) hc (by first | assumption | exact ⟨by decide, rfl, by decide⟩) (by omega) dX0_isBody_5 rfl ?_
  rw [hR.2.2 s hs]
  first | (with_reducible refine chk1 ?_; refine tt_ifleN (t := 24) (q := 9) hc (by omega) dX0_isBody_6 rfl rfl (fun c_6 => ?_) (fun c_6 => ?_)) | refine tt_ifle (t := 24) (q := 9) hc dX0_isBody_6 rfl rfl (fun c_6 => ?_) (fun c_6 => ?_)
  · refine tt_iconst (v := nI 0) (q := 25) hc rfl dX0_isBody_24 rfl ?_
    refine tt_retz hX rfl (by first | decide | exact bI_01 _) dX0_isBody_25 ?_
    first
    | exact qb0 hQ (by cases hB : B s; rfl; have := (cW_pos (B := B) (s := s)).mpr ⟨s, hs, hB, Nat.and_self _⟩; omega)
    | exact qb0 hQ (by cases hB : B s; rfl; exact absurd (hR.1.2 s hB).2 c_17)
    | exact qb1 hQ (by have h := cW_body hR.1 hs c_17; cases hB : B s; rw [if_neg (by rw [hB]; decide)] at h; omega; rfl)
  · refine tt_il1 (q := 10) hc dX0_isBody_9 rfl ?_
    refine tt_cS1 (q := 13) (d' := 0) hc (by decide) kmJ6_bitCount_0f7a4 ml_X0_25 (Nat.le_of_ble_eq_true rfl) dX0_isBody_10 rfl ?_
    refine c_J6_bitCount_0f7a4 ?_
    dsimp only [Option.toList, List.nil_append, List.cons_append]
    refine tt_al0 (q := 14) hc dX0_isBody_13 rfl ?_
    refine tt_getI (q := 17) hc fl_X0_9 (by first | assumption | exact ⟨by decide, _, rfl, _, rfl⟩) dX0_isBody_14 rfl ?_
    rw [hR.2.1]
    first | (with_reducible refine chk2 ?_; refine tt_icneN (t := 24) (q := 20) hc (by omega) (by omega) dX0_isBody_17 rfl rfl (fun c_17 => ?_) (fun c_17 => ?_)) | refine tt_icne (t := 24) (q := 20) hc dX0_isBody_17 rfl rfl (fun c_17 => ?_) (fun c_17 => ?_)
    · refine tt_iconst (v := nI 0) (q := 25) hc rfl dX0_isBody_24 rfl ?_
      refine tt_retz hX rfl (by first | decide | exact bI_01 _) dX0_isBody_25 ?_
      first
      | exact qb0 hQ (by cases hB : B s; rfl; have := (cW_pos (B := B) (s := s)).mpr ⟨s, hs, hB, Nat.and_self _⟩; omega)
      | exact qb0 hQ (by cases hB : B s; rfl; exact absurd (hR.1.2 s hB).2 c_17)
      | exact qb1 hQ (by have h := cW_body hR.1 hs c_17; cases hB : B s; rw [if_neg (by rw [hB]; decide)] at h; omega; rfl)
    · refine tt_iconst (v := nI 1) (q := 21) hc rfl dX0_isBody_20 rfl ?_
      refine tt_goto (t := 25) hc dX0_isBody_21 rfl ?_
      refine tt_retz hX rfl (by first | decide | exact bI_01 _) dX0_isBody_25 ?_
      first
      | exact qb0 hQ (by cases hB : B s; rfl; have := (cW_pos (B := B) (s := s)).mpr ⟨s, hs, hB, Nat.and_self _⟩; omega)
      | exact qb0 hQ (by cases hB : B s; rfl; exact absurd (hR.1.2 s hB).2 c_17)
      | exact qb1 hQ (by have h := cW_body hR.1 hs c_17; cases hB : B s; rw [if_neg (by rw [hB]; decide)] at h; omega; rfl)
def wal (K : Nat) (B : Nat → Bool) (s : Nat) : Bool := decide (cW B s = 1) && decide (pop s = K - 1)
theorem c_X0_isWall {l : Launch} {j K s : Nat} (hj : j < 16) {B : Nat → Bool} {μ : Mem} {Q : Option Value → Mem → Prop} (hR : RC μ j K B) (hQ : Q (some (.int (bI (wal K B s)))) μ) (hs : s < 256 := by omega) : CC l 1 mX0_isWall [.ref (40 + 2 * j), .int (nI s)] μ Q := by
  refine CC.of (M := mX0_isWall) (by decide +kernel) rfl (fun v h => by simp at h; rcases h with rfl | rfl <;> rfl) (Nat.le_of_ble_eq_true rfl) (fun X hX => ?_)
  have hc := hX.cx
  have hw : HR (40 + 2 * j) 0 1 (40 + 2 * j + 1) := ⟨by omega, _, sh_ho hj, rfl⟩
  have hk : HI (40 + 2 * j) 0 0 := ⟨by omega, _, sh_ho hj, _, rfl⟩
  have hA : HA (40 + 2 * j + 1) 0 256 := ⟨by omega, sh_hw hj, by decide⟩
  have hp : pop s < 2 ^ 31 := Nat.lt_of_le_of_lt (pop_le s hs) (by decide)
  have hc2 := cW_le B s
  have hK := hR.1.1
  refine tt_al0 (q := 1) hc dX0_isWall_0 rfl ?_
  refine tt_getR (q := 4) hc fl_X0_15 (by first | assumption | exact ⟨by decide, _, rfl, rfl⟩) dX0_isWall_1 rfl ?_
  refine tt_il1 (q := 5) hc dX0_isWall_4 rfl ?_
  refine tt_iald (q := 6) hc (by first | assumption | exact ⟨by decide, rfl, by decide⟩) (by omega) dX0_isWall_5 rfl ?_
  refine tt_iconst (v := nI 1) (q := 7) hc rfl dX0_isWall_6 rfl ?_
  rw [hR.2.2 s hs]
  first | (with_reducible refine chk2 ?_; refine tt_icneN (t := 27) (q := 10) hc (by omega) (by omega) dX0_isWall_7 rfl rfl (fun c_7 => ?_) (fun c_7 => ?_)) | refine tt_icne (t := 27) (q := 10) hc dX0_isWall_7 rfl rfl (fun c_7 => ?_) (fun c_7 => ?_)
  · refine tt_iconst (v := nI 0) (q := 28) hc rfl dX0_isWall_27 rfl ?_
    refine tt_retz hX rfl (by first | decide | exact bI_01 _) dX0_isWall_28 ?_
    first | (refine qb1 hQ ?_; rw [wal, decide_eq_true c_7, decide_eq_true c_20]; rfl) | (refine qb0 hQ ?_; rw [wal, decide_eq_false c_20, Bool.and_false]) | (refine qb0 hQ ?_; rw [wal, decide_eq_false c_7, Bool.false_and])
  · refine tt_il1 (q := 11) hc dX0_isWall_10 rfl ?_
    refine tt_cS1 (q := 14) (d' := 0) hc (by decide) kmJ6_bitCount_0f7a4 ml_X0_25 (Nat.le_of_ble_eq_true rfl) dX0_isWall_11 rfl ?_
    refine c_J6_bitCount_0f7a4 ?_
    dsimp only [Option.toList, List.nil_append, List.cons_append]
    refine tt_al0 (q := 15) hc dX0_isWall_14 rfl ?_
    refine tt_getI (q := 18) hc fl_X0_9 (by first | assumption | exact ⟨by decide, _, rfl, _, rfl⟩) dX0_isWall_15 rfl ?_
    rw [hR.2.1]
    refine tt_iconst (v := nI 1) (q := 19) hc rfl dX0_isWall_18 rfl ?_
    first | (with_reducible refine chk2 ?_; refine tt_isubN (q := 20) hc (by omega) dX0_isWall_19 rfl ?_) | refine tt_isub (q := 20) hc dX0_isWall_19 rfl ?_
    first | (with_reducible refine chk2 ?_; refine tt_icneN (t := 27) (q := 23) hc (by omega) (by omega) dX0_isWall_20 rfl rfl (fun c_20 => ?_) (fun c_20 => ?_)) | refine tt_icne (t := 27) (q := 23) hc dX0_isWall_20 rfl rfl (fun c_20 => ?_) (fun c_20 => ?_)
    · refine tt_iconst (v := nI 0) (q := 28) hc rfl dX0_isWall_27 rfl ?_
      refine tt_retz hX rfl (by first | decide | exact bI_01 _) dX0_isWall_28 ?_
      first | (refine qb1 hQ ?_; rw [wal, decide_eq_true c_7, decide_eq_true c_20]; rfl) | (refine qb0 hQ ?_; rw [wal, decide_eq_false c_20, Bool.and_false]) | (refine qb0 hQ ?_; rw [wal, decide_eq_false c_7, Bool.false_and])
    · refine tt_iconst (v := nI 1) (q := 24) hc rfl dX0_isWall_23 rfl ?_
      refine tt_goto (t := 28) hc dX0_isWall_24 rfl ?_
      refine tt_retz hX rfl (by first | decide | exact bI_01 _) dX0_isWall_28 ?_
      first | (refine qb1 hQ ?_; rw [wal, decide_eq_true c_7, decide_eq_true c_20]; rfl) | (refine qb0 hQ ?_; rw [wal, decide_eq_false c_20, Bool.and_false]) | (refine qb0 hQ ?_; rw [wal, decide_eq_false c_7, Bool.false_and])
