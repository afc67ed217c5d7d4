/-! THE LAW'S LOOP (written by wip/whole/gen/fin.py) -/
theorem cmpL {n Ln : Nat} (h1 : Ln ≤ 3072) (h2 : n ≤ 4000) (h : Ln < n + 6) : nI Ln - nI 6 < nI n := by
  by_cases h6 : 6 ≤ Ln
  · have e : nI Ln - nI 6 = nI (Ln - 6) := by
      rw [show nI Ln = nI (Ln - 6) + nI 6 by rw [nI_add, Nat.sub_add_cancel h6], Int32.add_sub_cancel]
    rw [e]
    exact nI_lt (by omega) (by omega)
  · have h0 : nI 0 ≤ nI n := nI_le (Nat.zero_le n) (by omega)
    refine Int32.lt_of_lt_of_le ?_ h0
    have : Ln = 0 ∨ Ln = 1 ∨ Ln = 2 ∨ Ln = 3 ∨ Ln = 4 ∨ Ln = 5 := by omega
    rcases this with rfl | rfl | rfl | rfl | rfl | rfl <;> decide
theorem and63 (x : Int32) : 0 ≤ (x &&& nI 63).toInt ∧ (x &&& nI 63).toInt < 64 := by
  have h1 : (x &&& nI 63).toBitVec.toNat ≤ 63 := by
    rw [Int32.toBitVec_and, BitVec.toNat_and]
    exact Nat.le_trans Nat.and_le_right (by decide)
  have h2 : (x &&& nI 63).toInt = ((x &&& nI 63).toBitVec.toNat : Int) := by
    show (x &&& nI 63).toBitVec.toInt = _
    rw [BitVec.toInt_eq_toNat_of_lt (by show 2 * _ < 4294967296; omega)]
  omega
abbrev LL (n : Nat) : List Value := [.ref 200, .ref 0, .ref 24, .int (nI n)]
theorem law_loop {X : XT} {l : Launch} {Ln : Nat} {xs : Nat → Int32} (hX : Cx X l 12 mL_law) (hE : LE X Ln xs) (hLn : Ln ≤ 3072) (hend : ∀ (n : Nat) (μ : Mem), TT X 1211 (LL n) [] μ) : ∀ (k n : Nat) (S : ST) (μ : Mem), Ln < n + 6 * k → n ≤ 4000 → CR μ S → MR μ S → TT X 18 (LL n) [] μ := by
  intro k
  induction k with
  | zero =>
    intro n S μ hk hn hC hM
    refine tt_il3 (q := 19) hX dL_law_18 rfl ?_
    refine tt_al0 (q := 20) hX dL_law_19 rfl ?_
    refine tt_sn (q := 21) hX hE dL_law_20 rfl ?_
    refine tt_bipush (v := nI 6) (q := 23) hX (by decide) dL_law_21 rfl ?_
    refine tt_isub (q := 24) hX dL_law_23 rfl ?_
    refine tt_icgt (q := 27) (t := 1211) hX dL_law_24 rfl (by decide) (fun _ => hend n μ) (fun z => absurd (cmpL hLn hn (by omega)) z)
  | succ k ih =>
    intro n S μ hk hn hC hM
    refine tt_il3 (q := 19) hX dL_law_18 rfl ?_
    refine tt_al0 (q := 20) hX dL_law_19 rfl ?_
    refine tt_sn (q := 21) hX hE dL_law_20 rfl ?_
    refine tt_bipush (v := nI 6) (q := 23) hX (by decide) dL_law_21 rfl ?_
    refine tt_isub (q := 24) hX dL_law_23 rfl ?_
    refine tt_icgt (q := 27) (t := 1211) hX dL_law_24 rfl (by decide) (fun _ => hend n μ) (fun z => ?_)
    have hle : n + 6 ≤ Ln := by
      rcases Nat.lt_or_ge Ln (n + 6) with h | h
      · exact absurd (cmpL hLn hn h) z
      · exact h
    have kk : ∀ (S : ST) (μ : Mem), CR μ S → MR μ S → TT X 1205 (LL n) [] μ := fun S μ hC hM => by
      refine tt_inc3 (v := nI (n + 6)) (q := 1208) hX dL_law_1205 rfl (by decide) (inc6 n) ?_
      refine tt_goto (t := 18) hX dL_law_1208 (by decide) ?_
      exact ih (n + 6) S μ (by omega) (by omega) hC hM
    have hI : ∀ k, k < 6 → vp_in (nI n + nI k) Ln := fun k hk => by
      rw [nI_add]
      exact vp_in_nI (by omega) (by omega)
    refine tt_al0 (q := 28) hX dL_law_27 rfl ?_
    refine tt_il3 (q := 29) hX dL_law_28 rfl ?_
    refine tt_sr (q := 30) hX hE (vp_in_nI (by omega) (by omega)) dL_law_29 rfl ?_
    refine tt_bipush (v := nI 63) (q := 32) hX (by decide) dL_law_30 rfl ?_
    refine tt_iand (q := 33) hX dL_law_32 rfl ?_
    generalize hx0 : xs (nI n).toNatClampNeg &&& nI 63 = x
    have hx := and63 (xs (nI n).toNatClampNeg)
    rw [hx0] at hx
    by_cases h37 : 37 < x.toInt
    · exact tt_tswO (t := 1205) hX dL_law_33 (Or.inr h37) (by decide) (kk S μ hC hM)
    have key : AllP 38 (fun v => x.toInt = (v : Int) → TT X 33 (LL n) [.int x] μ) := by
      refine ⟨?_, fun e => tt_tswI (t := 1182) hX dL_law_33 (by omega) (by omega) (by rw [e]; rfl) (by decide) (law_37 hX hE hI hC hM kk)⟩
      refine ⟨?_, fun e => tt_tswI (t := 1169) hX dL_law_33 (by omega) (by omega) (by rw [e]; rfl) (by decide) (law_36 hX hE hI hC hM kk)⟩
      refine ⟨?_, fun e => tt_tswI (t := 1156) hX dL_law_33 (by omega) (by omega) (by rw [e]; rfl) (by decide) (law_35 hX hE hI hC hM kk)⟩
      refine ⟨?_, fun e => tt_tswI (t := 1093) hX dL_law_33 (by omega) (by omega) (by rw [e]; rfl) (by decide) (law_34 hX hE hI hC hM kk)⟩
      refine ⟨?_, fun e => tt_tswI (t := 1059) hX dL_law_33 (by omega) (by omega) (by rw [e]; rfl) (by decide) (law_33 hX hE hI hC hM kk)⟩
      refine ⟨?_, fun e => tt_tswI (t := 1016) hX dL_law_33 (by omega) (by omega) (by rw [e]; rfl) (by decide) (law_32 hX hE hI hC hM kk)⟩
      refine ⟨?_, fun e => tt_tswI (t := 983) hX dL_law_33 (by omega) (by omega) (by rw [e]; rfl) (by decide) (law_31 hX hE hI hC hM kk)⟩
      refine ⟨?_, fun e => tt_tswI (t := 960) hX dL_law_33 (by omega) (by omega) (by rw [e]; rfl) (by decide) (law_30 hX hE hI hC hM kk)⟩
      refine ⟨?_, fun e => tt_tswI (t := 937) hX dL_law_33 (by omega) (by omega) (by rw [e]; rfl) (by decide) (law_29 hX hE hI hC hM kk)⟩
      refine ⟨?_, fun e => tt_tswI (t := 924) hX dL_law_33 (by omega) (by omega) (by rw [e]; rfl) (by decide) (law_28 hX hE hI hC hM kk)⟩
      refine ⟨?_, fun e => tt_tswI (t := 911) hX dL_law_33 (by omega) (by omega) (by rw [e]; rfl) (by decide) (law_27 hX hE hI hC hM kk)⟩
      refine ⟨?_, fun e => tt_tswI (t := 888) hX dL_law_33 (by omega) (by omega) (by rw [e]; rfl) (by decide) (law_26 hX hE hI hC hM kk)⟩
      refine ⟨?_, fun e => tt_tswI (t := 845) hX dL_law_33 (by omega) (by omega) (by rw [e]; rfl) (by decide) (law_25 hX hE hI hC hM kk)⟩
      refine ⟨?_, fun e => tt_tswI (t := 822) hX dL_law_33 (by omega) (by omega) (by rw [e]; rfl) (by decide) (law_24 hX hE hI hC hM kk)⟩
      refine ⟨?_, fun e => tt_tswI (t := 789) hX dL_law_33 (by omega) (by omega) (by rw [e]; rfl) (by decide) (law_23 hX hE hI hC hM kk)⟩
      refine ⟨?_, fun e => tt_tswI (t := 756) hX dL_law_33 (by omega) (by omega) (by rw [e]; rfl) (by decide) (law_22 hX hE hI hC hM kk)⟩
      refine ⟨?_, fun e => tt_tswI (t := 713) hX dL_law_33 (by omega) (by omega) (by rw [e]; rfl) (by decide) (law_21 hX hE hI hC hM kk)⟩
      refine ⟨?_, fun e => tt_tswI (t := 680) hX dL_law_33 (by omega) (by omega) (by rw [e]; rfl) (by decide) (law_20 hX hE hI hC hM kk)⟩
      refine ⟨?_, fun e => tt_tswI (t := 657) hX dL_law_33 (by omega) (by omega) (by rw [e]; rfl) (by decide) (law_19 hX hE hI hC hM kk)⟩
      refine ⟨?_, fun e => tt_tswI (t := 644) hX dL_law_33 (by omega) (by omega) (by rw [e]; rfl) (by decide) (law_18 hX hE hI hC hM kk)⟩
      refine ⟨?_, fun e => tt_tswI (t := 631) hX dL_law_33 (by omega) (by omega) (by rw [e]; rfl) (by decide) (law_17 hX hE hI hC hM kk)⟩
      refine ⟨?_, fun e => tt_tswI (t := 608) hX dL_law_33 (by omega) (by omega) (by rw [e]; rfl) (by decide) (law_16 hX hE hI hC hM kk)⟩
      refine ⟨?_, fun e => tt_tswI (t := 575) hX dL_law_33 (by omega) (by omega) (by rw [e]; rfl) (by decide) (law_15 hX hE hI hC hM kk)⟩
      refine ⟨?_, fun e => tt_tswI (t := 552) hX dL_law_33 (by omega) (by omega) (by rw [e]; rfl) (by decide) (law_14 hX hE hI hC hM kk)⟩
      refine ⟨?_, fun e => tt_tswI (t := 529) hX dL_law_33 (by omega) (by omega) (by rw [e]; rfl) (by decide) (law_13 hX hE hI hC hM kk)⟩
      refine ⟨?_, fun e => tt_tswI (t := 506) hX dL_law_33 (by omega) (by omega) (by rw [e]; rfl) (by decide) (law_12 hX hE hI hC hM kk)⟩
      refine ⟨?_, fun e => tt_tswI (t := 473) hX dL_law_33 (by omega) (by omega) (by rw [e]; rfl) (by decide) (law_11 hX hE hI hC hM kk)⟩
      refine ⟨?_, fun e => tt_tswI (t := 450) hX dL_law_33 (by omega) (by omega) (by rw [e]; rfl) (by decide) (law_10 hX hE hI hC hM kk)⟩
      refine ⟨?_, fun e => tt_tswI (t := 427) hX dL_law_33 (by omega) (by omega) (by rw [e]; rfl) (by decide) (law_9 hX hE hI hC hM kk)⟩
      refine ⟨?_, fun e => tt_tswI (t := 394) hX dL_law_33 (by omega) (by omega) (by rw [e]; rfl) (by decide) (law_8 hX hE hI hC hM kk)⟩
      refine ⟨?_, fun e => tt_tswI (t := 371) hX dL_law_33 (by omega) (by omega) (by rw [e]; rfl) (by decide) (law_7 hX hE hI hC hM kk)⟩
      refine ⟨?_, fun e => tt_tswI (t := 338) hX dL_law_33 (by omega) (by omega) (by rw [e]; rfl) (by decide) (law_6 hX hE hI hC hM kk)⟩
      refine ⟨?_, fun e => tt_tswI (t := 315) hX dL_law_33 (by omega) (by omega) (by rw [e]; rfl) (by decide) (law_5 hX hE hI hC hM kk)⟩
      refine ⟨?_, fun e => tt_tswI (t := 292) hX dL_law_33 (by omega) (by omega) (by rw [e]; rfl) (by decide) (law_4 hX hE hI hC hM kk)⟩
      refine ⟨?_, fun e => tt_tswI (t := 269) hX dL_law_33 (by omega) (by omega) (by rw [e]; rfl) (by decide) (law_3 hX hE hI hC hM kk)⟩
      refine ⟨?_, fun e => tt_tswI (t := 246) hX dL_law_33 (by omega) (by omega) (by rw [e]; rfl) (by decide) (law_2 hX hE hI hC hM kk)⟩
      refine ⟨?_, fun e => tt_tswI (t := 223) hX dL_law_33 (by omega) (by omega) (by rw [e]; rfl) (by decide) (law_1 hX hE hI hC hM kk)⟩
      refine ⟨?_, fun e => tt_tswI (t := 200) hX dL_law_33 (by omega) (by omega) (by rw [e]; rfl) (by decide) (law_0 hX hE hI hC hM kk)⟩
      exact trivial
    exact key.at x.toInt.toNat (by omega) (by omega)
