/-! THE MODEL: spelling -/
theorem HA72 : HA 72 2 1280 := ⟨by decide, rfl, by decide⟩
set_option maxHeartbeats 4000000 in
theorem c_X9_areBeside {l : Launch} {x y K : Nat} {μ : Mem} {Q : Option Value → Mem → Prop} (hK : K = 3 ∨ K = 4) (hz : μ 24 0 = nI K) (hx : x < 256) (hQ : Q (some (.int (bI (decide (pop (x &&& y) = K - 1))))) μ) : CC l 2 mX9_areBeside [.ref 24, .int (nI x), .int (nI y)] μ Q := by
  refine CC.of (M := mX9_areBeside) (by decide +kernel) rfl (fun v h => by simp at h; rcases h with rfl | rfl | rfl <;> rfl) (Nat.le_of_ble_eq_true rfl) (fun X hX => ?_)
  have hc := hX.cx
  have ha := and_lt (a := x) (b := y) hx
  have hp := pop_le (x &&& y) ha
  refine tt_il1 (q := 1) hc dX9_areBeside_0 rfl ?_
  refine tt_il2 (q := 2) hc dX9_areBeside_1 rfl ?_
  first | (with_reducible refine chk2 ?_; refine tt_iandN (q := 3) hc dX9_areBeside_2 rfl ?_) | (with_reducible refine chkan ?_; refine tt_iandnN (q := 3) hc dX9_areBeside_2 rfl ?_) | (with_reducible refine chkna ?_; refine tt_inandN (q := 3) hc dX9_areBeside_2 rfl ?_) | refine tt_iand (q := 3) hc dX9_areBeside_2 rfl ?_
  refine tt_cS1 (q := 6) (d' := 1) hc (by first | decide | omega) kmX9_many ml_X9_110 (Nat.le_of_ble_eq_true rfl) dX9_areBeside_3 rfl ?_
  refine c_X9_many ?_
  dsimp only [Option.toList, List.nil_append, List.cons_append]
  refine tt_al0 (q := 7) hc dX9_areBeside_6 rfl ?_
  refine tt_getI (q := 10) hc fl_X9_9 (by first | assumption | exact ⟨by decide, _, rfl, _, rfl⟩) dX9_areBeside_7 rfl ?_
  rw [hz]
  refine tt_iconst (v := nI 1) (q := 11) hc rfl dX9_areBeside_10 rfl ?_
  first | (with_reducible refine chk2 ?_; refine tt_isubN (q := 12) hc (by omega) dX9_areBeside_11 rfl ?_) | refine tt_isub (q := 12) hc dX9_areBeside_11 rfl ?_
  first | (with_reducible refine chk2 ?_; refine tt_icneN (t := 19) (q := 15) hc (by omega) (by omega) dX9_areBeside_12 rfl rfl (fun c_12 => ?_) (fun c_12 => ?_)) | refine tt_icne (t := 19) (q := 15) hc dX9_areBeside_12 rfl rfl (fun c_12 => ?_) (fun c_12 => ?_)
  · refine tt_iconst (v := nI 0) (q := 20) hc rfl dX9_areBeside_19 rfl ?_
    refine tt_retz hX rfl (by first | decide | exact bI_01 _) dX9_areBeside_20 ?_
    first
    | exact qb1 hQ (decide_eq_true c_12)
    | exact qb0 hQ (decide_eq_false c_12)
  · refine tt_iconst (v := nI 1) (q := 16) hc rfl dX9_areBeside_15 rfl ?_
    refine tt_goto (t := 20) hc dX9_areBeside_16 rfl ?_
    refine tt_retz hX rfl (by first | decide | exact bI_01 _) dX9_areBeside_20 ?_
    first
    | exact qb1 hQ (decide_eq_true c_12)
    | exact qb0 hQ (decide_eq_false c_12)
set_option maxHeartbeats 4000000 in
theorem c_X9_isSpan {l : Launch} {t : Nat} {i n : Int32} {xs : List Int32} {ls : Nat → Option (List Int32)} {μ : Mem} {Q : Option Value → Mem → Prop} (hL : ML μ ls) (ht : t < 4) (hx : ls t = some xs) (hQ : Q (some (.int (bI (decide (¬ i < 0 ∧ ¬ n < 0 ∧ i.toNatClampNeg + n.toNatClampNeg ≤ xs.length))))) μ) : CC l 0 mX9_isSpan [.ref 24, .int (nI t), .int i, .int n] μ Q := by
  refine CC.of (M := mX9_isSpan) (by decide +kernel) rfl (fun v h => by simp at h; rcases h with rfl | rfl | rfl | rfl <;> rfl) (Nat.le_of_ble_eq_true rfl) (fun X hX => ?_)
  have hc := hX.cx
  have a73 := HA73
  obtain ⟨x1, e, -⟩ := hL.so ht hx
  refine tt_il2 (q := 1) hc dX9_isSpan_0 rfl ?_
  refine tt_iflt (t := 24) (q := 4) hc dX9_isSpan_1 rfl rfl (fun c_1 => ?_) (fun c_1 => ?_)
  · refine tt_iconst (v := nI 0) (q := 25) hc rfl dX9_isSpan_24 rfl ?_
    refine tt_retz hX rfl (by first | decide | exact bI_01 _) dX9_isSpan_25 ?_
    first
    | exact qb0 hQ (decide_eq_false (fun z => z.1 c_1))
    | exact qb0 hQ (decide_eq_false (fun z => z.2.1 c_5))
    | exact qb0 hQ (decide_eq_false (fun z => z.2.1 (Int32.not_le.mp c_5)))
    | exact qb1 hQ (decide_eq_true ⟨c1, c5, (sub_lt x1 hn hi).mp c_17⟩)
    | exact qb0 hQ (decide_eq_false (fun z => c_17 ((sub_lt x1 hn hi).mpr z.2.2)))
    | exact qb0 hQ (decide_eq_false (fun z => Int32.not_le.mpr c_17 ((sub_lt x1 hn hi).mpr z.2.2)))
    | exact qb1 hQ (decide_eq_true ⟨c1, c5, (sub_lt x1 hn hi).mp (Int32.not_lt.mp c_17)⟩)
  · refine tt_il3 (q := 5) hc dX9_isSpan_4 rfl ?_
    refine tt_iflt (t := 24) (q := 8) hc dX9_isSpan_5 rfl rfl (fun c_5 => ?_) (fun c_5 => ?_)
    · refine tt_iconst (v := nI 0) (q := 25) hc rfl dX9_isSpan_24 rfl ?_
      refine tt_retz hX rfl (by first | decide | exact bI_01 _) dX9_isSpan_25 ?_
      first
      | exact qb0 hQ (decide_eq_false (fun z => z.1 c_1))
      | exact qb0 hQ (decide_eq_false (fun z => z.2.1 c_5))
      | exact qb0 hQ (decide_eq_false (fun z => z.2.1 (Int32.not_le.mp c_5)))
      | exact qb1 hQ (decide_eq_true ⟨c1, c5, (sub_lt x1 hn hi).mp c_17⟩)
      | exact qb0 hQ (decide_eq_false (fun z => c_17 ((sub_lt x1 hn hi).mpr z.2.2)))
      | exact qb0 hQ (decide_eq_false (fun z => Int32.not_le.mpr c_17 ((sub_lt x1 hn hi).mpr z.2.2)))
      | exact qb1 hQ (decide_eq_true ⟨c1, c5, (sub_lt x1 hn hi).mp (Int32.not_lt.mp c_17)⟩)
    · have c5 : ¬ n < 0 := by first | exact c_5 | exact Int32.not_lt.mpr c_5
      have c1 : ¬ i < 0 := c_1
      obtain ⟨i', hi, rfl⟩ := nI_of c1
      obtain ⟨n', hn, rfl⟩ := nI_of c5
      rw [nI_clamp hi, nI_clamp hn] at hQ
      refine tt_il2 (q := 9) hc dX9_isSpan_8 rfl ?_
      refine tt_al0 (q := 10) hc dX9_isSpan_9 rfl ?_
      refine tt_getR (q := 13) hc fl_X9_76 (by first | assumption | exact ⟨by decide, _, rfl, rfl⟩) dX9_isSpan_10 rfl ?_
      refine tt_il1 (q := 14) hc dX9_isSpan_13 rfl ?_
      refine tt_iald (q := 15) hc (by first | assumption | exact ⟨by decide, rfl, by decide⟩) (by omega) dX9_isSpan_14 rfl ?_
      rw [e]
      refine tt_il3 (q := 16) hc dX9_isSpan_15 rfl ?_
      refine tt_isub (q := 17) hc dX9_isSpan_16 rfl ?_
      first | (with_reducible refine chk2 ?_; refine tt_icgtN (t := 24) (q := 20) hc (by omega) (by omega) dX9_isSpan_17 rfl rfl (fun c_17 => ?_) (fun c_17 => ?_)) | refine tt_icgt (t := 24) (q := 20) hc dX9_isSpan_17 rfl rfl (fun c_17 => ?_) (fun c_17 => ?_)
      · refine tt_iconst (v := nI 0) (q := 25) hc rfl dX9_isSpan_24 rfl ?_
        refine tt_retz hX rfl (by first | decide | exact bI_01 _) dX9_isSpan_25 ?_
        first
        | exact qb0 hQ (decide_eq_false (fun z => z.1 c_1))
        | exact qb0 hQ (decide_eq_false (fun z => z.2.1 c_5))
        | exact qb0 hQ (decide_eq_false (fun z => z.2.1 (Int32.not_le.mp c_5)))
        | exact qb1 hQ (decide_eq_true ⟨c1, c5, (sub_lt x1 hn hi).mp c_17⟩)
        | exact qb0 hQ (decide_eq_false (fun z => c_17 ((sub_lt x1 hn hi).mpr z.2.2)))
        | exact qb0 hQ (decide_eq_false (fun z => Int32.not_le.mpr c_17 ((sub_lt x1 hn hi).mpr z.2.2)))
        | exact qb1 hQ (decide_eq_true ⟨c1, c5, (sub_lt x1 hn hi).mp (Int32.not_lt.mp c_17)⟩)
      · refine tt_iconst (v := nI 1) (q := 21) hc rfl dX9_isSpan_20 rfl ?_
        refine tt_goto (t := 25) hc dX9_isSpan_21 rfl ?_
        refine tt_retz hX rfl (by first | decide | exact bI_01 _) dX9_isSpan_25 ?_
        first
        | exact qb0 hQ (decide_eq_false (fun z => z.1 c_1))
        | exact qb0 hQ (decide_eq_false (fun z => z.2.1 c_5))
        | exact qb0 hQ (decide_eq_false (fun z => z.2.1 (Int32.not_le.mp c_5)))
        | exact qb1 hQ (decide_eq_true ⟨c1, c5, (sub_lt x1 hn hi).mp c_17⟩)
        | exact qb0 hQ (decide_eq_false (fun z => c_17 ((sub_lt x1 hn hi).mpr z.2.2)))
        | exact qb0 hQ (decide_eq_false (fun z => Int32.not_le.mpr c_17 ((sub_lt x1 hn hi).mpr z.2.2)))
        | exact qb1 hQ (decide_eq_true ⟨c1, c5, (sub_lt x1 hn hi).mp (Int32.not_lt.mp c_17)⟩)
