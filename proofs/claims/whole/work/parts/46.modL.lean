/-! THE MODEL: spelling -/
theorem HA72 : HA 72 2 1280 := ⟨by decide, rfl, by decide⟩
set_option maxHeartbeats 4000000 in
theorem c_X9_areBeside {l : Launch} {x y K : Nat} {μ : Mem} {Q : Option Value → Mem → Prop} (hK : K = 3 ∨ K = 4) (hz : μ 24 0 = nI K) (hx : x < 256) (hQ : Q (some (.int (bI (decide (pop (x &&& y) = K - 1))))) μ) : CC l 2 mX9_areBeside [.ref 24, .int (nI x), .int (nI y)] μ Q := by
  refine CC.of (M := mX9_areBeside) (by decide +kernel) rfl (fun v h => by simp at h; rcases h with rfl | rfl | rfl <;> rfl) (Nat.le_of_ble_eq_true rfl) (fun X hX => ?_)
  have hc := hX.cx
  have ha := and_lt (a := x) (b := y) hx
  have hp := pop_le (x &&& y) ha
  refine tt_il1 (q := 1) hc dX9_areBeside_0 rfl ?_
  refine tt_il2 (q := 2) hc dX9_areBeside_1 rfl ?_
  first | (with_reducible refine chk2 ?_; refine tt_iandN (q := 3) hc dX9_areBeside_2 rfl ?_) | (with_reducible refine chkan ?_; refine tt_iandnN (q := 3) hc dX9_areBeside_2 rfl ?_) | (with_reducible refine chkna ?_; refine tt_inandN (q := 3) hc dX9_areBeside_2 rfl ?_) | refine tt_iand (q := 3) hc dX9_areBeside_2 rfl ?_
  refine tt_cS1 (q := 6) (d' := 1) hc (by first | decide | omega) kmX9_many ml_X9_110 (Nat.le_of_ble_eq_true rfl) dX9_areBeside_3 rfl ?_
  refine c_X9_many ?_
  dsimp only [Option.toList, List.nil_append, List.cons_append]
  refine tt_al0 (q := 7) hc dX9_areBeside_6 rfl ?_
  refine tt_getI (q := 10) hc fl_X9_9 (by first | assumption | exact ⟨by decide, _, rfl, _, rfl⟩) dX9_areBeside_7 rfl ?_
  rw [hz]
  refine tt_iconst (v := nI 1) (q := 11) hc rfl dX9_areBeside_10 rfl ?_
  first | (with_reducible refine chk2 ?_; refine tt_isubN (q := 12) hc (by omega) dX9_areBeside_11 rfl ?_) | refine tt_isub (q := 12) hc dX9_areBeside_11 rfl ?_
  first | (with_reducible refine chk2 ?_; refine tt_icneN (t := 19) (q := 15) hc (by omega) (by omega) dX9_areBeside_12 rfl rfl (fun c_12 => ?_) (fun c_12 => ?_)) | refine tt_icne (t := 19) (q := 15) hc dX9_areBeside_12 rfl rfl (fun c_12 => ?_) (fun c_12 => ?_)
  · refine tt_iconst (v := nI 0) (q := 20) hc rfl dX9_areBeside_19 rfl ?_
    refine tt_retz hX rfl (by first | decide | exact bI_01 _) dX9_areBeside_20 ?_
    first
    | exact qb1 hQ (decide_eq_true c_12)
    | exact qb0 hQ (decide_eq_false c_12)
  · refine tt_iconst (v := nI 1) (q := 16) hc rfl dX9_areBeside_15 rfl ?_
    refine tt_goto (t := 20) hc dX9_areBeside_16 rfl ?_
    refine tt_retz hX rfl (by first | decide | exact bI_01 _) dX9_areBeside_20 ?_
    first
    | exact qb1 hQ (decide_eq_true c_12)
    | exact qb0 hQ (decide_eq_false c_12)
