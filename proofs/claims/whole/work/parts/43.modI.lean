/-! THE MODEL: common, copy -/
set_option maxHeartbeats 4000000 in
theorem c_X9_common {l : Launch} {v w : Int32} {S : ST} {μ : Mem} {Q : Option Value → Mem → Prop} (hM : MR μ S) (hQ : ∀ μ', frm mL μ μ' → MR μ' S → Q (some (.int (an_common v w S))) μ') : CC l 2 mX9_common [.ref 24, .int v, .int w] μ Q := by
  refine CC.of (M := mX9_common) (by decide +kernel) rfl (fun v h => by simp at h; rcases h with rfl | rfl | rfl <;> rfl) (Nat.le_of_ble_eq_true rfl) (fun X hX => ?_)
  have hc := hX.cx
  obtain ⟨K, B, hs, ks, im, ls, tx, pp⟩ := S
  have a4 := hM.2.2.1
  have q34 := HQ34
  have h := hQ μ frm.rf hM
  dsimp only [an_common] at h
  rcases kpt_iff (v := v) a4.1 with ⟨i, q, hi4, hv, hk, hq, hin⟩ | ⟨hk, hin⟩
  · rcases kpt_iff (v := w) a4.1 with ⟨j, r, hj4, hw, hk2, hr, hin2⟩ | ⟨hk2, hin2⟩
    · rw [two_s hk hk2 hq hr] at h
      obtain ⟨g1, g2, g3⟩ := a4.2.2.1 i q hq
      obtain ⟨k1, k2, k3⟩ := a4.2.2.1 j r hr
      have ai := HAk hi4
      have aj := HAk hj4
      subst hv
      subst hw
      have L : ∀ (n s m : Nat), s + n = 256 → m ≤ s → Q (some (.int (nI (cmn q.2 r.2 n s m)))) μ → TT X 23 [.ref 24, .int (nI i), .int (nI j), .int (nI m), .int (nI s)] [] μ := by
        intro n
        induction n with
        | zero =>
          intro s m hs hm h
          refine tt_il4 (q := 25) hc dX9_common_23 rfl ?_
          refine tt_sipush (v := nI 256) (q := 28) hc (by decide) dX9_common_25 rfl ?_
          first | (with_reducible refine chk2 ?_; refine tt_icgeN (t := 64) (q := 31) hc (by omega) (by omega) dX9_common_28 rfl rfl (fun c_28 => ?_) (fun c_28 => ?_)) | refine tt_icge (t := 64) (q := 31) hc dX9_common_28 rfl rfl (fun c_28 => ?_) (fun c_28 => ?_)
          · refine tt_il3 (q := 65) hc dX9_common_64 rfl ?_
            refine tt_reti hX rfl dX9_common_65 ?_
            exact h
          · omega
        | succ n ih =>
          intro s m hs hm h
          rw [cmn] at h
          refine tt_il4 (q := 25) hc dX9_common_23 rfl ?_
          refine tt_sipush (v := nI 256) (q := 28) hc (by decide) dX9_common_25 rfl ?_
          first | (with_reducible refine chk2 ?_; refine tt_icgeN (t := 64) (q := 31) hc (by omega) (by omega) dX9_common_28 rfl rfl (fun c_28 => ?_) (fun c_28 => ?_)) | refine tt_icge (t := 64) (q := 31) hc dX9_common_28 rfl rfl (fun c_28 => ?_) (fun c_28 => ?_)
          · omega
          · refine tt_al0 (q := 32) hc dX9_common_31 rfl ?_
            refine tt_getR (q := 35) hc fl_X9_51 (by first | assumption | exact ⟨by decide, _, rfl, rfl⟩) dX9_common_32 rfl ?_
            refine tt_il1 (q := 36) hc dX9_common_35 rfl ?_
            refine tt_aald (q := 37) hc (r := _) (by first | assumption | exact ⟨by decide, rfl, by decide⟩) (by decide) (by omega) dX9_common_36 rfl ?_
            refine tt_il4 (q := 39) hc dX9_common_37 rfl ?_
            refine tt_zald (q := 40) hc (by first | assumption | exact ⟨by decide, rfl, by decide⟩) (by omega) dX9_common_39 rfl ?_
            rw [g1 s (by omega)]
            first | (with_reducible refine chkb ?_; refine tt_ifeqB (t := 58) (q := 43) hc dX9_common_40 rfl rfl (fun c_40 => ?_) (fun c_40 => ?_)) | (with_reducible refine chk1 ?_; refine tt_ifeqN (t := 58) (q := 43) hc (by omega) dX9_common_40 rfl rfl (fun c_40 => ?_) (fun c_40 => ?_)) | refine tt_ifeq (t := 58) (q := 43) hc dX9_common_40 rfl rfl (fun c_40 => ?_) (fun c_40 => ?_)
            · first | refine tt_inc4 (q := 61) hc dX9_common_58 rfl (by decide) (incN _) ?_ | refine tt_inc4 (q := 61) hc dX9_common_58 rfl (by decide) rfl ?_
              refine tt_goto (t := 23) hc dX9_common_61 rfl ?_
              first
              | (rw [if_neg (fun z => Bool.false_ne_true (c_40.symm.trans z.1))] at h; exact ih (s + 1) m (by omega) (by omega) h)
              | (rw [if_neg (fun z => Bool.false_ne_true (c_52.symm.trans z.2))] at h; exact ih (s + 1) m (by omega) (by omega) h)
              | (rw [if_pos ⟨c_40, c_52⟩] at h; exact ih (s + 1) (m + 1) (by omega) (by omega) h)
            · refine tt_al0 (q := 44) hc dX9_common_43 rfl ?_
              refine tt_getR (q := 47) hc fl_X9_51 (by first | assumption | exact ⟨by decide, _, rfl, rfl⟩) dX9_common_44 rfl ?_
              refine tt_il2 (q := 48) hc dX9_common_47 rfl ?_
              refine tt_aald (q := 49) hc (r := _) (by first | assumption | exact ⟨by decide, rfl, by decide⟩) (by decide) (by omega) dX9_common_48 rfl ?_
              refine tt_il4 (q := 51) hc dX9_common_49 rfl ?_
              refine tt_zald (q := 52) hc (by first | assumption | exact ⟨by decide, rfl, by decide⟩) (by omega) dX9_common_51 rfl ?_
              rw [k1 s (by omega)]
              first | (with_reducible refine chkb ?_; refine tt_ifeqB (t := 58) (q := 55) hc dX9_common_52 rfl rfl (fun c_52 => ?_) (fun c_52 => ?_)) | (with_reducible refine chk1 ?_; refine tt_ifeqN (t := 58) (q := 55) hc (by omega) dX9_common_52 rfl rfl (fun c_52 => ?_) (fun c_52 => ?_)) | refine tt_ifeq (t := 58) (q := 55) hc dX9_common_52 rfl rfl (fun c_52 => ?_) (fun c_52 => ?_)
              · first | refine tt_inc4 (q := 61) hc dX9_common_58 rfl (by decide) (incN _) ?_ | refine tt_inc4 (q := 61) hc dX9_common_58 rfl (by decide) rfl ?_
                refine tt_goto (t := 23) hc dX9_common_61 rfl ?_
                first
                | (rw [if_neg (fun z => Bool.false_ne_true (c_40.symm.trans z.1))] at h; exact ih (s + 1) m (by omega) (by omega) h)
                | (rw [if_neg (fun z => Bool.false_ne_true (c_52.symm.trans z.2))] at h; exact ih (s + 1) m (by omega) (by omega) h)
                | (rw [if_pos ⟨c_40, c_52⟩] at h; exact ih (s + 1) (m + 1) (by omega) (by omega) h)
              · first | refine tt_inc3 (q := 58) hc dX9_common_55 rfl (by decide) (incN _) ?_ | refine tt_inc3 (q := 58) hc dX9_common_55 rfl (by decide) rfl ?_
                first | refine tt_inc4 (q := 61) hc dX9_common_58 rfl (by decide) (incN _) ?_ | refine tt_inc4 (q := 61) hc dX9_common_58 rfl (by decide) rfl ?_
                refine tt_goto (t := 23) hc dX9_common_61 rfl ?_
                first
                | (rw [if_neg (fun z => Bool.false_ne_true (c_40.symm.trans z.1))] at h; exact ih (s + 1) m (by omega) (by omega) h)
                | (rw [if_neg (fun z => Bool.false_ne_true (c_52.symm.trans z.2))] at h; exact ih (s + 1) m (by omega) (by omega) h)
                | (rw [if_pos ⟨c_40, c_52⟩] at h; exact ih (s + 1) (m + 1) (by omega) (by omega) h)
      refine tt_al0 (q := 1) hc dX9_common_0 rfl ?_
      refine tt_il1 (q := 2) hc dX9_common_1 rfl ?_
      refine tt_cV1 (q := 5) (d' := 1) (ci := 9) hc (by first | decide | omega) kmX9_isKept ml_X9_217 (by first | assumption | exact ⟨by decide, _, rfl⟩) rfl (Nat.le_of_ble_eq_true rfl) dX9_common_2 rfl ?_
      refine c_X9_isKept a4 ?_
      rw [hin]
      dsimp only [Option.toList, List.nil_append, List.cons_append]
      first | (with_reducible refine chkb ?_; refine tt_ifeqB (t := 16) (q := 8) hc dX9_common_5 rfl rfl (fun c_5 => ?_) (fun c_5 => ?_)) | (with_reducible refine chk1 ?_; refine tt_ifeqN (t := 16) (q := 8) hc (by omega) dX9_common_5 rfl rfl (fun c_5 => ?_) (fun c_5 => ?_)) | refine tt_ifeq (t := 16) (q := 8) hc dX9_common_5 rfl rfl (fun c_5 => ?_) (fun c_5 => ?_)
      · exact absurd c_5 (by decide)
      · refine tt_al0 (q := 9) hc dX9_common_8 rfl ?_
        refine tt_il2 (q := 10) hc dX9_common_9 rfl ?_
        refine tt_cV1 (q := 13) (d' := 1) (ci := 9) hc (by first | decide | omega) kmX9_isKept ml_X9_217 (by first | assumption | exact ⟨by decide, _, rfl⟩) rfl (Nat.le_of_ble_eq_true rfl) dX9_common_10 rfl ?_
        refine c_X9_isKept a4 ?_
        rw [hin2]
        dsimp only [Option.toList, List.nil_append, List.cons_append]
        first | (with_reducible refine chkb ?_; refine tt_ifneB (t := 18) (q := 16) hc dX9_common_13 rfl rfl (fun c_13 => ?_) (fun c_13 => ?_)) | (with_reducible refine chk1 ?_; refine tt_ifneN (t := 18) (q := 16) hc (by omega) dX9_common_13 rfl rfl (fun c_13 => ?_) (fun c_13 => ?_)) | refine tt_ifne (t := 18) (q := 16) hc dX9_common_13 rfl rfl (fun c_13 => ?_) (fun c_13 => ?_)
        · refine tt_iconst (v := nI 0) (q := 19) hc rfl dX9_common_18 rfl ?_
          refine tt_is3 (q := 20) hc dX9_common_19 rfl (by decide) ?_
          refine tt_iconst (v := nI 1) (q := 21) hc rfl dX9_common_20 rfl ?_
          refine tt_is4 (q := 23) hc dX9_common_21 rfl (by decide) ?_
          exact L 255 1 0 rfl (Nat.zero_le _) h
        · exact absurd c_13 (by decide)
    · rw [two_r hk2] at h
      refine tt_al0 (q := 1) hc dX9_common_0 rfl ?_
      refine tt_il1 (q := 2) hc dX9_common_1 rfl ?_
      refine tt_cV1 (q := 5) (d' := 1) (ci := 9) hc (by first | decide | omega) kmX9_isKept ml_X9_217 (by first | assumption | exact ⟨by decide, _, rfl⟩) rfl (Nat.le_of_ble_eq_true rfl) dX9_common_2 rfl ?_
      refine c_X9_isKept a4 ?_
      rw [hin]
      dsimp only [Option.toList, List.nil_append, List.cons_append]
      first | (with_reducible refine chkb ?_; refine tt_ifeqB (t := 16) (q := 8) hc dX9_common_5 rfl rfl (fun c_5 => ?_) (fun c_5 => ?_)) | (with_reducible refine chk1 ?_; refine tt_ifeqN (t := 16) (q := 8) hc (by omega) dX9_common_5 rfl rfl (fun c_5 => ?_) (fun c_5 => ?_)) | refine tt_ifeq (t := 16) (q := 8) hc dX9_common_5 rfl rfl (fun c_5 => ?_) (fun c_5 => ?_)
      · exact absurd c_5 (by decide)
      · refine tt_al0 (q := 9) hc dX9_common_8 rfl ?_
        refine tt_il2 (q := 10) hc dX9_common_9 rfl ?_
        refine tt_cV1 (q := 13) (d' := 1) (ci := 9) hc (by first | decide | omega) kmX9_isKept ml_X9_217 (by first | assumption | exact ⟨by decide, _, rfl⟩) rfl (Nat.le_of_ble_eq_true rfl) dX9_common_10 rfl ?_
        refine c_X9_isKept a4 ?_
        rw [hin2]
        dsimp only [Option.toList, List.nil_append, List.cons_append]
        first | (with_reducible refine chkb ?_; refine tt_ifneB (t := 18) (q := 16) hc dX9_common_13 rfl rfl (fun c_13 => ?_) (fun c_13 => ?_)) | (with_reducible refine chk1 ?_; refine tt_ifneN (t := 18) (q := 16) hc (by omega) dX9_common_13 rfl rfl (fun c_13 => ?_) (fun c_13 => ?_)) | refine tt_ifne (t := 18) (q := 16) hc dX9_common_13 rfl rfl (fun c_13 => ?_) (fun c_13 => ?_)
        · exact absurd c_13 (by decide)
        · refine tt_iconst (v := -1) (q := 17) hc rfl dX9_common_16 rfl ?_
          refine tt_reti hX rfl dX9_common_17 ?_
          exact h
  · rw [two_l hk] at h
    refine tt_al0 (q := 1) hc dX9_common_0 rfl ?_
    refine tt_il1 (q := 2) hc dX9_common_1 rfl ?_
    refine tt_cV1 (q := 5) (d' := 1) (ci := 9) hc (by first | decide | omega) kmX9_isKept ml_X9_217 (by first | assumption | exact ⟨by decide, _, rfl⟩) rfl (Nat.le_of_ble_eq_true rfl) dX9_common_2 rfl ?_
    refine c_X9_isKept a4 ?_
    rw [hin]
    dsimp only [Option.toList, List.nil_append, List.cons_append]
    first | (with_reducible refine chkb ?_; refine tt_ifeqB (t := 16) (q := 8) hc dX9_common_5 rfl rfl (fun c_5 => ?_) (fun c_5 => ?_)) | (with_reducible refine chk1 ?_; refine tt_ifeqN (t := 16) (q := 8) hc (by omega) dX9_common_5 rfl rfl (fun c_5 => ?_) (fun c_5 => ?_)) | refine tt_ifeq (t := 16) (q := 8) hc dX9_common_5 rfl rfl (fun c_5 => ?_) (fun c_5 => ?_)
    · refine tt_iconst (v := -1) (q := 17) hc rfl dX9_common_16 rfl ?_
      refine tt_reti hX rfl dX9_common_17 ?_
      exact h
    · exact absurd c_5 (by decide)
