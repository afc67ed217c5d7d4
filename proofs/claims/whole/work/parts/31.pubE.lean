/-! THE CLASS: back, keep, take, kept, chain, alike, common, image -/
def sp_back (S : ST) : Int32 × ST := match S with
  | (K, _, hs, ks, im, ls, tx, pp) => match hs with
    | [] => (-3, S)
    | C :: r => (nI (tot C), (K, C, r, ks, im, ls, tx, pp))
set_option maxHeartbeats 4000000 in
theorem c_X8_back {l : Launch} {S : ST} {μ : Mem} {Q : Option Value → Mem → Prop} (hC : CR μ S) (hQ : ∀ μ', frm cL μ μ' → CR μ' (sp_back S).2 → Q (some (.int (sp_back S).1)) μ') : CC l 4 mX8_back [.ref 0] μ Q := by
  refine CC.of (M := mX8_back) (by decide +kernel) rfl (fun v h => by simp at h; subst h; rfl) (Nat.le_of_ble_eq_true rfl) (fun X hX => ?_)
  have hc := hX.cx
  obtain ⟨K, B, hs, ks, im, ls, tx, pp⟩ := S
  obtain ⟨a1, a2, a3, a4, a5, a6, a7⟩ := id hC
  have b1 := a2.1
  have b2 := a2.2.1
  rw [sp_back] at hQ
  cases hs with
  | nil =>
    refine tt_al0 (q := 1) hc dX8_back_0 rfl ?_
    refine tt_getR (q := 4) hc fl_X8_28 (by first | assumption | exact ⟨by decide, _, rfl, rfl⟩) dX8_back_1 rfl ?_
    refine tt_getI (q := 7) hc fl_X8_202 (by first | assumption | exact ⟨by decide, _, rfl, _, rfl⟩) dX8_back_4 rfl ?_
    rw [b2]
    first | (with_reducible refine chkb ?_; refine tt_ifneB (t := 13) (q := 10) hc dX8_back_7 rfl rfl (fun c_7 => ?_) (fun c_7 => ?_)) | (with_reducible refine chk1 ?_; refine tt_ifneN (t := 13) (q := 10) hc (by omega) dX8_back_7 rfl rfl (fun c_7 => ?_) (fun c_7 => ?_)) | refine tt_ifne (t := 13) (q := 10) hc dX8_back_7 rfl rfl (fun c_7 => ?_) (fun c_7 => ?_)
    · refine tt_al0 (q := 14) hc dX8_back_13 rfl ?_
      refine tt_getR (q := 17) hc fl_X8_28 (by first | assumption | exact ⟨by decide, _, rfl, rfl⟩) dX8_back_14 rfl ?_
      refine tt_al0 (q := 18) hc dX8_back_17 rfl ?_
      refine tt_getR (q := 21) hc fl_X8_12 (by first | assumption | exact ⟨by decide, _, rfl, rfl⟩) dX8_back_18 rfl ?_
      refine tt_cV1 (q := 24) (d' := 2) (ci := 2) hc (by first | decide | omega) kmX2_restore ml_X8_205 (by first | assumption | exact ⟨by decide, _, rfl⟩) rfl (Nat.le_of_ble_eq_true rfl) dX8_back_21 rfl ?_
      refine c_X2_restore ?_
      dsimp only [Option.toList, List.nil_append, List.cons_append]
      refine tt_al0 (q := 25) hc dX8_back_24 rfl ?_
      refine tt_getR (q := 28) hc fl_X8_12 (by first | assumption | exact ⟨by decide, _, rfl, rfl⟩) dX8_back_25 rfl ?_
      refine tt_cV0 (q := 31) (d' := 0) (ci := 0) hc (by first | decide | omega) kmX0_total ml_X8_99 (by first | assumption | exact ⟨by decide, _, rfl⟩) rfl (Nat.le_of_ble_eq_true rfl) dX8_back_28 rfl ?_
      refine c_X0_total ?_
      dsimp only [Option.toList, List.nil_append, List.cons_append]
      refine tt_reti hX rfl dX8_back_31 ?_
      exact hQ
    · refine tt_bipush (v := -3) (q := 12) hc (by decide) dX8_back_10 rfl ?_
      refine tt_reti hX rfl dX8_back_12 ?_
      exact hQ μ frm.rf hC
  | cons C r =>
    dsimp only at hQ
    refine tt_al0 (q := 1) hc dX8_back_0 rfl ?_
    refine tt_getR (q := 4) hc fl_X8_28 (by first | assumption | exact ⟨by decide, _, rfl, rfl⟩) dX8_back_1 rfl ?_
    refine tt_getI (q := 7) hc fl_X8_202 (by first | assumption | exact ⟨by decide, _, rfl, _, rfl⟩) dX8_back_4 rfl ?_
    rw [b2]
    first | (with_reducible refine chkb ?_; refine tt_ifneB (t := 13) (q := 10) hc dX8_back_7 rfl rfl (fun c_7 => ?_) (fun c_7 => ?_)) | (with_reducible refine chk1 ?_; refine tt_ifneN (t := 13) (q := 10) hc (by omega) dX8_back_7 rfl rfl (fun c_7 => ?_) (fun c_7 => ?_)) | refine tt_ifne (t := 13) (q := 10) hc dX8_back_7 rfl rfl (fun c_7 => ?_) (fun c_7 => ?_)
    · refine tt_al0 (q := 14) hc dX8_back_13 rfl ?_
      refine tt_getR (q := 17) hc fl_X8_28 (by first | assumption | exact ⟨by decide, _, rfl, rfl⟩) dX8_back_14 rfl ?_
      refine tt_al0 (q := 18) hc dX8_back_17 rfl ?_
      refine tt_getR (q := 21) hc fl_X8_12 (by first | assumption | exact ⟨by decide, _, rfl, rfl⟩) dX8_back_18 rfl ?_
      refine tt_cV1 (q := 24) (d' := 2) (ci := 2) hc (by first | decide | omega) kmX2_restore ml_X8_205 (by first | assumption | exact ⟨by decide, _, rfl⟩) rfl (Nat.le_of_ble_eq_true rfl) dX8_back_21 rfl ?_
      refine c_X2_restore a2 (fun ν hf hP hR => ?_)
      dsimp only [Option.toList, List.nil_append, List.cons_append]
      refine tt_al0 (q := 25) hc dX8_back_24 rfl ?_
      refine tt_getR (q := 28) hc fl_X8_12 (by first | assumption | exact ⟨by decide, _, rfl, rfl⟩) dX8_back_25 rfl ?_
      refine tt_cV0 (q := 31) (d' := 0) (ci := 0) hc (by first | decide | omega) kmX0_total ml_X8_99 (by first | assumption | exact ⟨by decide, _, rfl⟩) rfl (Nat.le_of_ble_eq_true rfl) dX8_back_28 rfl ?_
      refine c_X0_total (j := 0) (by decide) hR ?_
      dsimp only [Option.toList, List.nil_append, List.cons_append]
      refine tt_reti hX rfl dX8_back_31 ?_
      exact hQ ν (hf.cl (by decide)) ⟨hR, hP, a3.frm hf (by decide), a4.frm hf (by decide) (by decide) (by decide), a5.frm hf (by decide) (by decide), a6.frm hf (by decide) (by decide), a7.frm hf (by decide) (by decide)⟩
    · refine tt_bipush (v := -3) (q := 12) hc (by decide) dX8_back_10 rfl ?_
      refine tt_reti hX rfl dX8_back_12 ?_
      exact hQ
def sp_keep (S : ST) : Int32 × ST := match S with
  | (K, B, hs, ks, im, ls, tx, pp) => if ks.length < 4 then (nI ks.length, (K, B, hs, ks ++ [(K, B)], im, ls, tx, pp)) else (-4, S)
theorem IMc.more {μ : Mem} {im : Option (Nat × HP × List (Nat × HP))} {ks : List (Nat × HP)} {q : Nat × HP} (h : IMc μ im ks) : IMc μ im (ks ++ [q]) := by
  match im, h with
  | none, h => exact h
  | some (K, B, k'), h =>
    refine ⟨h.1, h.2.1, h.2.2.1, ?_⟩
    have e := h.2.2.2
    have hl : k'.length ≤ ks.length := by
      have := congrArg List.length e
      rw [List.length_take] at this
      omega
    rw [List.take_append_of_le_length hl]
    exact e
set_option maxHeartbeats 4000000 in
theorem c_X8_keep {l : Launch} {S : ST} {μ : Mem} {Q : Option Value → Mem → Prop} (hC : CR μ S) (hQ : ∀ μ', frm cL μ μ' → CR μ' (sp_keep S).2 → Q (some (.int (sp_keep S).1)) μ') : CC l 3 mX8_keep [.ref 0] μ Q := by
  refine CC.of (M := mX8_keep) (by decide +kernel) rfl (fun v h => by simp at h; subst h; rfl) (Nat.le_of_ble_eq_true rfl) (fun X hX => ?_)
  have hc := hX.cx
  obtain ⟨K, B, hs, ks, im, ls, tx, pp⟩ := S
  obtain ⟨a1, a2, a3, a4, a5, a6, a7⟩ := id hC
  rw [sp_keep] at hQ
  refine tt_al0 (q := 1) hc dX8_keep_0 rfl ?_
  refine tt_getR (q := 4) hc fl_X8_35 (by first | assumption | exact ⟨by decide, _, rfl, rfl⟩) dX8_keep_1 rfl ?_
  refine tt_al0 (q := 5) hc dX8_keep_4 rfl ?_
  refine tt_getR (q := 8) hc fl_X8_12 (by first | assumption | exact ⟨by decide, _, rfl, rfl⟩) dX8_keep_5 rfl ?_
  refine tt_cV1 (q := 11) (d' := 2) (ci := 5) hc (by first | decide | omega) kmX5_add ml_X8_208 (by first | assumption | exact ⟨by decide, _, rfl⟩) rfl (Nat.le_of_ble_eq_true rfl) dX8_keep_8 rfl ?_
  refine c_X5_add a1 a3 (fun h4 => ?_) (fun h4 ν hf hS => ?_)
  @run 11 {
    br 14 26: exact absurd c_11 (by decide)
    r R1: rw [if_neg (by omega)] at hQ
      exact hQ μ frm.rf hC
  dsimp only [Option.toList, List.nil_append, List.cons_append]
  first | (with_reducible refine chkb ?_; refine tt_ifeqB (t := 26) (q := 14) hc dX8_keep_11 rfl rfl (fun c_11 => ?_) (fun c_11 => ?_)) | (with_reducible refine chk1 ?_; refine tt_ifeqN (t := 26) (q := 14) hc (by omega) dX8_keep_11 rfl rfl (fun c_11 => ?_) (fun c_11 => ?_)) | refine tt_ifeq (t := 26) (q := 14) hc dX8_keep_11 rfl rfl (fun c_11 => ?_) (fun c_11 => ?_)
  · refine tt_bipush (v := -4) (q := 28) hc (by decide) dX8_keep_26 rfl ?_
    refine tt_reti hX rfl dX8_keep_28 ?_
    exact hQ
  · refine tt_al0 (q := 15) hc dX8_keep_14 rfl ?_
    refine tt_getR (q := 18) hc fl_X8_35 (by first | assumption | exact ⟨by decide, _, rfl, rfl⟩) dX8_keep_15 rfl ?_
    refine tt_getI (q := 21) hc fl_X8_211 (by first | assumption | exact ⟨by decide, _, rfl, _, rfl⟩) dX8_keep_18 rfl ?_
    refine tt_iconst (v := nI 1) (q := 22) hc rfl dX8_keep_21 rfl ?_
    first | (with_reducible refine chk2 ?_; refine tt_isubN (q := 23) hc (by omega) dX8_keep_22 rfl ?_) | refine tt_isub (q := 23) hc dX8_keep_22 rfl ?_
    refine tt_goto (t := 28) hc dX8_keep_23 rfl ?_
    refine tt_reti hX rfl dX8_keep_28 ?_
    exact hQ
      rw [if_pos h4] at hQ
      have b2 := hS.2.1
      rw [List.length_append] at b2
      first | (with_reducible refine chkb ?_; refine tt_ifeqB (t := 26) (q := 14) hc dX8_keep_11 rfl rfl (fun c_11 => ?_) (fun c_11 => ?_)) | (with_reducible refine chk1 ?_; refine tt_ifeqN (t := 26) (q := 14) hc (by omega) dX8_keep_11 rfl rfl (fun c_11 => ?_) (fun c_11 => ?_)) | refine tt_ifeq (t := 26) (q := 14) hc dX8_keep_11 rfl rfl (fun c_11 => ?_) (fun c_11 => ?_)
      · refine tt_bipush (v := -4) (q := 28) hc (by decide) dX8_keep_26 rfl ?_
        refine tt_reti hX rfl dX8_keep_28 ?_
        exact hQ ν (hf.cl (by decide)) ⟨a1.frm hf (by decide) (by decide), a2.frm hf (by decide), hS, (a4.frm hf (by decide) (by decide) (by decide)).more, a5.frm hf (by decide) (by decide), a6.frm hf (by decide) (by decide), a7.frm hf (by decide) (by decide)⟩
      · refine tt_al0 (q := 15) hc dX8_keep_14 rfl ?_
        refine tt_getR (q := 18) hc fl_X8_35 (by first | assumption | exact ⟨by decide, _, rfl, rfl⟩) dX8_keep_15 rfl ?_
        refine tt_getI (q := 21) hc fl_X8_211 (by first | assumption | exact ⟨by decide, _, rfl, _, rfl⟩) dX8_keep_18 rfl ?_
        refine tt_iconst (v := nI 1) (q := 22) hc rfl dX8_keep_21 rfl ?_
        rw [show ν 4 1 = nI (ks.length + 1) from b2]
        first | (with_reducible refine chk2 ?_; refine tt_isubN (q := 23) hc (by omega) dX8_keep_22 rfl ?_) | refine tt_isub (q := 23) hc dX8_keep_22 rfl ?_
        refine tt_goto (t := 28) hc dX8_keep_23 rfl ?_
        refine tt_reti hX rfl dX8_keep_28 ?_
        exact hQ ν (hf.cl (by decide)) ⟨a1.frm hf (by decide) (by decide), a2.frm hf (by decide), hS, (a4.frm hf (by decide) (by decide) (by decide)).more, a5.frm hf (by decide) (by decide), a6.frm hf (by decide) (by decide), a7.frm hf (by decide) (by decide)⟩
    end C1: skip
  }
