/-! THE CLASS: back, keep, take, kept, chain, alike, common, image -/
def sp_back (S : ST) : Int32 × ST := match S with
  | (K, _, hs, ks, im, ls, tx, pp) => match hs with
    | [] => (-3, S)
    | C :: r => (nI (tot C), (K, C, r, ks, im, ls, tx, pp))
set_option maxHeartbeats 4000000 in
theorem c_X8_back {l : Launch} {S : ST} {μ : Mem} {Q : Option Value → Mem → Prop} (hC : CR μ S) (hQ : ∀ μ', frm cL μ μ' → CR μ' (sp_back S).2 → Q (some (.int (sp_back S).1)) μ') : CC l 4 mX8_back [.ref 0] μ Q := by
  refine CC.of (M := mX8_back) (by decide +kernel) rfl (fun v h => by simp at h; subst h; rfl) (Nat.le_of_ble_eq_true rfl) (fun X hX => ?_)
  have hc := hX.cx
  obtain ⟨K, B, hs, ks, im, ls, tx, pp⟩ := S
  obtain ⟨a1, a2, a3, a4, a5, a6, a7⟩ := id hC
  have b1 := a2.1
  have b2 := a2.2.1
  dsimp only [sp_back] at hQ
  cases hs with
  | nil =>
    refine tt_al0 (q := 1) hc dX8_back_0 rfl ?_
    refine tt_getR (q := 4) hc fl_X8_28 (by first | assumption | exact ⟨by decide, _, rfl, rfl⟩) dX8_back_1 rfl ?_
    refine tt_getI (q := 7) hc fl_X8_202 (by first | assumption | exact ⟨by decide, _, rfl, _, rfl⟩) dX8_back_4 rfl ?_
    rw [b2]
    first | (with_reducible refine chkb ?_; refine tt_ifneB (t := 13) (q := 10) hc dX8_back_7 rfl rfl (fun c_7 => ?_) (fun c_7 => ?_)) | (with_reducible refine chk1 ?_; refine tt_ifneN (t := 13) (q := 10) hc (by omega) dX8_back_7 rfl rfl (fun c_7 => ?_) (fun c_7 => ?_)) | refine tt_ifne (t := 13) (q := 10) hc dX8_back_7 rfl rfl (fun c_7 => ?_) (fun c_7 => ?_)
    · exact absurd c_7 (Nat.lt_irrefl 0)
    · refine tt_bipush (v := -3) (q := 12) hc (by decide) dX8_back_10 rfl ?_
      refine tt_reti hX rfl dX8_back_12 ?_
      exact hQ μ frm.rf hC
  | cons C r =>
    dsimp only at hQ
    refine tt_al0 (q := 1) hc dX8_back_0 rfl ?_
    refine tt_getR (q := 4) hc fl_X8_28 (by first | assumption | exact ⟨by decide, _, rfl, rfl⟩) dX8_back_1 rfl ?_
    refine tt_getI (q := 7) hc fl_X8_202 (by first | assumption | exact ⟨by decide, _, rfl, _, rfl⟩) dX8_back_4 rfl ?_
    rw [b2]
    first | (with_reducible refine chkb ?_; refine tt_ifneB (t := 13) (q := 10) hc dX8_back_7 rfl rfl (fun c_7 => ?_) (fun c_7 => ?_)) | (with_reducible refine chk1 ?_; refine tt_ifneN (t := 13) (q := 10) hc (by omega) dX8_back_7 rfl rfl (fun c_7 => ?_) (fun c_7 => ?_)) | refine tt_ifne (t := 13) (q := 10) hc dX8_back_7 rfl rfl (fun c_7 => ?_) (fun c_7 => ?_)
    · refine tt_al0 (q := 14) hc dX8_back_13 rfl ?_
      refine tt_getR (q := 17) hc fl_X8_28 (by first | assumption | exact ⟨by decide, _, rfl, rfl⟩) dX8_back_14 rfl ?_
      refine tt_al0 (q := 18) hc dX8_back_17 rfl ?_
      refine tt_getR (q := 21) hc fl_X8_12 (by first | assumption | exact ⟨by decide, _, rfl, rfl⟩) dX8_back_18 rfl ?_
      refine tt_cV1 (q := 24) (d' := 2) (ci := 2) hc (by first | decide | omega) kmX2_restore ml_X8_205 (by first | assumption | exact ⟨by decide, _, rfl⟩) rfl (Nat.le_of_ble_eq_true rfl) dX8_back_21 rfl ?_
      refine c_X2_restore a2 (fun ν hf hP hR => ?_)
      dsimp only [Option.toList, List.nil_append, List.cons_append]
      refine tt_al0 (q := 25) hc dX8_back_24 rfl ?_
      refine tt_getR (q := 28) hc fl_X8_12 (by first | assumption | exact ⟨by decide, _, rfl, rfl⟩) dX8_back_25 rfl ?_
      refine tt_cV0 (q := 31) (d' := 0) (ci := 0) hc (by first | decide | omega) kmX0_total ml_X8_99 (by first | assumption | exact ⟨by decide, _, rfl⟩) rfl (Nat.le_of_ble_eq_true rfl) dX8_back_28 rfl ?_
      refine c_X0_total (j := 0) (by decide) hR ?_
      dsimp only [Option.toList, List.nil_append, List.cons_append]
      refine tt_reti hX rfl dX8_back_31 ?_
      exact hQ ν (hf.cl (by decide)) ⟨hR, hP, a3.frm hf (by decide), a4.frm hf (by decide) (by decide) (by decide), a5.frm hf (by decide) (by decide), a6.frm hf (by decide) (by decide), a7.frm hf (by decide) (by decide)⟩
    · exact absurd c_7 (Nat.succ_ne_zero _)
def sp_keep (S : ST) : Int32 × ST := match S with
  | (K, B, hs, ks, im, ls, tx, pp) => if ks.length < 4 then (nI ks.length, (K, B, hs, ks ++ [(K, B)], im, ls, tx, pp)) else (-4, S)
theorem IMc.more {μ : Mem} {im : Option (Nat × HP × List (Nat × HP))} {ks : List (Nat × HP)} {q : Nat × HP} (h : IMc μ im ks) : IMc μ im (ks ++ [q]) := by
  match im, h with
  | none, h => exact h
  | some (K, B, k'), h =>
    refine ⟨h.1, h.2.1, h.2.2.1, ?_⟩
    have e := h.2.2.2
    have hl : k'.length ≤ ks.length := by
      have := congrArg List.length e
      rw [List.length_take] at this
      omega
    rw [List.take_append_of_le_length hl]
    exact e
set_option maxHeartbeats 4000000 in
theorem c_X8_keep {l : Launch} {S : ST} {μ : Mem} {Q : Option Value → Mem → Prop} (hC : CR μ S) (hQ : ∀ μ', frm cO μ μ' → CR μ' (sp_keep S).2 → Q (some (.int (sp_keep S).1)) μ') : CC l 3 mX8_keep [.ref 0] μ Q := by
  refine CC.of (M := mX8_keep) (by decide +kernel) rfl (fun v h => by simp at h; subst h; rfl) (Nat.le_of_ble_eq_true rfl) (fun X hX => ?_)
  have hc := hX.cx
  obtain ⟨K, B, hs, ks, im, ls, tx, pp⟩ := S
  obtain ⟨a1, a2, a3, a4, a5, a6, a7⟩ := id hC
  rw [sp_keep] at hQ
  have F : ∀ ν, 4 ≤ ks.length → ν = μ → TT X 11 [.ref 0] [.int (bI false)] ν := by
    intro ν h4 e
    subst e
    first | (with_reducible refine chkb ?_; refine tt_ifeqB (t := 26) (q := 14) hc dX8_keep_11 rfl rfl (fun c_11 => ?_) (fun c_11 => ?_)) | (with_reducible refine chk1 ?_; refine tt_ifeqN (t := 26) (q := 14) hc (by omega) dX8_keep_11 rfl rfl (fun c_11 => ?_) (fun c_11 => ?_)) | refine tt_ifeq (t := 26) (q := 14) hc dX8_keep_11 rfl rfl (fun c_11 => ?_) (fun c_11 => ?_)
    · refine tt_bipush (v := -4) (q := 28) hc (by decide) dX8_keep_26 rfl ?_
      refine tt_reti hX rfl dX8_keep_28 ?_
      rw [if_neg (by omega)] at hQ
      exact hQ ν frm.rf hC
    · exact absurd c_11 (by decide)
  have T : ∀ ν, ks.length < 4 → frm shelfL μ ν → SR ν (ks ++ [(K, B)]) → TT X 11 [.ref 0] [.int (bI true)] ν := by
    intro ν h4 hf hS
    rw [if_pos h4] at hQ
    have b2 := hS.2.1
    rw [List.length_append] at b2
    first | (with_reducible refine chkb ?_; refine tt_ifeqB (t := 26) (q := 14) hc dX8_keep_11 rfl rfl (fun c_11 => ?_) (fun c_11 => ?_)) | (with_reducible refine chk1 ?_; refine tt_ifeqN (t := 26) (q := 14) hc (by omega) dX8_keep_11 rfl rfl (fun c_11 => ?_) (fun c_11 => ?_)) | refine tt_ifeq (t := 26) (q := 14) hc dX8_keep_11 rfl rfl (fun c_11 => ?_) (fun c_11 => ?_)
    · exact absurd c_11 (by decide)
    · refine tt_al0 (q := 15) hc dX8_keep_14 rfl ?_
      refine tt_getR (q := 18) hc fl_X8_35 (by first | assumption | exact ⟨by decide, _, rfl, rfl⟩) dX8_keep_15 rfl ?_
      refine tt_getI (q := 21) hc fl_X8_211 (by first | assumption | exact ⟨by decide, _, rfl, _, rfl⟩) dX8_keep_18 rfl ?_
      rw [show ν 4 1 = nI (ks.length + 1) from b2]
      refine tt_iconst (v := nI 1) (q := 22) hc rfl dX8_keep_21 rfl ?_
      first | (with_reducible refine chk2 ?_; refine tt_isubN (q := 23) hc (by omega) dX8_keep_22 rfl ?_) | refine tt_isub (q := 23) hc dX8_keep_22 rfl ?_
      refine tt_goto (t := 28) hc dX8_keep_23 rfl ?_
      refine tt_reti hX rfl dX8_keep_28 ?_
      exact hQ ν (hf.co (by decide)) ⟨a1.frm hf (by decide) (by decide), a2.frm hf (by decide), hS, (a4.frm hf (by decide) (by decide) (by decide)).more, a5.frm hf (by decide) (by decide), a6.frm hf (by decide) (by decide), a7.frm hf (by decide) (by decide)⟩
  refine tt_al0 (q := 1) hc dX8_keep_0 rfl ?_
  refine tt_getR (q := 4) hc fl_X8_35 (by first | assumption | exact ⟨by decide, _, rfl, rfl⟩) dX8_keep_1 rfl ?_
  refine tt_al0 (q := 5) hc dX8_keep_4 rfl ?_
  refine tt_getR (q := 8) hc fl_X8_12 (by first | assumption | exact ⟨by decide, _, rfl, rfl⟩) dX8_keep_5 rfl ?_
  refine tt_cV1 (q := 11) (d' := 2) (ci := 5) hc (by first | decide | omega) kmX5_add ml_X8_208 (by first | assumption | exact ⟨by decide, _, rfl⟩) rfl (Nat.le_of_ble_eq_true rfl) dX8_keep_8 rfl ?_
  refine c_X5_add a1 a3 (fun h4 => F μ h4 rfl) (fun h4 ν hf hS => ?_)
  dsimp only [Option.toList, List.nil_append, List.cons_append]
  exact T ν h4 hf hS
theorem kpt_get {ks : List (Nat × HP)} {v : Int32} {i : Nat} (h4 : ks.length ≤ 4) (h : kpt ks v = some i) : ∃ q, ks[i]? = some q ∧ i < 4 := by
  have hi := (kpt_some h4 h).1
  exact ⟨_, List.getElem?_eq_getElem hi, by omega⟩
def sp_take (v : Int32) (S : ST) : Int32 × ST := match S with
  | (K, B, hs, ks, im, ls, tx, pp) => match kpt ks v with
    | none => (-1, S)
    | some i => match ks[i]? with
      | none => (-1, S)
      | some q => (nI (tot q.2), (q.1, q.2, [], ks, im, ls, tx, pp))
set_option maxHeartbeats 4000000 in
theorem c_X8_take {l : Launch} {v : Int32} {S : ST} {μ : Mem} {Q : Option Value → Mem → Prop} (hC : CR μ S) (hQ : ∀ μ', frm cO μ μ' → CR μ' (sp_take v S).2 → Q (some (.int (sp_take v S).1)) μ') : CC l 3 mX8_take [.ref 0, .int v] μ Q := by
  refine CC.of (M := mX8_take) (by decide +kernel) rfl (fun v h => by simp at h; rcases h with rfl | rfl <;> rfl) (Nat.le_of_ble_eq_true rfl) (fun X hX => ?_)
  have hc := hX.cx
  obtain ⟨K, B, hs, ks, im, ls, tx, pp⟩ := S
  obtain ⟨a1, a2, a3, a4, a5, a6, a7⟩ := id hC
  dsimp only [sp_take] at hQ
  cases hk : kpt ks v with
  | none =>
    rw [hk] at hQ
    refine tt_al0 (q := 1) hc dX8_take_0 rfl ?_
    refine tt_getR (q := 4) hc fl_X8_35 (by first | assumption | exact ⟨by decide, _, rfl, rfl⟩) dX8_take_1 rfl ?_
    refine tt_il1 (q := 5) hc dX8_take_4 rfl ?_
    refine tt_cV1 (q := 8) (d' := 0) (ci := 5) hc (by first | decide | omega) kmX5_at ml_X8_214 (by first | assumption | exact ⟨by decide, _, rfl⟩) rfl (Nat.le_of_ble_eq_true rfl) dX8_take_5 rfl ?_
    refine c_X5_at a3 ?_
    rw [hk, kptV]
    dsimp only [Option.toList, List.nil_append, List.cons_append]
    refine tt_as2N (q := 9) hc dX8_take_8 rfl (by decide) ?_
    refine tt_al2N (q := 10) hc dX8_take_9 rfl ?_
    refine tt_ifnonnullN (q := 13) hc dX8_take_10 rfl ?_
    refine tt_iconst (v := -1) (q := 14) hc rfl dX8_take_13 rfl ?_
    refine tt_reti hX rfl dX8_take_14 ?_
    exact hQ μ frm.rf hC
  | some i =>
    obtain ⟨q, hq, hi4⟩ := kpt_get a3.1 hk
    have hRi := a3.2.2 i q hq
    rw [hk] at hQ
    dsimp only at hQ
    rw [hq] at hQ
    refine tt_al0 (q := 1) hc dX8_take_0 rfl ?_
    refine tt_getR (q := 4) hc fl_X8_35 (by first | assumption | exact ⟨by decide, _, rfl, rfl⟩) dX8_take_1 rfl ?_
    refine tt_il1 (q := 5) hc dX8_take_4 rfl ?_
    refine tt_cV1 (q := 8) (d' := 0) (ci := 5) hc (by first | decide | omega) kmX5_at ml_X8_214 (by first | assumption | exact ⟨by decide, _, rfl⟩) rfl (Nat.le_of_ble_eq_true rfl) dX8_take_5 rfl ?_
    refine c_X5_at a3 ?_
    rw [hk, kptV]
    dsimp only [Option.toList, List.nil_append, List.cons_append]
    refine tt_as2 (q := 9) hc dX8_take_8 rfl (by decide) ?_
    refine tt_al2 (q := 10) hc dX8_take_9 rfl ?_
    refine tt_ifnonnull (t := 15) hc dX8_take_10 rfl ?_
    refine tt_al0 (q := 16) hc dX8_take_15 rfl ?_
    refine tt_getR (q := 19) hc fl_X8_12 (by first | assumption | exact ⟨by decide, _, rfl, rfl⟩) dX8_take_16 rfl ?_
    refine tt_al2 (q := 20) hc dX8_take_19 rfl ?_
    refine tt_cV1 (q := 23) (d' := 1) (ci := 0) hc (by first | decide | omega) kmX0_copyOf ml_X8_170 (by first | assumption | exact ⟨by decide, _, rfl⟩) rfl (Nat.le_of_ble_eq_true rfl) dX8_take_20 rfl ?_
    refine c_X0_copyOf (j := 0) (j2 := 12 + i) (by decide) (by omega) (by omega) hRi (fun ν hf hR => ?_)
    have hf : frm [40, 41] μ ν := hf
    dsimp only [Option.toList, List.nil_append, List.cons_append]
    refine tt_al0 (q := 24) hc dX8_take_23 rfl ?_
    refine tt_getR (q := 27) hc fl_X8_28 (by first | assumption | exact ⟨by decide, _, rfl, rfl⟩) dX8_take_24 rfl ?_
    refine tt_cV0 (q := 30) (d' := 0) (ci := 2) hc (by first | decide | omega) kmX2_forget ml_X8_89 (by first | assumption | exact ⟨by decide, _, rfl⟩) rfl (Nat.le_of_ble_eq_true rfl) dX8_take_27 rfl ?_
    refine c_X2_forget (a2.frm hf (by decide)) (fun ν1 hf1 hP => ?_)
    have hR1 := hR.frm hf1 (by decide) (by decide)
    dsimp only [Option.toList, List.nil_append, List.cons_append]
    refine tt_al0 (q := 31) hc dX8_take_30 rfl ?_
    refine tt_getR (q := 34) hc fl_X8_12 (by first | assumption | exact ⟨by decide, _, rfl, rfl⟩) dX8_take_31 rfl ?_
    refine tt_cV0 (q := 37) (d' := 0) (ci := 0) hc (by first | decide | omega) kmX0_total ml_X8_99 (by first | assumption | exact ⟨by decide, _, rfl⟩) rfl (Nat.le_of_ble_eq_true rfl) dX8_take_34 rfl ?_
    refine c_X0_total (j := 0) (by decide) hR1 ?_
    dsimp only [Option.toList, List.nil_append, List.cons_append]
    refine tt_reti hX rfl dX8_take_37 ?_
    exact hQ ν1 ((hf.co (by decide)).tr (hf1.co (by decide))) ⟨hR1, hP _, (a3.frm hf (by decide)).frm hf1 (by decide), (a4.frm hf (by decide) (by decide) (by decide)).frm hf1 (by decide) (by decide) (by decide), (a5.frm hf (by decide) (by decide)).frm hf1 (by decide) (by decide), (a6.frm hf (by decide) (by decide)).frm hf1 (by decide) (by decide), (a7.frm hf (by decide) (by decide)).frm hf1 (by decide) (by decide)⟩
def kpI (K : Nat) (B : HP) (w : Int32) : Int32 := if w = nI 0 then nI K else if w = nI 1 then nI (tot B) else if w = nI 2 then nI 100 + euI B else if w = nI 3 then nI (wls_ K B) else -1
def an_kept (v w : Int32) (S : ST) : Int32 := match S with
  | (_, _, _, ks, _, _, _, _) => match kpt ks v with
    | none => -1
    | some i => match ks[i]? with
      | none => -1
      | some q => kpI q.1 q.2 w
set_option maxHeartbeats 4000000 in
theorem c_X8_kept {l : Launch} {v w : Int32} {S : ST} {μ : Mem} {Q : Option Value → Mem → Prop} (hC : CR μ S) (hQ : ∀ μ', frm cL μ μ' → CR μ' S → Q (some (.int (an_kept v w S))) μ') : CC l 3 mX8_kept [.ref 0, .int v, .int w] μ Q := by
  refine CC.of (M := mX8_kept) (by decide +kernel) rfl (fun v h => by simp at h; rcases h with rfl | rfl | rfl <;> rfl) (Nat.le_of_ble_eq_true rfl) (fun X hX => ?_)
  have hc := hX.cx
  obtain ⟨K, B, hs, ks, im, ls, tx, pp⟩ := S
  obtain ⟨a1, a2, a3, a4, a5, a6, a7⟩ := id hC
  have h := hQ μ frm.rf hC
  dsimp only [an_kept] at h
  cases hk : kpt ks v with
  | none =>
    rw [hk] at h
    refine tt_al0 (q := 1) hc dX8_kept_0 rfl ?_
    refine tt_getR (q := 4) hc fl_X8_35 (by first | assumption | exact ⟨by decide, _, rfl, rfl⟩) dX8_kept_1 rfl ?_
    refine tt_il1 (q := 5) hc dX8_kept_4 rfl ?_
    refine tt_cV1 (q := 8) (d' := 0) (ci := 5) hc (by first | decide | omega) kmX5_at ml_X8_214 (by first | assumption | exact ⟨by decide, _, rfl⟩) rfl (Nat.le_of_ble_eq_true rfl) dX8_kept_5 rfl ?_
    refine c_X5_at a3 ?_
    rw [hk, kptV]
    dsimp only [Option.toList, List.nil_append, List.cons_append]
    refine tt_as3N (q := 9) hc dX8_kept_8 rfl (by decide) ?_
    refine tt_al3N (q := 10) hc dX8_kept_9 rfl ?_
    refine tt_ifnonnullN (q := 13) hc dX8_kept_10 rfl ?_
    refine tt_iconst (v := -1) (q := 14) hc rfl dX8_kept_13 rfl ?_
    refine tt_reti hX rfl dX8_kept_14 ?_
    exact h
  | some i =>
    obtain ⟨q, hq, hi4⟩ := kpt_get a3.1 hk
    have hRi := a3.2.2 i q hq
    have hwO : HO (40 + 2 * (12 + i)) 0 := ⟨by omega, _, sh_ho (by omega)⟩
    have hwI : HI (40 + 2 * (12 + i)) 0 0 := ⟨by omega, _, sh_ho (by omega), _, rfl⟩
    have e1 := hRi.2.1
    rw [hk] at h
    dsimp only at h
    rw [hq] at h
    have h : Q (some (.int (kpI q.1 q.2 w))) μ := h
    have SW : TT X 16 [.ref 0, .int v, .int w, .ref (40 + 2 * (12 + i))] [.int w] μ := by
      rcases sw_n w 4 (by decide) with ⟨j, hj, rfl⟩ | hout
      · rcases (show j = 0 ∨ j = 1 ∨ j = 2 ∨ j = 3 by omega) with rfl | rfl | rfl | rfl
        · refine tt_tswI (t := 48) hc dX8_kept_16 (by decide) (by decide) rfl rfl ?_
          refine tt_al3 (q := 49) hc dX8_kept_48 rfl ?_
          refine tt_getI (q := 52) hc fl_X8_81 (by first | assumption | exact ⟨by decide, _, rfl, _, rfl⟩) dX8_kept_49 rfl ?_
          rw [e1]
          refine tt_reti hX rfl dX8_kept_52 ?_
          exact h
        · refine tt_tswI (t := 53) hc dX8_kept_16 (by decide) (by decide) rfl rfl ?_
          refine tt_al3 (q := 54) hc dX8_kept_53 rfl ?_
          refine tt_cV0 (q := 57) (d' := 0) (ci := 0) hc (by first | decide | omega) kmX0_total ml_X8_99 (by first | assumption | exact ⟨by decide, _, rfl⟩) rfl (Nat.le_of_ble_eq_true rfl) dX8_kept_54 rfl ?_
          refine c_X0_total (j := 12 + i) (by omega) hRi ?_
          dsimp only [Option.toList, List.nil_append, List.cons_append]
          refine tt_reti hX rfl dX8_kept_57 ?_
          exact h
        · refine tt_tswI (t := 58) hc dX8_kept_16 (by decide) (by decide) rfl rfl ?_
          refine tt_bipush (v := nI 100) (q := 60) hc (by decide) dX8_kept_58 rfl ?_
          refine tt_al3 (q := 61) hc dX8_kept_60 rfl ?_
          refine tt_cV0 (q := 64) (d' := 2) (ci := 0) hc (by first | decide | omega) kmX0_euler ml_X8_126 (by first | assumption | exact ⟨by decide, _, rfl⟩) rfl (Nat.le_of_ble_eq_true rfl) dX8_kept_61 rfl ?_
          refine c_X0_euler (j := 12 + i) (by omega) hRi ?_
          dsimp only [Option.toList, List.nil_append, List.cons_append]
          first | (with_reducible refine chk2 ?_; refine tt_iaddN (q := 65) hc dX8_kept_64 rfl ?_) | refine tt_iadd (q := 65) hc dX8_kept_64 rfl ?_
          refine tt_reti hX rfl dX8_kept_65 ?_
          exact h
        · refine tt_tswI (t := 66) hc dX8_kept_16 (by decide) (by decide) rfl rfl ?_
          refine tt_al3 (q := 67) hc dX8_kept_66 rfl ?_
          refine tt_cV0 (q := 70) (d' := 2) (ci := 0) hc (by first | decide | omega) kmX0_walls ml_X8_119 (by first | assumption | exact ⟨by decide, _, rfl⟩) rfl (Nat.le_of_ble_eq_true rfl) dX8_kept_67 rfl ?_
          refine c_X0_walls (j := 12 + i) (by omega) hRi ?_
          dsimp only [Option.toList, List.nil_append, List.cons_append]
          refine tt_reti hX rfl dX8_kept_70 ?_
          exact h
      · refine tt_tswO (t := 71) hc dX8_kept_16 hout rfl ?_
        refine tt_iconst (v := -1) (q := 72) hc rfl dX8_kept_71 rfl ?_
        refine tt_reti hX rfl dX8_kept_72 ?_
        rw [kpI, if_neg (nI_neq (by omega) (by decide) hout), if_neg (nI_neq (by omega) (by decide) hout), if_neg (nI_neq (by omega) (by decide) hout), if_neg (nI_neq (by omega) (by decide) hout)] at h
        exact h
    refine tt_al0 (q := 1) hc dX8_kept_0 rfl ?_
    refine tt_getR (q := 4) hc fl_X8_35 (by first | assumption | exact ⟨by decide, _, rfl, rfl⟩) dX8_kept_1 rfl ?_
    refine tt_il1 (q := 5) hc dX8_kept_4 rfl ?_
    refine tt_cV1 (q := 8) (d' := 0) (ci := 5) hc (by first | decide | omega) kmX5_at ml_X8_214 (by first | assumption | exact ⟨by decide, _, rfl⟩) rfl (Nat.le_of_ble_eq_true rfl) dX8_kept_5 rfl ?_
    refine c_X5_at a3 ?_
    rw [hk, kptV]
    dsimp only [Option.toList, List.nil_append, List.cons_append]
    refine tt_as3 (q := 9) hc dX8_kept_8 rfl (by decide) ?_
    refine tt_al3 (q := 10) hc dX8_kept_9 rfl ?_
    refine tt_ifnonnull (t := 15) hc dX8_kept_10 rfl ?_
    refine tt_il2 (q := 16) hc dX8_kept_15 rfl ?_
    exact SW
theorem nolow {i : Int32} (h : i < 0) (h1 : ¬ i < -1) (h2 : ¬ i = -1) : False := by
  have e1 := Int32.lt_iff_toInt_lt.mp h
  have e2 : ¬ i.toInt < (-1 : Int32).toInt := fun z => h1 (Int32.lt_iff_toInt_lt.mpr z)
  have e3 : ¬ i.toInt = (-1 : Int32).toInt := fun z => h2 (Int32.toInt_inj.mp z)
  have z0 : (0 : Int32).toInt = 0 := by decide
  have z1 : (-1 : Int32).toInt = -1 := by decide
  rw [z0] at e1
  rw [z1] at e2 e3
  omega
theorem no12 {w : Int32} (h1 : ¬ w = nI 1) (h2 : ¬ w = nI 2) : ¬ inB w (nI 1) (nI 2) = true := fun z => by
  obtain ⟨n, ha, hb, rfl⟩ := inB_t (by decide) (by decide) z
  rcases (show n = 1 ∨ n = 2 by omega) with rfl | rfl
  · exact h1 rfl
  · exact h2 rfl
def chI (o : Option (List Nat)) (i : Int32) : Int32 := if i = -1 then lnI o else match o with
  | none => -5
  | some p => if i < nI p.length then nI (p.getD i.toNatClampNeg 0) else -5
def an_chain (v w i : Int32) (S : ST) : Int32 := match S with
  | (K, B, _, ks, _, _, _, _) => match kpt ks v with
    | none => -1
    | some a => if i < -1 then -1 else if inB w (nI 1) (nI 2) = true then (match ks[a]? with
      | none => -1
      | some q => if q.1 = K then chI (chn K q.2 w.toNatClampNeg B) i else -3) else -2
theorem chnL_len {K : Nat} {G : HP} {lst : Nat} {B : HP} : ∀ m n p, chnL K G lst B m n = some p → p.length < n + m
  | 0, _, _, h => by cases h
  | m + 1, n, p, h => by
    rw [chnL] at h
    cases hr : rch K G lst n B with
    | some q =>
      rw [hr] at h
      cases h
      have := rch_len n B p hr
      omega
    | none =>
      rw [hr] at h
      have := chnL_len m (n + 1) p h
      omega
set_option maxHeartbeats 8000000 in
theorem c_X8_chain {l : Launch} {v w i : Int32} {S : ST} {μ : Mem} {Q : Option Value → Mem → Prop} (hC : CR μ S) (hQ : ∀ μ', frm cL μ μ' → CR μ' S → Q (some (.int (an_chain v w i S))) μ') : CC l 8 mX8_chain [.ref 0, .int v, .int w, .int i] μ Q := by
  refine CC.of (M := mX8_chain) (by decide +kernel) rfl (fun v h => by simp at h; rcases h with rfl | rfl | rfl | rfl <;> rfl) (Nat.le_of_ble_eq_true rfl) (fun X hX => ?_)
  have hc := hX.cx
  obtain ⟨K, B, hs, ks, im, ls, tx, pp⟩ := S
  obtain ⟨a1, a2, a3, a4, a5, a6, a7⟩ := id hC
  dsimp only [an_chain] at hQ
  cases hk : kpt ks v with
  | none =>
    rw [hk] at hQ
    refine tt_al0 (q := 1) hc dX8_chain_0 rfl ?_
    refine tt_getR (q := 4) hc fl_X8_35 (by first | assumption | exact ⟨by decide, _, rfl, rfl⟩) dX8_chain_1 rfl ?_
    refine tt_il1 (q := 5) hc dX8_chain_4 rfl ?_
    refine tt_cV1 (q := 8) (d' := 0) (ci := 5) hc (by first | decide | omega) kmX5_at ml_X8_214 (by first | assumption | exact ⟨by decide, _, rfl⟩) rfl (Nat.le_of_ble_eq_true rfl) dX8_chain_5 rfl ?_
    refine c_X5_at a3 ?_
    rw [hk, kptV]
    dsimp only [Option.toList, List.nil_append, List.cons_append]
    refine tt_as4N (q := 10) hc dX8_chain_8 rfl (by decide) ?_
    refine tt_al4N (q := 12) hc dX8_chain_10 rfl ?_
    refine tt_ifnullN (t := 20) hc dX8_chain_12 rfl ?_
    refine tt_iconst (v := -1) (q := 21) hc rfl dX8_chain_20 rfl ?_
    refine tt_reti hX rfl dX8_chain_21 ?_
    exact hQ μ frm.rf hC
  | some a =>
    obtain ⟨q, hq, hi4⟩ := kpt_get a3.1 hk
    have hRi := a3.2.2 a q hq
    have hwO : HO (40 + 2 * (12 + a)) 0 := ⟨by omega, _, sh_ho (by omega)⟩
    have hwI : HI (40 + 2 * (12 + a)) 0 0 := ⟨by omega, _, sh_ho (by omega), _, rfl⟩
    have A12 := HA12
    have e1 := hRi.2.1
    have e2 := a1.2.1
    have hK1 := a1.1.1
    have hK2 := hRi.1.1
    rw [hk] at hQ
    dsimp only at hQ
    rw [hq] at hQ
    have P : ∀ (ν : Mem) (n : Nat) (o : Option (List Nat)), ¬ i < -1 → (∀ p, o = some p → p.length ≤ 3) → (∀ p, o = some p → ∀ j x, p[j]? = some x → ν 12 j = nI x) → Q (some (.int (chI o i))) ν → TT X 69 [.ref 0, .int v, .int (nI n), .int i, .ref (40 + 2 * (12 + a)), .int (lnI o)] [] ν := by
      intro ν n o hi hlen hp h
      unfold chI at h
      by_cases e : i = -1
      · rw [if_pos e] at h
        refine tt_il3 (q := 70) hc dX8_chain_69 rfl ?_
        refine tt_iconst (v := -1) (q := 71) hc rfl dX8_chain_70 rfl ?_
        first | (with_reducible refine chk2 ?_; refine tt_icneN (t := 77) (q := 74) hc (by omega) (by omega) dX8_chain_71 rfl rfl (fun c_71 => ?_) (fun c_71 => ?_)) | refine tt_icne (t := 77) (q := 74) hc dX8_chain_71 rfl rfl (fun c_71 => ?_) (fun c_71 => ?_)
        · exact absurd e c_71
        · refine tt_il5 (q := 76) hc dX8_chain_74 rfl ?_
          refine tt_reti hX rfl dX8_chain_76 ?_
          exact h
      · rw [if_neg e] at h
        obtain ⟨k, hk31, rfl⟩ := nI_of (show ¬ i < 0 from fun z => nolow z hi e)
        cases o with
        | none =>
          refine tt_il3 (q := 70) hc dX8_chain_69 rfl ?_
          refine tt_iconst (v := -1) (q := 71) hc rfl dX8_chain_70 rfl ?_
          first | (with_reducible refine chk2 ?_; refine tt_icneN (t := 77) (q := 74) hc (by omega) (by omega) dX8_chain_71 rfl rfl (fun c_71 => ?_) (fun c_71 => ?_)) | refine tt_icne (t := 77) (q := 74) hc dX8_chain_71 rfl rfl (fun c_71 => ?_) (fun c_71 => ?_)
          · refine tt_il3 (q := 78) hc dX8_chain_77 rfl ?_
            refine tt_il5 (q := 80) hc dX8_chain_78 rfl ?_
            first | (with_reducible refine chk2 ?_; refine tt_icgeN (t := 95) (q := 83) hc (by omega) (by omega) dX8_chain_80 rfl rfl (fun c_80 => ?_) (fun c_80 => ?_)) | refine tt_icge (t := 95) (q := 83) hc dX8_chain_80 rfl rfl (fun c_80 => ?_) (fun c_80 => ?_)
            · refine tt_bipush (v := -5) (q := 97) hc (by decide) dX8_chain_95 rfl ?_
              refine tt_reti hX rfl dX8_chain_97 ?_
              exact h
            · exact (nI_pos hk31 (Int32.lt_trans (Int32.not_le.mp c_80) (by decide))).elim
          · exact absurd c_71 e
        | some p =>
          have hl := hlen p rfl
          rw [lnI]
          dsimp only at h
          rw [nI_clamp hk31] at h
          refine tt_il3 (q := 70) hc dX8_chain_69 rfl ?_
          refine tt_iconst (v := -1) (q := 71) hc rfl dX8_chain_70 rfl ?_
          first | (with_reducible refine chk2 ?_; refine tt_icneN (t := 77) (q := 74) hc (by omega) (by omega) dX8_chain_71 rfl rfl (fun c_71 => ?_) (fun c_71 => ?_)) | refine tt_icne (t := 77) (q := 74) hc dX8_chain_71 rfl rfl (fun c_71 => ?_) (fun c_71 => ?_)
          · refine tt_il3 (q := 78) hc dX8_chain_77 rfl ?_
            refine tt_il5 (q := 80) hc dX8_chain_78 rfl ?_
            first | (with_reducible refine chk2 ?_; refine tt_icgeN (t := 95) (q := 83) hc (by omega) (by omega) dX8_chain_80 rfl rfl (fun c_80 => ?_) (fun c_80 => ?_)) | refine tt_icge (t := 95) (q := 83) hc dX8_chain_80 rfl rfl (fun c_80 => ?_) (fun c_80 => ?_)
            · refine tt_bipush (v := -5) (q := 97) hc (by decide) dX8_chain_95 rfl ?_
              refine tt_reti hX rfl dX8_chain_97 ?_
              first
              | exact h
              | (rw [if_neg (fun z => Nat.not_lt.mpr c_80 ((nI_ltI hk31 (by omega)).mp z))] at h; exact h)
            · have hkl : k < p.length := by omega
              have hv := hp p rfl k _ (List.getElem?_eq_getElem hkl)
              rw [if_pos ((nI_ltI hk31 (by omega)).mpr hkl), List.getD_eq_getElem?_getD, List.getElem?_eq_getElem hkl] at h
              refine tt_al0 (q := 84) hc dX8_chain_83 rfl ?_
              refine tt_getR (q := 87) hc fl_X8_52 (by first | assumption | exact ⟨by decide, _, rfl, rfl⟩) dX8_chain_84 rfl ?_
              refine tt_getR (q := 90) hc fl_X8_221 (by first | assumption | exact ⟨by decide, _, rfl, rfl⟩) dX8_chain_87 rfl ?_
              refine tt_il3 (q := 91) hc dX8_chain_90 rfl ?_
              refine tt_ialdE (q := 92) hc A12 (by omega) hv dX8_chain_91 rfl ?_
              refine tt_goto (t := 97) hc dX8_chain_92 rfl ?_
              refine tt_reti hX rfl dX8_chain_97 ?_
              first
              | exact h
              | (rw [if_neg (fun z => Nat.not_lt.mpr c_80 ((nI_ltI hk31 (by omega)).mp z))] at h; exact h)
          · exact absurd c_71 e
    have M1 : i < -1 → TT X 15 [.ref 0, .int v, .int w, .int i, .ref (40 + 2 * (12 + a)), .long 0] [] μ := by
      intro hi
      rw [if_pos hi] at hQ
      refine tt_il3 (q := 16) hc dX8_chain_15 rfl ?_
      refine tt_iconst (v := -1) (q := 17) hc rfl dX8_chain_16 rfl ?_
      first | (with_reducible refine chk2 ?_; refine tt_icgeN (t := 22) (q := 20) hc (by omega) (by omega) dX8_chain_17 rfl rfl (fun c_17 => ?_) (fun c_17 => ?_)) | refine tt_icge (t := 22) (q := 20) hc dX8_chain_17 rfl rfl (fun c_17 => ?_) (fun c_17 => ?_)
      · exact absurd hi (Int32.not_lt.mpr c_17)
      · refine tt_iconst (v := -1) (q := 21) hc rfl dX8_chain_20 rfl ?_
        refine tt_reti hX rfl dX8_chain_21 ?_
        exact hQ μ frm.rf hC
    have M2 : ¬ i < -1 → TT X 15 [.ref 0, .int v, .int w, .int i, .ref (40 + 2 * (12 + a)), .long 0] [] μ := by
      intro hi
      rw [if_neg hi] at hQ
      have L : ∀ n, w = nI n → 1 ≤ n → n ≤ 2 → TT X 35 [.ref 0, .int v, .int w, .int i, .ref (40 + 2 * (12 + a)), .long 0] [] μ := by
        intro n hw hn1 hn2
        have hin : inB w (nI 1) (nI 2) = true := by rw [hw]; exact inB_in (nI_nlt (by omega) (by omega)) (nI_nlt (by omega) (by omega))
        subst hw
        rw [if_pos hin, nI_clamp (by omega)] at hQ
        dsimp only at hQ
        refine tt_al4 (q := 37) hc dX8_chain_35 rfl ?_
        refine tt_getI (q := 40) hc fl_X8_81 (by first | assumption | exact ⟨by decide, _, rfl, _, rfl⟩) dX8_chain_37 rfl ?_
        rw [e1]
        refine tt_al0 (q := 41) hc dX8_chain_40 rfl ?_
        refine tt_getR (q := 44) hc fl_X8_12 (by first | assumption | exact ⟨by decide, _, rfl, rfl⟩) dX8_chain_41 rfl ?_
        refine tt_getI (q := 47) hc fl_X8_81 (by first | assumption | exact ⟨by decide, _, rfl, _, rfl⟩) dX8_chain_44 rfl ?_
        rw [e2]
        first | (with_reducible refine chk2 ?_; refine tt_iceqN (t := 53) (q := 50) hc (by omega) (by omega) dX8_chain_47 rfl rfl (fun c_47 => ?_) (fun c_47 => ?_)) | refine tt_iceq (t := 53) (q := 50) hc dX8_chain_47 rfl rfl (fun c_47 => ?_) (fun c_47 => ?_)
        · have hqK : q.1 = K := by omega
          rw [if_pos hqK] at hQ
          rw [hqK] at hRi
          refine tt_al0 (q := 54) hc dX8_chain_53 rfl ?_
          refine tt_getR (q := 57) hc fl_X8_52 (by first | assumption | exact ⟨by decide, _, rfl, rfl⟩) dX8_chain_54 rfl ?_
          refine tt_al0 (q := 58) hc dX8_chain_57 rfl ?_
          refine tt_getR (q := 61) hc fl_X8_12 (by first | assumption | exact ⟨by decide, _, rfl, rfl⟩) dX8_chain_58 rfl ?_
          refine tt_al4 (q := 63) hc dX8_chain_61 rfl ?_
          refine tt_il2 (q := 64) hc dX8_chain_63 rfl ?_
          refine tt_cV3 (q := 67) (d' := 7) (ci := 4) hc (by first | decide | omega) kmX4_fewest ml_X8_217 (by first | assumption | exact ⟨by decide, _, rfl⟩) rfl (Nat.le_of_ble_eq_true rfl) dX8_chain_64 rfl ?_
          refine c_X4_fewest (jg := 12 + a) (by omega) (by omega) (by omega) hn2 a1 hRi (fun ν hf hp => ?_)
          have hq2 := hQ ν (hf.cl (by decide)) (hC.wk hf (by decide))
          dsimp only [Option.toList, List.nil_append, List.cons_append]
          refine tt_is5 (q := 69) hc dX8_chain_67 rfl (by decide) ?_
          exact P ν n _ hi (fun p h => Nat.le_of_lt_succ (Nat.lt_of_lt_of_le (chnL_len 4 0 p h) (by omega))) hp hq2
        · refine tt_bipush (v := -3) (q := 52) hc (by decide) dX8_chain_50 rfl ?_
          refine tt_reti hX rfl dX8_chain_52 ?_
          rw [if_neg (by omega)] at hQ
          exact hQ μ frm.rf hC
      refine tt_il3 (q := 16) hc dX8_chain_15 rfl ?_
      refine tt_iconst (v := -1) (q := 17) hc rfl dX8_chain_16 rfl ?_
      first | (with_reducible refine chk2 ?_; refine tt_icgeN (t := 22) (q := 20) hc (by omega) (by omega) dX8_chain_17 rfl rfl (fun c_17 => ?_) (fun c_17 => ?_)) | refine tt_icge (t := 22) (q := 20) hc dX8_chain_17 rfl rfl (fun c_17 => ?_) (fun c_17 => ?_)
      · refine tt_il2 (q := 23) hc dX8_chain_22 rfl ?_
        refine tt_iconst (v := nI 1) (q := 24) hc rfl dX8_chain_23 rfl ?_
        first | (with_reducible refine chk2 ?_; refine tt_iceqN (t := 35) (q := 27) hc (by omega) (by omega) dX8_chain_24 rfl rfl (fun c_24 => ?_) (fun c_24 => ?_)) | refine tt_iceq (t := 35) (q := 27) hc dX8_chain_24 rfl rfl (fun c_24 => ?_) (fun c_24 => ?_)
        · first
          | exact L 1 c_24 (by omega) (by omega)
          | exact L 2 c_29 (by omega) (by omega)
        · refine tt_il2 (q := 28) hc dX8_chain_27 rfl ?_
          refine tt_iconst (v := nI 2) (q := 29) hc rfl dX8_chain_28 rfl ?_
          first | (with_reducible refine chk2 ?_; refine tt_iceqN (t := 35) (q := 32) hc (by omega) (by omega) dX8_chain_29 rfl rfl (fun c_29 => ?_) (fun c_29 => ?_)) | refine tt_iceq (t := 35) (q := 32) hc dX8_chain_29 rfl rfl (fun c_29 => ?_) (fun c_29 => ?_)
          · first
            | exact L 1 c_24 (by omega) (by omega)
            | exact L 2 c_29 (by omega) (by omega)
          · refine tt_bipush (v := -2) (q := 34) hc (by decide) dX8_chain_32 rfl ?_
            refine tt_reti hX rfl dX8_chain_34 ?_
            rw [if_neg (no12 c_24 c_29)] at hQ
            exact hQ μ frm.rf hC
      · exact absurd c_17 (fun z => hi (Int32.not_le.mp z))
    refine tt_al0 (q := 1) hc dX8_chain_0 rfl ?_
    refine tt_getR (q := 4) hc fl_X8_35 (by first | assumption | exact ⟨by decide, _, rfl, rfl⟩) dX8_chain_1 rfl ?_
    refine tt_il1 (q := 5) hc dX8_chain_4 rfl ?_
    refine tt_cV1 (q := 8) (d' := 0) (ci := 5) hc (by first | decide | omega) kmX5_at ml_X8_214 (by first | assumption | exact ⟨by decide, _, rfl⟩) rfl (Nat.le_of_ble_eq_true rfl) dX8_chain_5 rfl ?_
    refine c_X5_at a3 ?_
    rw [hk, kptV]
    dsimp only [Option.toList, List.nil_append, List.cons_append]
    refine tt_as4 (q := 10) hc dX8_chain_8 rfl (by decide) ?_
    refine tt_al4 (q := 12) hc dX8_chain_10 rfl ?_
    refine tt_ifnull (q := 15) hc dX8_chain_12 rfl ?_
    rcases Classical.em (i < -1) with hi | hi
    · exact M1 hi
    · exact M2 hi
def two (ks : List (Nat × HP)) (v w : Int32) (f : Nat × HP → Nat × HP → Int32) : Int32 := match kpt ks v, kpt ks w with
  | some a, some b => (match ks[a]?, ks[b]? with
    | some q, some r => f q r
    | _, _ => -1)
  | _, _ => -1
theorem two_l {ks : List (Nat × HP)} {v w : Int32} {f : Nat × HP → Nat × HP → Int32} (h : kpt ks v = none) : two ks v w f = -1 := by
  unfold two
  rw [h]
theorem two_r {ks : List (Nat × HP)} {v w : Int32} {f : Nat × HP → Nat × HP → Int32} (h : kpt ks w = none) : two ks v w f = -1 := by
  unfold two
  rw [h]
  cases kpt ks v <;> rfl
theorem two_s {ks : List (Nat × HP)} {v w : Int32} {f : Nat × HP → Nat × HP → Int32} {a b : Nat} {q r : Nat × HP} (h : kpt ks v = some a) (h2 : kpt ks w = some b) (h3 : ks[a]? = some q) (h4 : ks[b]? = some r) : two ks v w f = f q r := by
  unfold two
  rw [h, h2]
  dsimp only
  rw [h3, h4]
def an_alike (v w : Int32) (S : ST) : Int32 := match S with
  | (_, _, _, ks, _, _, _, _) => two ks v w (fun q r => bI (alk q.1 q.2 r.1 r.2))
set_option maxHeartbeats 8000000 in
theorem c_X8_alike {l : Launch} {v w : Int32} {S : ST} {μ : Mem} {Q : Option Value → Mem → Prop} (hC : CR μ S) (hQ : ∀ μ', frm cL μ μ' → CR μ' S → Q (some (.int (an_alike v w S))) μ') : CC l 11 mX8_alike [.ref 0, .int v, .int w] μ Q := by
  refine CC.of (M := mX8_alike) (by decide +kernel) rfl (fun v h => by simp at h; rcases h with rfl | rfl | rfl <;> rfl) (Nat.le_of_ble_eq_true rfl) (fun X hX => ?_)
  have hc := hX.cx
  obtain ⟨K, B, hs, ks, im, ls, tx, pp⟩ := S
  obtain ⟨a1, a2, a3, a4, a5, a6, a7⟩ := id hC
  dsimp only [an_alike] at hQ
  cases hk : kpt ks v with
  | none =>
    rw [two_l hk] at hQ
    have T : ∀ x, x = kptV (kpt ks w) → TT X 17 [.ref 0, .int v, .int w, .null, .long 0] [x] μ := by
      intro x e
      subst e
      cases hk2 : kpt ks w with
      | none =>
        rw [kptV]
        refine tt_as4N (q := 19) hc dX8_alike_17 rfl (by decide) ?_
        refine tt_al3N (q := 20) hc dX8_alike_19 rfl ?_
        refine tt_ifnullN (t := 28) hc dX8_alike_20 rfl ?_
        refine tt_iconst (v := -1) (q := 29) hc rfl dX8_alike_28 rfl ?_
        refine tt_reti hX rfl dX8_alike_29 ?_
        exact hQ μ frm.rf hC
      | some b =>
        rw [kptV]
        refine tt_as4 (q := 19) hc dX8_alike_17 rfl (by decide) ?_
        refine tt_al3N (q := 20) hc dX8_alike_19 rfl ?_
        refine tt_ifnullN (t := 28) hc dX8_alike_20 rfl ?_
        refine tt_iconst (v := -1) (q := 29) hc rfl dX8_alike_28 rfl ?_
        refine tt_reti hX rfl dX8_alike_29 ?_
        exact hQ μ frm.rf hC
    refine tt_al0 (q := 1) hc dX8_alike_0 rfl ?_
    refine tt_getR (q := 4) hc fl_X8_35 (by first | assumption | exact ⟨by decide, _, rfl, rfl⟩) dX8_alike_1 rfl ?_
    refine tt_il1 (q := 5) hc dX8_alike_4 rfl ?_
    refine tt_cV1 (q := 8) (d' := 0) (ci := 5) hc (by first | decide | omega) kmX5_at ml_X8_214 (by first | assumption | exact ⟨by decide, _, rfl⟩) rfl (Nat.le_of_ble_eq_true rfl) dX8_alike_5 rfl ?_
    refine c_X5_at a3 ?_
    rw [hk, kptV]
    dsimp only [Option.toList, List.nil_append, List.cons_append]
    refine tt_as3N (q := 9) hc dX8_alike_8 rfl (by decide) ?_
    refine tt_al0 (q := 10) hc dX8_alike_9 rfl ?_
    refine tt_getR (q := 13) hc fl_X8_35 (by first | assumption | exact ⟨by decide, _, rfl, rfl⟩) dX8_alike_10 rfl ?_
    refine tt_il2 (q := 14) hc dX8_alike_13 rfl ?_
    refine tt_cV1 (q := 17) (d' := 0) (ci := 5) hc (by first | decide | omega) kmX5_at ml_X8_214 (by first | assumption | exact ⟨by decide, _, rfl⟩) rfl (Nat.le_of_ble_eq_true rfl) dX8_alike_14 rfl ?_
    refine c_X5_at a3 ?_
    dsimp only [Option.toList, List.nil_append, List.cons_append]
    exact T _ rfl
  | some a =>
    obtain ⟨q, hq, hi4⟩ := kpt_get a3.1 hk
    have hRa := a3.2.2 a q hq
    have T : ∀ x, x = kptV (kpt ks w) → TT X 17 [.ref 0, .int v, .int w, .ref (40 + 2 * (12 + a)), .long 0] [x] μ := by
      intro x e
      subst e
      cases hk2 : kpt ks w with
      | none =>
        rw [two_r hk2] at hQ
        rw [kptV]
        refine tt_as4N (q := 19) hc dX8_alike_17 rfl (by decide) ?_
        refine tt_al3 (q := 20) hc dX8_alike_19 rfl ?_
        refine tt_ifnull (q := 23) hc dX8_alike_20 rfl ?_
        refine tt_al4N (q := 25) hc dX8_alike_23 rfl ?_
        refine tt_ifnonnullN (q := 28) hc dX8_alike_25 rfl ?_
        refine tt_iconst (v := -1) (q := 29) hc rfl dX8_alike_28 rfl ?_
        refine tt_reti hX rfl dX8_alike_29 ?_
        exact hQ μ frm.rf hC
      | some b =>
        obtain ⟨r, hr, hb4⟩ := kpt_get a3.1 hk2
        have hRb := a3.2.2 b r hr
        rw [two_s hk hk2 hq hr] at hQ
        rw [kptV]
        refine tt_as4 (q := 19) hc dX8_alike_17 rfl (by decide) ?_
        refine tt_al3 (q := 20) hc dX8_alike_19 rfl ?_
        refine tt_ifnull (q := 23) hc dX8_alike_20 rfl ?_
        refine tt_al4 (q := 25) hc dX8_alike_23 rfl ?_
        refine tt_ifnonnull (t := 30) hc dX8_alike_25 rfl ?_
        refine tt_al0 (q := 31) hc dX8_alike_30 rfl ?_
        refine tt_getR (q := 34) hc fl_X8_59 (by first | assumption | exact ⟨by decide, _, rfl, rfl⟩) dX8_alike_31 rfl ?_
        refine tt_al3 (q := 35) hc dX8_alike_34 rfl ?_
        refine tt_al4 (q := 37) hc dX8_alike_35 rfl ?_
        refine tt_cV2 (q := 40) (d' := 10) (ci := 1) hc (by first | decide | omega) kmX1_fit ml_X8_224 (by first | assumption | exact ⟨by decide, _, rfl⟩) rfl (Nat.le_of_ble_eq_true rfl) dX8_alike_37 rfl ?_
        refine c_X1_fit (j1 := 12 + a) (j2 := 12 + b) (by omega) (by omega) hRa hRb (fun ν hf => ?_)
        have hq2 := hQ ν (hf.cl (by decide)) (hC.wk hf (by decide))
        dsimp only [Option.toList, List.nil_append, List.cons_append]
        first | (with_reducible refine chkb ?_; refine tt_ifeqB (t := 47) (q := 43) hc dX8_alike_40 rfl rfl (fun c_40 => ?_) (fun c_40 => ?_)) | (with_reducible refine chk1 ?_; refine tt_ifeqN (t := 47) (q := 43) hc (by omega) dX8_alike_40 rfl rfl (fun c_40 => ?_) (fun c_40 => ?_)) | refine tt_ifeq (t := 47) (q := 43) hc dX8_alike_40 rfl rfl (fun c_40 => ?_) (fun c_40 => ?_)
        · refine tt_iconst (v := nI 0) (q := 48) hc rfl dX8_alike_47 rfl ?_
          refine tt_reti hX rfl dX8_alike_48 ?_
          first
          | (rw [c_40] at hq2; exact hq2)
        · refine tt_iconst (v := nI 1) (q := 44) hc rfl dX8_alike_43 rfl ?_
          refine tt_goto (t := 48) hc dX8_alike_44 rfl ?_
          refine tt_reti hX rfl dX8_alike_48 ?_
          first
          | (rw [c_40] at hq2; exact hq2)
    refine tt_al0 (q := 1) hc dX8_alike_0 rfl ?_
    refine tt_getR (q := 4) hc fl_X8_35 (by first | assumption | exact ⟨by decide, _, rfl, rfl⟩) dX8_alike_1 rfl ?_
    refine tt_il1 (q := 5) hc dX8_alike_4 rfl ?_
    refine tt_cV1 (q := 8) (d' := 0) (ci := 5) hc (by first | decide | omega) kmX5_at ml_X8_214 (by first | assumption | exact ⟨by decide, _, rfl⟩) rfl (Nat.le_of_ble_eq_true rfl) dX8_alike_5 rfl ?_
    refine c_X5_at a3 ?_
    rw [hk, kptV]
    dsimp only [Option.toList, List.nil_append, List.cons_append]
    refine tt_as3 (q := 9) hc dX8_alike_8 rfl (by decide) ?_
    refine tt_al0 (q := 10) hc dX8_alike_9 rfl ?_
    refine tt_getR (q := 13) hc fl_X8_35 (by first | assumption | exact ⟨by decide, _, rfl, rfl⟩) dX8_alike_10 rfl ?_
    refine tt_il2 (q := 14) hc dX8_alike_13 rfl ?_
    refine tt_cV1 (q := 17) (d' := 0) (ci := 5) hc (by first | decide | omega) kmX5_at ml_X8_214 (by first | assumption | exact ⟨by decide, _, rfl⟩) rfl (Nat.le_of_ble_eq_true rfl) dX8_alike_14 rfl ?_
    refine c_X5_at a3 ?_
    dsimp only [Option.toList, List.nil_append, List.cons_append]
    exact T _ rfl
def cmn (A B : HP) : Nat → Nat → Nat → Nat
  | 0, _, m => m
  | n + 1, s, m => cmn A B n (s + 1) (if A s = true ∧ B s = true then m + 1 else m)
def an_common (v w : Int32) (S : ST) : Int32 := match S with
  | (_, _, _, ks, _, _, _, _) => two ks v w (fun q r => nI (cmn q.2 r.2 255 1 0))
set_option maxHeartbeats 8000000 in
theorem c_X8_common {l : Launch} {v w : Int32} {S : ST} {μ : Mem} {Q : Option Value → Mem → Prop} (hC : CR μ S) (hQ : ∀ μ', frm cL μ μ' → CR μ' S → Q (some (.int (an_common v w S))) μ') : CC l 3 mX8_common [.ref 0, .int v, .int w] μ Q := by
  refine CC.of (M := mX8_common) (by decide +kernel) rfl (fun v h => by simp at h; rcases h with rfl | rfl | rfl <;> rfl) (Nat.le_of_ble_eq_true rfl) (fun X hX => ?_)
  have hc := hX.cx
  obtain ⟨K, B, hs, ks, im, ls, tx, pp⟩ := S
  obtain ⟨a1, a2, a3, a4, a5, a6, a7⟩ := id hC
  have hQ := hQ μ frm.rf hC
  dsimp only [an_common] at hQ
  cases hk : kpt ks v with
  | none =>
    rw [two_l hk] at hQ
    have T : ∀ x, x = kptV (kpt ks w) → TT X 17 [.ref 0, .int v, .int w, .null, .long 0, .long 0, .long 0] [x] μ := by
      intro x e
      subst e
      cases hk2 : kpt ks w with
      | none =>
        rw [kptV]
        refine tt_as4N (q := 19) hc dX8_common_17 rfl (by decide) ?_
        refine tt_al3N (q := 20) hc dX8_common_19 rfl ?_
        refine tt_ifnullN (t := 28) hc dX8_common_20 rfl ?_
        refine tt_iconst (v := -1) (q := 29) hc rfl dX8_common_28 rfl ?_
        refine tt_reti hX rfl dX8_common_29 ?_
        exact hQ
      | some b =>
        rw [kptV]
        refine tt_as4 (q := 19) hc dX8_common_17 rfl (by decide) ?_
        refine tt_al3N (q := 20) hc dX8_common_19 rfl ?_
        refine tt_ifnullN (t := 28) hc dX8_common_20 rfl ?_
        refine tt_iconst (v := -1) (q := 29) hc rfl dX8_common_28 rfl ?_
        refine tt_reti hX rfl dX8_common_29 ?_
        exact hQ
    refine tt_al0 (q := 1) hc dX8_common_0 rfl ?_
    refine tt_getR (q := 4) hc fl_X8_35 (by first | assumption | exact ⟨by decide, _, rfl, rfl⟩) dX8_common_1 rfl ?_
    refine tt_il1 (q := 5) hc dX8_common_4 rfl ?_
    refine tt_cV1 (q := 8) (d' := 0) (ci := 5) hc (by first | decide | omega) kmX5_at ml_X8_214 (by first | assumption | exact ⟨by decide, _, rfl⟩) rfl (Nat.le_of_ble_eq_true rfl) dX8_common_5 rfl ?_
    refine c_X5_at a3 ?_
    rw [hk, kptV]
    dsimp only [Option.toList, List.nil_append, List.cons_append]
    refine tt_as3N (q := 9) hc dX8_common_8 rfl (by decide) ?_
    refine tt_al0 (q := 10) hc dX8_common_9 rfl ?_
    refine tt_getR (q := 13) hc fl_X8_35 (by first | assumption | exact ⟨by decide, _, rfl, rfl⟩) dX8_common_10 rfl ?_
    refine tt_il2 (q := 14) hc dX8_common_13 rfl ?_
    refine tt_cV1 (q := 17) (d' := 0) (ci := 5) hc (by first | decide | omega) kmX5_at ml_X8_214 (by first | assumption | exact ⟨by decide, _, rfl⟩) rfl (Nat.le_of_ble_eq_true rfl) dX8_common_14 rfl ?_
    refine c_X5_at a3 ?_
    dsimp only [Option.toList, List.nil_append, List.cons_append]
    exact T _ rfl
  | some a =>
    obtain ⟨q, hq, hi4⟩ := kpt_get a3.1 hk
    have hRa := a3.2.2 a q hq
    have T : ∀ x, x = kptV (kpt ks w) → TT X 17 [.ref 0, .int v, .int w, .ref (40 + 2 * (12 + a)), .long 0, .long 0, .long 0] [x] μ := by
      intro x e
      subst e
      cases hk2 : kpt ks w with
      | none =>
        rw [two_r hk2] at hQ
        rw [kptV]
        refine tt_as4N (q := 19) hc dX8_common_17 rfl (by decide) ?_
        refine tt_al3 (q := 20) hc dX8_common_19 rfl ?_
        refine tt_ifnull (q := 23) hc dX8_common_20 rfl ?_
        refine tt_al4N (q := 25) hc dX8_common_23 rfl ?_
        refine tt_ifnonnullN (q := 28) hc dX8_common_25 rfl ?_
        refine tt_iconst (v := -1) (q := 29) hc rfl dX8_common_28 rfl ?_
        refine tt_reti hX rfl dX8_common_29 ?_
        exact hQ
      | some b =>
        obtain ⟨r, hr, hb4⟩ := kpt_get a3.1 hk2
        have hRb := a3.2.2 b r hr
        have oa : HO (40 + 2 * (12 + a)) 0 := ⟨by omega, _, sh_ho (by omega)⟩
        have ob : HO (40 + 2 * (12 + b)) 0 := ⟨by omega, _, sh_ho (by omega)⟩
        rw [two_s hk hk2 hq hr] at hQ
        rw [kptV]
        have L : ∀ (n s m : Nat), s + n = 256 → m ≤ s → Q (some (.int (nI (cmn q.2 r.2 n s m)))) μ → TT X 36 [.ref 0, .int v, .int w, .ref (40 + 2 * (12 + a)), .ref (40 + 2 * (12 + b)), .int (nI m), .int (nI s)] [] μ := by
          intro n
          induction n with
          | zero =>
            intro s m hs hm h
            refine tt_il6 (q := 38) hc dX8_common_36 rfl ?_
            refine tt_sipush (v := nI 256) (q := 41) hc (by decide) dX8_common_38 rfl ?_
            first | (with_reducible refine chk2 ?_; refine tt_icgeN (t := 72) (q := 44) hc (by omega) (by omega) dX8_common_41 rfl rfl (fun c_41 => ?_) (fun c_41 => ?_)) | refine tt_icge (t := 72) (q := 44) hc dX8_common_41 rfl rfl (fun c_41 => ?_) (fun c_41 => ?_)
            · refine tt_il5 (q := 74) hc dX8_common_72 rfl ?_
              refine tt_reti hX rfl dX8_common_74 ?_
              exact h
            · omega
          | succ n ih =>
            intro s m hs hm h
            rw [cmn] at h
            refine tt_il6 (q := 38) hc dX8_common_36 rfl ?_
            refine tt_sipush (v := nI 256) (q := 41) hc (by decide) dX8_common_38 rfl ?_
            first | (with_reducible refine chk2 ?_; refine tt_icgeN (t := 72) (q := 44) hc (by omega) (by omega) dX8_common_41 rfl rfl (fun c_41 => ?_) (fun c_41 => ?_)) | refine tt_icge (t := 72) (q := 44) hc dX8_common_41 rfl rfl (fun c_41 => ?_) (fun c_41 => ?_)
            · omega
            · refine tt_al3 (q := 45) hc dX8_common_44 rfl ?_
              refine tt_il6 (q := 47) hc dX8_common_45 rfl ?_
              refine tt_cV1 (q := 50) (d' := 1) (ci := 0) hc (by first | decide | omega) kmX0_isBody ml_X8_228 (by first | assumption | exact ⟨by decide, _, rfl⟩) rfl (Nat.le_of_ble_eq_true rfl) dX8_common_47 rfl ?_
              refine c_X0_isBody (j := 12 + a) (by omega) hRa ?_
              dsimp only [Option.toList, List.nil_append, List.cons_append]
              first | (with_reducible refine chkb ?_; refine tt_ifeqB (t := 66) (q := 53) hc dX8_common_50 rfl rfl (fun c_50 => ?_) (fun c_50 => ?_)) | (with_reducible refine chk1 ?_; refine tt_ifeqN (t := 66) (q := 53) hc (by omega) dX8_common_50 rfl rfl (fun c_50 => ?_) (fun c_50 => ?_)) | refine tt_ifeq (t := 66) (q := 53) hc dX8_common_50 rfl rfl (fun c_50 => ?_) (fun c_50 => ?_)
              · first | refine tt_inc6 (q := 69) hc dX8_common_66 rfl (by decide) (incN _) ?_ | refine tt_inc6 (q := 69) hc dX8_common_66 rfl (by decide) rfl ?_
                refine tt_goto (t := 36) hc dX8_common_69 rfl ?_
                first
                | (rw [if_neg (fun z => Bool.false_ne_true (c_50.symm.trans z.1))] at h; exact ih (s + 1) m (by omega) (by omega) h)
                | (rw [if_neg (fun z => Bool.false_ne_true (c_60.symm.trans z.2))] at h; exact ih (s + 1) m (by omega) (by omega) h)
                | (rw [if_pos ⟨c_50, c_60⟩] at h; exact ih (s + 1) (m + 1) (by omega) (by omega) h)
              · refine tt_al4 (q := 55) hc dX8_common_53 rfl ?_
                refine tt_il6 (q := 57) hc dX8_common_55 rfl ?_
                refine tt_cV1 (q := 60) (d' := 1) (ci := 0) hc (by first | decide | omega) kmX0_isBody ml_X8_228 (by first | assumption | exact ⟨by decide, _, rfl⟩) rfl (Nat.le_of_ble_eq_true rfl) dX8_common_57 rfl ?_
                refine c_X0_isBody (j := 12 + b) (by omega) hRb ?_
                dsimp only [Option.toList, List.nil_append, List.cons_append]
                first | (with_reducible refine chkb ?_; refine tt_ifeqB (t := 66) (q := 63) hc dX8_common_60 rfl rfl (fun c_60 => ?_) (fun c_60 => ?_)) | (with_reducible refine chk1 ?_; refine tt_ifeqN (t := 66) (q := 63) hc (by omega) dX8_common_60 rfl rfl (fun c_60 => ?_) (fun c_60 => ?_)) | refine tt_ifeq (t := 66) (q := 63) hc dX8_common_60 rfl rfl (fun c_60 => ?_) (fun c_60 => ?_)
                · first | refine tt_inc6 (q := 69) hc dX8_common_66 rfl (by decide) (incN _) ?_ | refine tt_inc6 (q := 69) hc dX8_common_66 rfl (by decide) rfl ?_
                  refine tt_goto (t := 36) hc dX8_common_69 rfl ?_
                  first
                  | (rw [if_neg (fun z => Bool.false_ne_true (c_50.symm.trans z.1))] at h; exact ih (s + 1) m (by omega) (by omega) h)
                  | (rw [if_neg (fun z => Bool.false_ne_true (c_60.symm.trans z.2))] at h; exact ih (s + 1) m (by omega) (by omega) h)
                  | (rw [if_pos ⟨c_50, c_60⟩] at h; exact ih (s + 1) (m + 1) (by omega) (by omega) h)
                · first | refine tt_inc5 (q := 66) hc dX8_common_63 rfl (by decide) (incN _) ?_ | refine tt_inc5 (q := 66) hc dX8_common_63 rfl (by decide) rfl ?_
                  first | refine tt_inc6 (q := 69) hc dX8_common_66 rfl (by decide) (incN _) ?_ | refine tt_inc6 (q := 69) hc dX8_common_66 rfl (by decide) rfl ?_
                  refine tt_goto (t := 36) hc dX8_common_69 rfl ?_
                  first
                  | (rw [if_neg (fun z => Bool.false_ne_true (c_50.symm.trans z.1))] at h; exact ih (s + 1) m (by omega) (by omega) h)
                  | (rw [if_neg (fun z => Bool.false_ne_true (c_60.symm.trans z.2))] at h; exact ih (s + 1) m (by omega) (by omega) h)
                  | (rw [if_pos ⟨c_50, c_60⟩] at h; exact ih (s + 1) (m + 1) (by omega) (by omega) h)
        refine tt_as4 (q := 19) hc dX8_common_17 rfl (by decide) ?_
        refine tt_al3 (q := 20) hc dX8_common_19 rfl ?_
        refine tt_ifnull (q := 23) hc dX8_common_20 rfl ?_
        refine tt_al4 (q := 25) hc dX8_common_23 rfl ?_
        refine tt_ifnonnull (t := 30) hc dX8_common_25 rfl ?_
        refine tt_iconst (v := nI 0) (q := 31) hc rfl dX8_common_30 rfl ?_
        refine tt_is5 (q := 33) hc dX8_common_31 rfl (by decide) ?_
        refine tt_iconst (v := nI 1) (q := 34) hc rfl dX8_common_33 rfl ?_
        refine tt_is6 (q := 36) hc dX8_common_34 rfl (by decide) ?_
        exact L 255 1 0 rfl (Nat.zero_le _) hQ
    refine tt_al0 (q := 1) hc dX8_common_0 rfl ?_
    refine tt_getR (q := 4) hc fl_X8_35 (by first | assumption | exact ⟨by decide, _, rfl, rfl⟩) dX8_common_1 rfl ?_
    refine tt_il1 (q := 5) hc dX8_common_4 rfl ?_
    refine tt_cV1 (q := 8) (d' := 0) (ci := 5) hc (by first | decide | omega) kmX5_at ml_X8_214 (by first | assumption | exact ⟨by decide, _, rfl⟩) rfl (Nat.le_of_ble_eq_true rfl) dX8_common_5 rfl ?_
    refine c_X5_at a3 ?_
    rw [hk, kptV]
    dsimp only [Option.toList, List.nil_append, List.cons_append]
    refine tt_as3 (q := 9) hc dX8_common_8 rfl (by decide) ?_
    refine tt_al0 (q := 10) hc dX8_common_9 rfl ?_
    refine tt_getR (q := 13) hc fl_X8_35 (by first | assumption | exact ⟨by decide, _, rfl, rfl⟩) dX8_common_10 rfl ?_
    refine tt_il2 (q := 14) hc dX8_common_13 rfl ?_
    refine tt_cV1 (q := 17) (d' := 0) (ci := 5) hc (by first | decide | omega) kmX5_at ml_X8_214 (by first | assumption | exact ⟨by decide, _, rfl⟩) rfl (Nat.le_of_ble_eq_true rfl) dX8_common_14 rfl ?_
    refine c_X5_at a3 ?_
    dsimp only [Option.toList, List.nil_append, List.cons_append]
    exact T _ rfl
def sp_image (S : ST) : Int32 × ST := match S with
  | (K, B, hs, ks, _, ls, tx, pp) => (nI (tot B), (K, B, hs, ks, some (K, B, ks), ls, tx, pp))
set_option maxHeartbeats 8000000 in
theorem c_X8_image {l : Launch} {S : ST} {μ : Mem} {Q : Option Value → Mem → Prop} (hC : CR μ S) (hQ : ∀ μ', frm cL μ μ' → CR μ' (sp_image S).2 → Q (some (.int (sp_image S).1)) μ') : CC l 3 mX8_image [.ref 0] μ Q := by
  refine CC.of (M := mX8_image) (by decide +kernel) rfl (fun v h => by simp at h; subst h; rfl) (Nat.le_of_ble_eq_true rfl) (fun X hX => ?_)
  have hc := hX.cx
  obtain ⟨K, B, hs, ks, im, ls, tx, pp⟩ := S
  obtain ⟨a1, a2, a3, a4, a5, a6, a7⟩ := id hC
  dsimp only [sp_image] at hQ
  have F : ∀ (ν : Mem), frm [44, 45] μ ν → RC ν 2 K B → ∀ ρ, frm [0] ν ρ → ρ 0 6 = nI ks.length → ρ 0 7 = 1 → ρ 0 14 = ν 0 14 → TT X 27 [.ref 0] [] ρ := by
    intro ν hf hR ρ hf2 e6 e7 e14
    have b1 := (a1.frm hf (by decide) (by decide)).frm hf2 (by decide) (by decide)
    refine tt_al0 (q := 28) hc dX8_image_27 rfl ?_
    refine tt_getR (q := 31) hc fl_X8_12 (by first | assumption | exact ⟨by decide, _, rfl, rfl⟩) dX8_image_28 rfl ?_
    refine tt_cV0 (q := 34) (d' := 0) (ci := 0) hc (by first | decide | omega) kmX0_total ml_X8_99 (by first | assumption | exact ⟨by decide, _, rfl⟩) rfl (Nat.le_of_ble_eq_true rfl) dX8_image_31 rfl ?_
    refine c_X0_total (j := 0) (by decide) b1 ?_
    dsimp only [Option.toList, List.nil_append, List.cons_append]
    refine tt_reti hX rfl dX8_image_34 ?_
    exact hQ ρ ((hf.cl (by decide)).tr (hf2.cl (by decide))) ⟨b1, (a2.frm hf (by decide)).frm hf2 (by decide), (a3.frm hf (by decide)).frm hf2 (by decide), ⟨e7, hR.frm hf2 (by decide) (by decide), e6, List.take_length⟩, (a5.frm hf (by decide) (by decide)).frm hf2 (by decide) (by decide), (a6.frm hf (by decide) (by decide)).frm hf2 (by decide) (by decide), ⟨a7.1, by rw [e14, hf 0 (by decide)]; exact a7.2.1, fun i b hb => by rw [hf2 23 (by decide), hf 23 (by decide)]; exact a7.2.2 i b hb⟩⟩
  refine tt_al0 (q := 1) hc dX8_image_0 rfl ?_
  refine tt_getR (q := 4) hc fl_X8_39 (by first | assumption | exact ⟨by decide, _, rfl, rfl⟩) dX8_image_1 rfl ?_
  refine tt_al0 (q := 5) hc dX8_image_4 rfl ?_
  refine tt_getR (q := 8) hc fl_X8_12 (by first | assumption | exact ⟨by decide, _, rfl, rfl⟩) dX8_image_5 rfl ?_
  refine tt_cV1 (q := 11) (d' := 1) (ci := 0) hc (by first | decide | omega) kmX0_copyOf ml_X8_170 (by first | assumption | exact ⟨by decide, _, rfl⟩) rfl (Nat.le_of_ble_eq_true rfl) dX8_image_8 rfl ?_
  refine c_X0_copyOf (j := 2) (j2 := 0) (by decide) (by decide) (by decide) a1 (fun ν hf hR => ?_)
  have b3 := (a3.frm hf (by decide)).2.1
  dsimp only [Option.toList, List.nil_append, List.cons_append]
  refine tt_al0 (q := 12) hc dX8_image_11 rfl ?_
  refine tt_al0 (q := 13) hc dX8_image_12 rfl ?_
  refine tt_getR (q := 16) hc fl_X8_35 (by first | assumption | exact ⟨by decide, _, rfl, rfl⟩) dX8_image_13 rfl ?_
  refine tt_getI (q := 19) hc fl_X8_211 (by first | assumption | exact ⟨by decide, _, rfl, _, rfl⟩) dX8_image_16 rfl ?_
  rw [b3]
  refine tt_putI (q := 22) hc fp_X8_231 (by first | assumption | exact ⟨by decide, _, rfl, _, rfl⟩) dX8_image_19 rfl ?_
  refine tt_al0 (q := 23) hc dX8_image_22 rfl ?_
  refine tt_iconst (v := nI 1) (q := 24) hc rfl dX8_image_23 rfl ?_
  refine tt_putZ (q := 27) hc fp_X8_234 (by first | assumption | exact ⟨by decide, _, rfl, _, rfl⟩) (by decide) dX8_image_24 rfl ?_
  exact F ν hf hR _ (frm.set.tr frm.set) rfl rfl rfl
def sp_undo (S : ST) : Int32 × ST := match S with
  | (_, _, _, _, im, ls, tx, pp) => match im with
    | none => (-3, S)
    | some (K, B, k') => (nI (tot B), (K, B, [], k', im, ls, tx, pp))
set_option maxHeartbeats 8000000 in
theorem c_X8_undo {l : Launch} {S : ST} {μ : Mem} {Q : Option Value → Mem → Prop} (hC : CR μ S) (hQ : ∀ μ', frm cL μ μ' → CR μ' (sp_undo S).2 → Q (some (.int (sp_undo S).1)) μ') : CC l 4 mX8_undo [.ref 0] μ Q := by
  refine CC.of (M := mX8_undo) (by decide +kernel) rfl (fun v h => by simp at h; subst h; rfl) (Nat.le_of_ble_eq_true rfl) (fun X hX => ?_)
  have hc := hX.cx
  obtain ⟨K, B, hs, ks, im, ls, tx, pp⟩ := S
  obtain ⟨a1, a2, a3, a4, a5, a6, a7⟩ := id hC
  dsimp only [sp_undo] at hQ
  match im, hC, hQ, a4 with
  | none, hC, hQ, a4 =>
    have a4 : μ 0 7 = 0 := a4
    refine tt_al0 (q := 1) hc dX8_undo_0 rfl ?_
    refine tt_getI (q := 4) hc fl_X8_234 (by first | assumption | exact ⟨by decide, _, rfl, _, rfl⟩) dX8_undo_1 rfl ?_
    rw [a4]
    first | (with_reducible refine chkb ?_; refine tt_ifneB (t := 10) (q := 7) hc dX8_undo_4 rfl rfl (fun c_4 => ?_) (fun c_4 => ?_)) | (with_reducible refine chk1 ?_; refine tt_ifneN (t := 10) (q := 7) hc (by omega) dX8_undo_4 rfl rfl (fun c_4 => ?_) (fun c_4 => ?_)) | refine tt_ifne (t := 10) (q := 7) hc dX8_undo_4 rfl rfl (fun c_4 => ?_) (fun c_4 => ?_)
    · exact absurd rfl c_4
    · refine tt_bipush (v := -3) (q := 9) hc (by decide) dX8_undo_7 rfl ?_
      refine tt_reti hX rfl dX8_undo_9 ?_
      exact hQ μ frm.rf hC
  | some (K', B', k'), hC, hQ, a4 =>
    obtain ⟨d1, d2, d3, d4⟩ := a4
    have hlk : k'.length ≤ ks.length := by
      have := congrArg List.length d4
      rw [List.length_take] at this
      omega
    have h4 := a3.1
    have F : ∀ (ν : Mem), frm [40, 41] μ ν → RC ν 0 K' B' → ∀ ρ, frm [4] ν ρ → ρ 4 1 = nI k'.length → TT X 32 [.ref 0] [] ρ := by
      intro ν hf hR ρ hf2 e1
      have b1 := hR.frm hf2 (by decide) (by decide)
      have b3 : SR ρ k' := ⟨by omega, e1, fun i q hq => by
        have hi := (List.getElem?_eq_some_iff.mp hq).1
        have hq2 : ks[i]? = some q := by rw [← hq, ← d4, List.getElem?_take, if_pos (by omega)]
        have := (a3.2.2 i q hq2)
        exact (this.frm hf (by simp; omega) (by simp; omega)).frm hf2 (by simp; omega) (by simp; omega)⟩
      have b4 : IMc ρ (some (K', B', k')) k' := ⟨by rw [hf2 0 (by decide), hf 0 (by decide)]; exact d1, (d2.frm hf (by decide) (by decide)).frm hf2 (by decide) (by decide), by rw [hf2 0 (by decide), hf 0 (by decide)]; exact d3, List.take_length⟩
      refine tt_al0 (q := 33) hc dX8_undo_32 rfl ?_
      refine tt_getR (q := 36) hc fl_X8_28 (by first | assumption | exact ⟨by decide, _, rfl, rfl⟩) dX8_undo_33 rfl ?_
      refine tt_cV0 (q := 39) (d' := 0) (ci := 2) hc (by first | decide | omega) kmX2_forget ml_X8_89 (by first | assumption | exact ⟨by decide, _, rfl⟩) rfl (Nat.le_of_ble_eq_true rfl) dX8_undo_36 rfl ?_
      refine c_X2_forget ((a2.frm hf (by decide)).frm hf2 (by decide)) (fun ν1 hf1 hP => ?_)
      have b1' := b1.frm hf1 (by decide) (by decide)
      dsimp only [Option.toList, List.nil_append, List.cons_append]
      refine tt_al0 (q := 40) hc dX8_undo_39 rfl ?_
      refine tt_getR (q := 43) hc fl_X8_12 (by first | assumption | exact ⟨by decide, _, rfl, rfl⟩) dX8_undo_40 rfl ?_
      refine tt_cV0 (q := 46) (d' := 0) (ci := 0) hc (by first | decide | omega) kmX0_total ml_X8_99 (by first | assumption | exact ⟨by decide, _, rfl⟩) rfl (Nat.le_of_ble_eq_true rfl) dX8_undo_43 rfl ?_
      refine c_X0_total (j := 0) (by decide) b1' ?_
      dsimp only [Option.toList, List.nil_append, List.cons_append]
      refine tt_reti hX rfl dX8_undo_46 ?_
      exact hQ ν1 ((hf.cl (by decide)).tr ((hf2.cl (by decide)).tr (hf1.cl (by decide)))) ⟨b1', hP _, b3.frm hf1 (by decide), b4.frm hf1 (by decide) (by decide) (by decide), ((a5.frm hf (by decide) (by decide)).frm hf2 (by decide) (by decide)).frm hf1 (by decide) (by decide), ((a6.frm hf (by decide) (by decide)).frm hf2 (by decide) (by decide)).frm hf1 (by decide) (by decide), ((a7.frm hf (by decide) (by decide)).frm hf2 (by decide) (by decide)).frm hf1 (by decide) (by decide)⟩
    refine tt_al0 (q := 1) hc dX8_undo_0 rfl ?_
    refine tt_getI (q := 4) hc fl_X8_234 (by first | assumption | exact ⟨by decide, _, rfl, _, rfl⟩) dX8_undo_1 rfl ?_
    rw [d1]
    first | (with_reducible refine chkb ?_; refine tt_ifneB (t := 10) (q := 7) hc dX8_undo_4 rfl rfl (fun c_4 => ?_) (fun c_4 => ?_)) | (with_reducible refine chk1 ?_; refine tt_ifneN (t := 10) (q := 7) hc (by omega) dX8_undo_4 rfl rfl (fun c_4 => ?_) (fun c_4 => ?_)) | refine tt_ifne (t := 10) (q := 7) hc dX8_undo_4 rfl rfl (fun c_4 => ?_) (fun c_4 => ?_)
    · refine tt_al0 (q := 11) hc dX8_undo_10 rfl ?_
      refine tt_getR (q := 14) hc fl_X8_12 (by first | assumption | exact ⟨by decide, _, rfl, rfl⟩) dX8_undo_11 rfl ?_
      refine tt_al0 (q := 15) hc dX8_undo_14 rfl ?_
      refine tt_getR (q := 18) hc fl_X8_39 (by first | assumption | exact ⟨by decide, _, rfl, rfl⟩) dX8_undo_15 rfl ?_
      refine tt_cV1 (q := 21) (d' := 1) (ci := 0) hc (by first | decide | omega) kmX0_copyOf ml_X8_170 (by first | assumption | exact ⟨by decide, _, rfl⟩) rfl (Nat.le_of_ble_eq_true rfl) dX8_undo_18 rfl ?_
      refine c_X0_copyOf (j := 0) (j2 := 2) (by decide) (by decide) (by decide) d2 (fun ν hf hR => ?_)
      have e3 : ν 0 6 = nI k'.length := by rw [hf 0 (by decide)]; exact d3
      dsimp only [Option.toList, List.nil_append, List.cons_append]
      refine tt_al0 (q := 22) hc dX8_undo_21 rfl ?_
      refine tt_getR (q := 25) hc fl_X8_35 (by first | assumption | exact ⟨by decide, _, rfl, rfl⟩) dX8_undo_22 rfl ?_
      refine tt_al0 (q := 26) hc dX8_undo_25 rfl ?_
      refine tt_getI (q := 29) hc fl_X8_231 (by first | assumption | exact ⟨by decide, _, rfl, _, rfl⟩) dX8_undo_26 rfl ?_
      rw [e3]
      refine tt_putI (q := 32) hc fp_X8_211 (by first | assumption | exact ⟨by decide, _, rfl, _, rfl⟩) dX8_undo_29 rfl ?_
      exact F ν hf hR _ frm.set rfl
    · exact absurd c_4 (by decide)
def sp_feed (v : Int32) (S : ST) : Int32 × ST := match S with
  | (K, B, hs, ks, im, ls, tx, pp) => if inB v (nI 0) (nI 127) = true then (if tx.length < 120 then (nI (tx.length + 1), (K, B, hs, ks, im, ls, tx ++ [v.toNatClampNeg], pp)) else (-4, S)) else (-2, S)
set_option maxHeartbeats 8000000 in
theorem c_X8_feed {l : Launch} {v : Int32} {S : ST} {μ : Mem} {Q : Option Value → Mem → Prop} (hC : CR μ S) (hQ : ∀ μ', frm cL μ μ' → CR μ' (sp_feed v S).2 → Q (some (.int (sp_feed v S).1)) μ') : CC l 1 mX8_feed [.ref 0, .int v] μ Q := by
  refine CC.of (M := mX8_feed) (by decide +kernel) rfl (fun v h => by simp at h; rcases h with rfl | rfl <;> rfl) (Nat.le_of_ble_eq_true rfl) (fun X hX => ?_)
  have hc := hX.cx
  obtain ⟨K, B, hs, ks, im, ls, tx, pp⟩ := S
  obtain ⟨a1, a2, a3, a4, a5, a6, a7⟩ := id hC
  dsimp only [sp_feed] at hQ
  have F : ∀ (b : Nat) (ν : Mem), inB (nI b) (nI 0) (nI 127) = true → ν = μ → 120 ≤ tx.length → v = nI b → TT X 21 [.ref 0, .int (nI b)] [.int (bI false)] ν := by
    intro b ν hin e h1 hv
    subst hv
    rw [if_pos hin, if_neg (by omega)] at hQ
    subst e
    first | (with_reducible refine chkb ?_; refine tt_ifeqB (t := 34) (q := 24) hc dX8_feed_21 rfl rfl (fun c_21 => ?_) (fun c_21 => ?_)) | (with_reducible refine chk1 ?_; refine tt_ifeqN (t := 34) (q := 24) hc (by omega) dX8_feed_21 rfl rfl (fun c_21 => ?_) (fun c_21 => ?_)) | refine tt_ifeq (t := 34) (q := 24) hc dX8_feed_21 rfl rfl (fun c_21 => ?_) (fun c_21 => ?_)
    · refine tt_bipush (v := -4) (q := 36) hc (by decide) dX8_feed_34 rfl ?_
      refine tt_reti hX rfl dX8_feed_36 ?_
      exact hQ ν frm.rf hC
    · exact absurd c_21 (by decide)
  have T : ∀ (b : Nat) (ν : Mem), b < 128 → inB (nI b) (nI 0) (nI 127) = true → frm [18, 19] μ ν → XR ν (tx ++ [b]) → tx.length < 120 → v = nI b → TT X 21 [.ref 0, .int (nI b)] [.int (bI true)] ν := by
    intro b ν hb hin hf hX6 h1 hv
    subst hv
    rw [if_pos hin, if_pos h1, nI_clamp (by omega)] at hQ
    have e1 : ν 18 1 = nI (tx.length + 1) := by rw [hX6.2.1, List.length_append]; rfl
    first | (with_reducible refine chkb ?_; refine tt_ifeqB (t := 34) (q := 24) hc dX8_feed_21 rfl rfl (fun c_21 => ?_) (fun c_21 => ?_)) | (with_reducible refine chk1 ?_; refine tt_ifeqN (t := 34) (q := 24) hc (by omega) dX8_feed_21 rfl rfl (fun c_21 => ?_) (fun c_21 => ?_)) | refine tt_ifeq (t := 34) (q := 24) hc dX8_feed_21 rfl rfl (fun c_21 => ?_) (fun c_21 => ?_)
    · exact absurd c_21 (by decide)
    · refine tt_al0 (q := 25) hc dX8_feed_24 rfl ?_
      refine tt_getR (q := 28) hc fl_X8_73 (by first | assumption | exact ⟨by decide, _, rfl, rfl⟩) dX8_feed_25 rfl ?_
      refine tt_getI (q := 31) hc fl_X8_240 (by first | assumption | exact ⟨by decide, _, rfl, _, rfl⟩) dX8_feed_28 rfl ?_
      rw [e1]
      refine tt_goto (t := 36) hc dX8_feed_31 rfl ?_
      refine tt_reti hX rfl dX8_feed_36 ?_
      exact hQ ν (hf.cl (by decide)) ⟨a1.frm hf (by decide) (by decide), a2.frm hf (by decide), a3.frm hf (by decide), a4.frm hf (by decide) (by decide) (by decide), a5.frm hf (by decide) (by decide), hX6, a7.frm hf (by decide) (by decide)⟩
  refine tt_il1 (q := 1) hc dX8_feed_0 rfl ?_
  refine tt_iflt (t := 10) (q := 4) hc dX8_feed_1 rfl rfl (fun c_1 => ?_) (fun c_1 => ?_)
  · refine tt_bipush (v := -2) (q := 12) hc (by decide) dX8_feed_10 rfl ?_
    refine tt_reti hX rfl dX8_feed_12 ?_
    first
    | (rw [if_neg (by rw [inB_lo (a := nI 0) c_1]; exact Bool.false_ne_true)] at hQ; exact hQ μ frm.rf hC)
    | (rw [if_neg (by rw [inB_hi (b := nI 127) (Int32.not_le.mp c_7)]; exact Bool.false_ne_true)] at hQ; exact hQ μ frm.rf hC)
  · refine tt_il1 (q := 5) hc dX8_feed_4 rfl ?_
    refine tt_bipush (v := nI 127) (q := 7) hc (by decide) dX8_feed_5 rfl ?_
    first | (with_reducible refine chk2 ?_; refine tt_icleN (t := 13) (q := 10) hc (by omega) (by omega) dX8_feed_7 rfl rfl (fun c_7 => ?_) (fun c_7 => ?_)) | refine tt_icle (t := 13) (q := 10) hc dX8_feed_7 rfl rfl (fun c_7 => ?_) (fun c_7 => ?_)
    · have hin : inB v (nI 0) (nI 127) = true := inB_in c_1 (Int32.not_lt.mpr c_7)
      obtain ⟨b, -, hb, hv⟩ := inB_t (by decide) (by decide) hin
      rw [hv] at hin ⊢
      refine tt_al0 (q := 14) hc dX8_feed_13 rfl ?_
      refine tt_getR (q := 17) hc fl_X8_73 (by first | assumption | exact ⟨by decide, _, rfl, rfl⟩) dX8_feed_14 rfl ?_
      refine tt_il1 (q := 18) hc dX8_feed_17 rfl ?_
      refine tt_cV1 (q := 21) (d' := 0) (ci := 6) hc (by first | decide | omega) kmX6_add ml_X8_238 (by first | assumption | exact ⟨by decide, _, rfl⟩) rfl (Nat.le_of_ble_eq_true rfl) dX8_feed_18 rfl ?_
      refine c_X6_add (by omega) a6 (fun h1 => F b μ hin rfl h1 hv) (fun h1 ν hf hX6 _ => ?_)
      dsimp only [Option.toList, List.nil_append, List.cons_append]
      exact T b ν (by omega) hin hf hX6 h1 hv
    · refine tt_bipush (v := -2) (q := 12) hc (by decide) dX8_feed_10 rfl ?_
      refine tt_reti hX rfl dX8_feed_12 ?_
      first
      | (rw [if_neg (by rw [inB_lo (a := nI 0) c_1]; exact Bool.false_ne_true)] at hQ; exact hQ μ frm.rf hC)
      | (rw [if_neg (by rw [inB_hi (b := nI 127) (Int32.not_le.mp c_7)]; exact Bool.false_ne_true)] at hQ; exact hQ μ frm.rf hC)
