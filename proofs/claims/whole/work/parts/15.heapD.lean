/-! HEAP: become, reads by loops -/
def made (K : Nat) : Nat → (Nat → Bool)
  | 1 => tog (fun _ => false) (arcN K 0)
  | 2 => togA (fun _ => false) (2 * 2 ^ K - 1)
  | 3 => arcsB K (8 - K + 1) 0 (fun _ => false)
  | 4 => arcsB K 8 0 (fun _ => false)
  | 5 => crsB K (2 ^ K) 0 (fun _ => false)
  | _ => fun _ => false
set_option maxHeartbeats 4000000 in
theorem c_X0_become {l : Launch} {j K kd : Nat} (hj : j < 16) {B : Nat → Bool} {μ : Mem} {Q : Option Value → Mem → Prop} (hR : RC μ j K B) (hkd : kd < 6) (hQ : ∀ μ', frm [40 + 2 * j, 40 + 2 * j + 1] μ μ' → RC μ' j K (made K kd) → Q none μ') : CC l 2 mX0_become [.ref (40 + 2 * j), .int (nI kd)] μ Q := by
  refine CC.of (M := mX0_become) (by decide +kernel) rfl (fun v h => by simp at h; rcases h with rfl | rfl <;> rfl) (Nat.le_of_ble_eq_true rfl) (fun X hX => ?_)
  have hc := hX.cx
  have ho : HO (40 + 2 * j) 0 := ⟨by omega, _, sh_ho hj⟩
  have hk : HI (40 + 2 * j) 0 0 := ⟨by omega, _, sh_ho hj, _, rfl⟩
  have hK := hR.1.1
  have h2K : 2 ^ K ≤ 16 := by rcases hK with rfl | rfl <;> decide
  have h2K1 : 1 ≤ 2 ^ K := Nat.two_pow_pos K
  have SW : ∀ ν, (∀ ν', frm [40 + 2 * j + 1] ν ν' → RC ν' j K (made K kd) → Q none ν') → RC ν j K (fun _ => false) → TT X 9 [.ref (40 + 2 * j), .int (nI kd)] [.int (nI kd)] ν := by
    intro ν h hE
    rcases (show kd = 0 ∨ kd = 1 ∨ kd = 2 ∨ kd = 3 ∨ kd = 4 ∨ kd = 5 by omega) with rfl | rfl | rfl | rfl | rfl | rfl
    · refine tt_tswO (t := 103) hc dX0_become_9 (by decide) rfl ?_
      refine tt_retv hX rfl dX0_become_103 ?_
      exact h ν frm.rf hE
    · refine tt_tswI (t := 44) hc dX0_become_9 (by decide) (by decide) rfl rfl ?_
      have ha := arc_ok K (by omega) (by omega) 0 (by omega)
      refine tt_al0 (q := 45) hc dX0_become_44 rfl ?_
      refine tt_al0 (q := 46) hc dX0_become_45 rfl ?_
      refine tt_iconst (v := nI 0) (q := 47) hc rfl dX0_become_46 rfl ?_
      refine tt_cV1 (q := 50) (d' := 0) (ci := 0) hc (by decide) kmX0_arc ml_X0_38 (by first | assumption | exact ⟨by decide, _, rfl⟩) rfl (Nat.le_of_ble_eq_true rfl) dX0_become_47 rfl ?_
      refine c_X0_arc hj hE ?_
      dsimp only [Option.toList, List.nil_append, List.cons_append]
      refine tt_cV1 (q := 53) (d' := 0) (ci := 0) hc (by decide) kmX0_toggle ml_X0_31 (by first | assumption | exact ⟨by decide, _, rfl⟩) rfl (Nat.le_of_ble_eq_true rfl) dX0_become_50 rfl ?_
      refine c_X0_toggle hj hE ha.1 ha.2 (fun ν' hf hR' => ?_)
      dsimp only [Option.toList, List.nil_append, List.cons_append]
      refine tt_goto (t := 103) hc dX0_become_53 rfl ?_
      refine tt_retv hX rfl dX0_become_103 ?_
      exact h _ hf hR'
    · refine tt_tswI (t := 56) hc dX0_become_9 (by decide) (by decide) rfl rfl ?_
      have hpts : 2 * 2 ^ K - 1 < 256 ∧ pop (2 * 2 ^ K - 1) = K + 1 := by rcases hK with rfl | rfl <;> decide
      refine tt_al0 (q := 57) hc dX0_become_56 rfl ?_
      refine tt_iconst (v := nI 2) (q := 58) hc rfl dX0_become_57 rfl ?_
      refine tt_al0 (q := 59) hc dX0_become_58 rfl ?_
      refine tt_getI (q := 62) hc fl_X0_9 (by first | assumption | exact ⟨by decide, _, rfl, _, rfl⟩) dX0_become_59 rfl ?_
      rw [hE.2.1]
      first | (with_reducible refine chks ?_; refine tt_ishl1 (q := 63) hc (by omega) dX0_become_62 rfl ?_) | (with_reducible refine chk2 ?_; refine tt_ishlN (q := 63) hc (by omega) (by omega) dX0_become_62 rfl ?_) | refine tt_ishl (q := 63) hc dX0_become_62 rfl ?_
      refine tt_iconst (v := nI 1) (q := 64) hc rfl dX0_become_63 rfl ?_
      first | (with_reducible refine chk2 ?_; refine tt_isubN (q := 65) hc (by omega) dX0_become_64 rfl ?_) | refine tt_isub (q := 65) hc dX0_become_64 rfl ?_
      refine tt_cV1 (q := 68) (d' := 1) (ci := 0) hc (by decide) kmX0_toggleAround ml_X0_41 (by first | assumption | exact ⟨by decide, _, rfl⟩) rfl (Nat.le_of_ble_eq_true rfl) dX0_become_65 rfl ?_
      refine c_X0_toggleAround hj hE hpts.1 hpts.2 (fun ν' hf hR' => ?_)
      dsimp only [Option.toList, List.nil_append, List.cons_append]
      refine tt_goto (t := 103) hc dX0_become_68 rfl ?_
      refine tt_retv hX rfl dX0_become_103 ?_
      exact h _ hf hR'
    · refine tt_tswI (t := 71) hc dX0_become_9 (by decide) (by decide) rfl rfl ?_
      refine tt_al0 (q := 72) hc dX0_become_71 rfl ?_
      refine tt_bipush (v := nI 8) (q := 74) hc (by decide) dX0_become_72 rfl ?_
      refine tt_al0 (q := 75) hc dX0_become_74 rfl ?_
      refine tt_getI (q := 78) hc fl_X0_9 (by first | assumption | exact ⟨by decide, _, rfl, _, rfl⟩) dX0_become_75 rfl ?_
      rw [hE.2.1]
      first | (with_reducible refine chk2 ?_; refine tt_isubN (q := 79) hc (by omega) dX0_become_78 rfl ?_) | refine tt_isub (q := 79) hc dX0_become_78 rfl ?_
      refine tt_iconst (v := nI 1) (q := 80) hc rfl dX0_become_79 rfl ?_
      first | (with_reducible refine chk2 ?_; refine tt_iaddN (q := 81) hc dX0_become_80 rfl ?_) | refine tt_iadd (q := 81) hc dX0_become_80 rfl ?_
      refine tt_cV1 (q := 84) (d' := 1) (ci := 0) hc (by decide) kmX0_addArcs ml_X0_44 (by first | assumption | exact ⟨by decide, _, rfl⟩) rfl (Nat.le_of_ble_eq_true rfl) dX0_become_81 rfl ?_
      refine c_X0_addArcs hj hE (by omega) (fun ν' hf hR' => ?_)
      dsimp only [Option.toList, List.nil_append, List.cons_append]
      refine tt_goto (t := 103) hc dX0_become_84 rfl ?_
      refine tt_retv hX rfl dX0_become_103 ?_
      exact h _ hf hR'
    · refine tt_tswI (t := 87) hc dX0_become_9 (by decide) (by decide) rfl rfl ?_
      refine tt_al0 (q := 88) hc dX0_become_87 rfl ?_
      refine tt_bipush (v := nI 8) (q := 90) hc (by decide) dX0_become_88 rfl ?_
      refine tt_cV1 (q := 93) (d' := 1) (ci := 0) hc (by decide) kmX0_addArcs ml_X0_44 (by first | assumption | exact ⟨by decide, _, rfl⟩) rfl (Nat.le_of_ble_eq_true rfl) dX0_become_90 rfl ?_
      refine c_X0_addArcs hj hE (by omega) (fun ν' hf hR' => ?_)
      dsimp only [Option.toList, List.nil_append, List.cons_append]
      refine tt_goto (t := 103) hc dX0_become_93 rfl ?_
      refine tt_retv hX rfl dX0_become_103 ?_
      exact h _ hf hR'
    · refine tt_tswI (t := 96) hc dX0_become_9 (by decide) (by decide) rfl rfl ?_
      refine tt_al0 (q := 97) hc dX0_become_96 rfl ?_
      refine tt_cV0 (q := 100) (d' := 1) (ci := 0) hc (by decide) kmX0_addCross ml_X0_47 (by first | assumption | exact ⟨by decide, _, rfl⟩) rfl (Nat.le_of_ble_eq_true rfl) dX0_become_97 rfl ?_
      refine c_X0_addCross hj hE (fun ν' hf hR' => ?_)
      dsimp only [Option.toList, List.nil_append, List.cons_append]
      refine tt_goto (t := 103) hc dX0_become_100 rfl ?_
      refine tt_retv hX rfl dX0_become_103 ?_
      exact h _ hf hR'
  refine tt_al0 (q := 1) hc dX0_become_0 rfl ?_
  refine tt_al0 (q := 2) hc dX0_become_1 rfl ?_
  refine tt_getI (q := 5) hc fl_X0_9 (by first | assumption | exact ⟨by decide, _, rfl, _, rfl⟩) dX0_become_2 rfl ?_
  rw [hR.2.1]
  refine tt_cV1 (q := 8) (d' := 0) (ci := 0) hc (by decide) kmX0_empty ml_X0_35 (by first | assumption | exact ⟨by decide, _, rfl⟩) rfl (Nat.le_of_ble_eq_true rfl) dX0_become_5 rfl ?_
  refine c_X0_empty hj hK (fun ν hf hE => ?_)
  dsimp only [Option.toList, List.nil_append, List.cons_append]
  refine tt_il1 (q := 9) hc dX0_become_8 rfl ?_
  exact SW ν (fun ν' hf' h' => hQ ν' (hf.tr (hf'.mono (fun i hi => List.mem_cons_of_mem _ hi))) h') hE
set_option maxHeartbeats 4000000 in
theorem c_X0_setAt {l : Launch} {j K pts hol i : Nat} (hj : j < 16) {B : Nat → Bool} {μ : Mem} {Q : Option Value → Mem → Prop} (hR : RC μ j K B) (hp : pts < 256) (hh : hol < 256) (hi : i < 2 ^ 31) (hQ : Q (some (.int (onI (nth (fun s => decide (cW B s = hol) && decide (pop s = pts)) 255 1 i)))) μ) : CC l 1 mX0_setAt [.ref (40 + 2 * j), .int (nI pts), .int (nI hol), .int (nI i)] μ Q := by
  refine CC.of (M := mX0_setAt) (by decide +kernel) rfl (fun v h => by simp at h; rcases h with rfl | rfl | rfl | rfl <;> rfl) (Nat.le_of_ble_eq_true rfl) (fun X hX => ?_)
  have hc := hX.cx
  have hw : HR (40 + 2 * j) 0 1 (40 + 2 * j + 1) := ⟨by omega, _, sh_ho hj, rfl⟩
  have hA : HA (40 + 2 * j + 1) 0 256 := ⟨by omega, sh_hw hj, by decide⟩
  have L : ∀ (n s left : Nat), s + n = 256 → left < 2 ^ 31 → Q (some (.int (onI (nth (fun s => decide (cW B s = hol) && decide (pop s = pts)) n s left)))) μ → TT X 6 [.ref (40 + 2 * j), .int (nI pts), .int (nI hol), .int (nI i), .int (nI left), .int (nI s)] [] μ := by
    intro n
    induction n with
    | zero =>
      intro s left hs hl h
      refine tt_il5 (q := 8) hc dX0_setAt_6 rfl ?_
      refine tt_sipush (v := nI 256) (q := 11) hc (by decide) dX0_setAt_8 rfl ?_
      first | (with_reducible refine chk2 ?_; refine tt_icgeN (t := 51) (q := 14) hc (by omega) (by omega) dX0_setAt_11 rfl rfl (fun c_11 => ?_) (fun c_11 => ?_)) | refine tt_icge (t := 51) (q := 14) hc dX0_setAt_11 rfl rfl (fun c_11 => ?_) (fun c_11 => ?_)
      · refine tt_bipush (v := -5) (q := 53) hc (by decide) dX0_setAt_51 rfl ?_
        refine tt_reti hX rfl dX0_setAt_53 ?_
        exact h
      · omega
    | succ n ih =>
      intro s left hs hl h
      have h1 := cW_le B s
      have h2 := pop_le s (by omega)
      rw [nth] at h
      refine tt_il5 (q := 8) hc dX0_setAt_6 rfl ?_
      refine tt_sipush (v := nI 256) (q := 11) hc (by decide) dX0_setAt_8 rfl ?_
      first | (with_reducible refine chk2 ?_; refine tt_icgeN (t := 51) (q := 14) hc (by omega) (by omega) dX0_setAt_11 rfl rfl (fun c_11 => ?_) (fun c_11 => ?_)) | refine tt_icge (t := 51) (q := 14) hc dX0_setAt_11 rfl rfl (fun c_11 => ?_) (fun c_11 => ?_)
      · omega
      · refine tt_al0 (q := 15) hc dX0_setAt_14 rfl ?_
        refine tt_getR (q := 18) hc fl_X0_15 (by first | assumption | exact ⟨by decide, _, rfl, rfl⟩) dX0_setAt_15 rfl ?_
        refine tt_il5 (q := 20) hc dX0_setAt_18 rfl ?_
        refine tt_iald (q := 21) hc (by first | assumption | exact ⟨by decide, rfl, by decide⟩) (by omega) dX0_setAt_20 rfl ?_
        rw [hR.2.2 s (by omega)]
        refine tt_il2 (q := 22) hc dX0_setAt_21 rfl ?_
        first | (with_reducible refine chk2 ?_; refine tt_icneN (t := 45) (q := 25) hc (by omega) (by omega) dX0_setAt_22 rfl rfl (fun c_22 => ?_) (fun c_22 => ?_)) | refine tt_icne (t := 45) (q := 25) hc dX0_setAt_22 rfl rfl (fun c_22 => ?_) (fun c_22 => ?_)
        · first | refine tt_inc5 (q := 48) hc dX0_setAt_45 rfl (by decide) (incN _) ?_ | refine tt_inc5 (q := 48) hc dX0_setAt_45 rfl (by decide) rfl ?_
          refine tt_goto (t := 6) hc dX0_setAt_48 rfl ?_
          first
          | (refine ih _ _ (by omega) (by omega) ?_; rw [decide_eq_false c_22, Bool.false_and, if_neg Bool.false_ne_true] at h; exact h)
          | (refine ih _ _ (by omega) (by omega) ?_; rw [decide_eq_false c_31, Bool.and_false, if_neg Bool.false_ne_true] at h; exact h)
          | (refine ih _ _ (by omega) (by omega) ?_; rw [decide_eq_true c_22, decide_eq_true c_31, Bool.and_self, if_pos rfl, if_neg (by omega)] at h; exact h)
        · refine tt_il5 (q := 27) hc dX0_setAt_25 rfl ?_
          refine tt_cS1 (q := 30) (d' := 0) hc (by decide) kmJ6_bitCount_0f7a4 ml_X0_25 (Nat.le_of_ble_eq_true rfl) dX0_setAt_27 rfl ?_
          refine c_J6_bitCount_0f7a4 ?_
          dsimp only [Option.toList, List.nil_append, List.cons_append]
          refine tt_il1 (q := 31) hc dX0_setAt_30 rfl ?_
          first | (with_reducible refine chk2 ?_; refine tt_icneN (t := 45) (q := 34) hc (by omega) (by omega) dX0_setAt_31 rfl rfl (fun c_31 => ?_) (fun c_31 => ?_)) | refine tt_icne (t := 45) (q := 34) hc dX0_setAt_31 rfl rfl (fun c_31 => ?_) (fun c_31 => ?_)
          · first | refine tt_inc5 (q := 48) hc dX0_setAt_45 rfl (by decide) (incN _) ?_ | refine tt_inc5 (q := 48) hc dX0_setAt_45 rfl (by decide) rfl ?_
            refine tt_goto (t := 6) hc dX0_setAt_48 rfl ?_
            first
            | (refine ih _ _ (by omega) (by omega) ?_; rw [decide_eq_false c_22, Bool.false_and, if_neg Bool.false_ne_true] at h; exact h)
            | (refine ih _ _ (by omega) (by omega) ?_; rw [decide_eq_false c_31, Bool.and_false, if_neg Bool.false_ne_true] at h; exact h)
            | (refine ih _ _ (by omega) (by omega) ?_; rw [decide_eq_true c_22, decide_eq_true c_31, Bool.and_self, if_pos rfl, if_neg (by omega)] at h; exact h)
          · refine tt_il4 (q := 36) hc dX0_setAt_34 rfl ?_
            first | (with_reducible refine chkb ?_; refine tt_ifneB (t := 42) (q := 39) hc dX0_setAt_36 rfl rfl (fun c_36 => ?_) (fun c_36 => ?_)) | (with_reducible refine chk1 ?_; refine tt_ifneN (t := 42) (q := 39) hc (by omega) dX0_setAt_36 rfl rfl (fun c_36 => ?_) (fun c_36 => ?_)) | refine tt_ifne (t := 42) (q := 39) hc dX0_setAt_36 rfl rfl (fun c_36 => ?_) (fun c_36 => ?_)
            · obtain ⟨k, rfl⟩ : ∃ k, left = k + 1 := ⟨left - 1, by omega⟩
              refine tt_inc4 (q := 45) (v := nI k) hc dX0_setAt_42 rfl (by decide) (pk_m1 k) ?_
              first | refine tt_inc5 (q := 48) hc dX0_setAt_45 rfl (by decide) (incN _) ?_ | refine tt_inc5 (q := 48) hc dX0_setAt_45 rfl (by decide) rfl ?_
              refine tt_goto (t := 6) hc dX0_setAt_48 rfl ?_
              first
              | (refine ih _ _ (by omega) (by omega) ?_; rw [decide_eq_false c_22, Bool.false_and, if_neg Bool.false_ne_true] at h; exact h)
              | (refine ih _ _ (by omega) (by omega) ?_; rw [decide_eq_false c_31, Bool.and_false, if_neg Bool.false_ne_true] at h; exact h)
              | (refine ih _ _ (by omega) (by omega) ?_; rw [decide_eq_true c_22, decide_eq_true c_31, Bool.and_self, if_pos rfl, if_neg (by omega)] at h; exact h)
            · refine tt_il5 (q := 41) hc dX0_setAt_39 rfl ?_
              refine tt_reti hX rfl dX0_setAt_41 ?_
              rw [decide_eq_true c_22, decide_eq_true c_31, Bool.and_self, if_pos rfl, if_pos c_36] at h
              exact h
  refine tt_il3 (q := 1) hc dX0_setAt_0 rfl ?_
  refine tt_is4 (q := 3) hc dX0_setAt_1 rfl (by decide) ?_
  refine tt_iconst (v := nI 1) (q := 4) hc rfl dX0_setAt_3 rfl ?_
  refine tt_is5 (q := 6) hc dX0_setAt_4 rfl (by decide) ?_
  exact L 255 1 i rfl hi hQ
/-- the points beyond s that are with s in a body -/
def lkp (B : Nat → Bool) (s : Nat) : Nat → Nat → Nat → Nat
  | 0, _, r => r
  | n + 1, p, r => lkp B s n (p + 1) (if s &&& 2 ^ p = 0 ∧ 0 < cW B (s ||| 2 ^ p) then r ||| 2 ^ p else r)
def lkP (B : Nat → Bool) (s : Nat) : Nat := lkp B s 8 0 0
theorem or_lt {a b : Nat} (ha : a < 256) (hb : b < 256) : a ||| b < 256 := Nat.or_lt_two_pow (n := 8) ha hb
theorem and_lt {a b : Nat} (ha : a < 256) : a &&& b < 256 := Nat.lt_of_le_of_lt Nat.and_le_left ha
theorem p2_lt {p : Nat} (h : p < 8) : 2 ^ p < 256 := Nat.pow_lt_pow_right (n := 8) (by decide) h
set_option maxHeartbeats 4000000 in
theorem c_X0_linkPoints {l : Launch} {j K s : Nat} (hj : j < 16) {B : Nat → Bool} {μ : Mem} {Q : Option Value → Mem → Prop} (hR : RC μ j K B) (hQ : Q (some (.int (nI (lkP B s)))) μ) (hs : s < 256 := by omega) : CC l 0 mX0_linkPoints [.ref (40 + 2 * j), .int (nI s)] μ Q := by
  refine CC.of (M := mX0_linkPoints) (by decide +kernel) rfl (fun v h => by simp at h; rcases h with rfl | rfl <;> rfl) (Nat.le_of_ble_eq_true rfl) (fun X hX => ?_)
  have hc := hX.cx
  have hw : HR (40 + 2 * j) 0 1 (40 + 2 * j + 1) := ⟨by omega, _, sh_ho hj, rfl⟩
  have hA : HA (40 + 2 * j + 1) 0 256 := ⟨by omega, sh_hw hj, by decide⟩
  have L : ∀ (n p r : Nat) (w : Value), p + n = 8 → Q (some (.int (nI (lkp B s n p r)))) μ → TT X 4 [.ref (40 + 2 * j), .int (nI s), .int (nI r), .int (nI p), w] [] μ := by
    intro n
    induction n with
    | zero =>
      intro p r w hp h
      refine tt_il3 (q := 5) hc dX0_linkPoints_4 rfl ?_
      refine tt_bipush (v := nI 8) (q := 7) hc (by decide) dX0_linkPoints_5 rfl ?_
      first | (with_reducible refine chk2 ?_; refine tt_icgeN (t := 45) (q := 10) hc (by omega) (by omega) dX0_linkPoints_7 rfl rfl (fun c_7 => ?_) (fun c_7 => ?_)) | refine tt_icge (t := 45) (q := 10) hc dX0_linkPoints_7 rfl rfl (fun c_7 => ?_) (fun c_7 => ?_)
      · refine tt_il2 (q := 46) hc dX0_linkPoints_45 rfl ?_
        refine tt_reti hX rfl dX0_linkPoints_46 ?_
        exact h
      · omega
    | succ n ih =>
      intro p r w hp h
      have h1 : s &&& 2 ^ p < 256 := and_lt hs
      have h2 := or_lt hs (p2_lt (p := p) (by omega))
      have h3 := cW_le B (s ||| 2 ^ p)
      rw [lkp] at h
      refine tt_il3 (q := 5) hc dX0_linkPoints_4 rfl ?_
      refine tt_bipush (v := nI 8) (q := 7) hc (by decide) dX0_linkPoints_5 rfl ?_
      first | (with_reducible refine chk2 ?_; refine tt_icgeN (t := 45) (q := 10) hc (by omega) (by omega) dX0_linkPoints_7 rfl rfl (fun c_7 => ?_) (fun c_7 => ?_)) | refine tt_icge (t := 45) (q := 10) hc dX0_linkPoints_7 rfl rfl (fun c_7 => ?_) (fun c_7 => ?_)
      · omega
      · refine tt_iconst (v := nI 1) (q := 11) hc rfl dX0_linkPoints_10 rfl ?_
        refine tt_il3 (q := 12) hc dX0_linkPoints_11 rfl ?_
        first | (with_reducible refine chks ?_; refine tt_ishl1 (q := 13) hc (by omega) dX0_linkPoints_12 rfl ?_) | (with_reducible refine chk2 ?_; refine tt_ishlN (q := 13) hc (by omega) (by omega) dX0_linkPoints_12 rfl ?_) | refine tt_ishl (q := 13) hc dX0_linkPoints_12 rfl ?_
        refine tt_is4 (q := 15) hc dX0_linkPoints_13 rfl (by decide) ?_
        refine tt_il1 (q := 16) hc dX0_linkPoints_15 rfl ?_
        refine tt_il4 (q := 18) hc dX0_linkPoints_16 rfl ?_
        first | (with_reducible refine chk2 ?_; refine tt_iandN (q := 19) hc dX0_linkPoints_18 rfl ?_) | (with_reducible refine chkan ?_; refine tt_iandnN (q := 19) hc dX0_linkPoints_18 rfl ?_) | (with_reducible refine chkna ?_; refine tt_inandN (q := 19) hc dX0_linkPoints_18 rfl ?_) | refine tt_iand (q := 19) hc dX0_linkPoints_18 rfl ?_
        first | (with_reducible refine chkb ?_; refine tt_ifneB (t := 39) (q := 22) hc dX0_linkPoints_19 rfl rfl (fun c_19 => ?_) (fun c_19 => ?_)) | (with_reducible refine chk1 ?_; refine tt_ifneN (t := 39) (q := 22) hc (by omega) dX0_linkPoints_19 rfl rfl (fun c_19 => ?_) (fun c_19 => ?_)) | refine tt_ifne (t := 39) (q := 22) hc dX0_linkPoints_19 rfl rfl (fun c_19 => ?_) (fun c_19 => ?_)
        · first | refine tt_inc3 (q := 42) hc dX0_linkPoints_39 rfl (by decide) (incN _) ?_ | refine tt_inc3 (q := 42) hc dX0_linkPoints_39 rfl (by decide) rfl ?_
          refine tt_goto (t := 4) hc dX0_linkPoints_42 rfl ?_
          first
          | (refine ih _ _ _ (by omega) ?_; rw [if_neg (by omega)] at h; exact h)
          | (refine ih _ _ _ (by omega) ?_; rw [if_pos ⟨c_19, c_31⟩] at h; exact h)
        · refine tt_al0 (q := 23) hc dX0_linkPoints_22 rfl ?_
          refine tt_getR (q := 26) hc fl_X0_15 (by first | assumption | exact ⟨by decide, _, rfl, rfl⟩) dX0_linkPoints_23 rfl ?_
          refine tt_il1 (q := 27) hc dX0_linkPoints_26 rfl ?_
          refine tt_il4 (q := 29) hc dX0_linkPoints_27 rfl ?_
          first | (with_reducible refine chk2 ?_; refine tt_iorN (q := 30) hc dX0_linkPoints_29 rfl ?_) | refine tt_ior (q := 30) hc dX0_linkPoints_29 rfl ?_
          refine tt_iald (q := 31) hc (by first | assumption | exact ⟨by decide, rfl, by decide⟩) (by omega) dX0_linkPoints_30 rfl ?_
          rw [hR.2.2 _ h2]
          first | (with_reducible refine chk1 ?_; refine tt_ifleN (t := 39) (q := 34) hc (by omega) dX0_linkPoints_31 rfl rfl (fun c_31 => ?_) (fun c_31 => ?_)) | refine tt_ifle (t := 39) (q := 34) hc dX0_linkPoints_31 rfl rfl (fun c_31 => ?_) (fun c_31 => ?_)
          · first | refine tt_inc3 (q := 42) hc dX0_linkPoints_39 rfl (by decide) (incN _) ?_ | refine tt_inc3 (q := 42) hc dX0_linkPoints_39 rfl (by decide) rfl ?_
            refine tt_goto (t := 4) hc dX0_linkPoints_42 rfl ?_
            first
            | (refine ih _ _ _ (by omega) ?_; rw [if_neg (by omega)] at h; exact h)
            | (refine ih _ _ _ (by omega) ?_; rw [if_pos ⟨c_19, c_31⟩] at h; exact h)
          · refine tt_il2 (q := 35) hc dX0_linkPoints_34 rfl ?_
            refine tt_il4 (q := 37) hc dX0_linkPoints_35 rfl ?_
            first | (with_reducible refine chk2 ?_; refine tt_iorN (q := 38) hc dX0_linkPoints_37 rfl ?_) | refine tt_ior (q := 38) hc dX0_linkPoints_37 rfl ?_
            refine tt_is2 (q := 39) hc dX0_linkPoints_38 rfl (by decide) ?_
            first | refine tt_inc3 (q := 42) hc dX0_linkPoints_39 rfl (by decide) (incN _) ?_ | refine tt_inc3 (q := 42) hc dX0_linkPoints_39 rfl (by decide) rfl ?_
            refine tt_goto (t := 4) hc dX0_linkPoints_42 rfl ?_
            first
            | (refine ih _ _ _ (by omega) ?_; rw [if_neg (by omega)] at h; exact h)
            | (refine ih _ _ _ (by omega) ?_; rw [if_pos ⟨c_19, c_31⟩] at h; exact h)
  refine tt_iconst (v := nI 0) (q := 1) hc rfl dX0_linkPoints_0 rfl ?_
  refine tt_is2 (q := 2) hc dX0_linkPoints_1 rfl (by decide) ?_
  refine tt_iconst (v := nI 0) (q := 3) hc rfl dX0_linkPoints_2 rfl ?_
  refine tt_is3 (q := 4) hc dX0_linkPoints_3 rfl (by decide) ?_
  exact L 8 0 0 _ rfl hQ
theorem c_X0_there {l : Launch} {j K : Nat} (hj : j < 16) {B : Nat → Bool} {μ : Mem} {Q : Option Value → Mem → Prop} (hR : RC μ j K B) (hQ : Q (some (.int (nI (lkP B 0)))) μ) : CC l 1 mX0_there [.ref (40 + 2 * j)] μ Q := by
  refine CC.of (M := mX0_there) (by decide +kernel) rfl (fun v h => by simp at h; subst h; rfl) (Nat.le_of_ble_eq_true rfl) (fun X hX => ?_)
  have hc := hX.cx
  have ho : HO (40 + 2 * j) 0 := ⟨by omega, _, sh_ho hj⟩
  refine tt_al0 (q := 1) hc dX0_there_0 rfl ?_
  refine tt_iconst (v := nI 0) (q := 2) hc rfl dX0_there_1 rfl ?_
  refine tt_cV1 (q := 5) (d' := 0) (ci := 0) hc (by decide) kmX0_linkPoints ml_X0_50 (by first | assumption | exact ⟨by decide, _, rfl⟩) rfl (Nat.le_of_ble_eq_true rfl) dX0_there_2 rfl ?_
  refine c_X0_linkPoints hj hR ?_
  dsimp only [Option.toList, List.nil_append, List.cons_append]
  refine tt_reti hX rfl dX0_there_5 ?_
  exact hQ
def lkS (B : Nat → Bool) (s : Nat) : Nat := cnt (fun b => decide (s &&& b = 0) && decide (0 < cW B (s ||| b))) 256 0
set_option maxHeartbeats 4000000 in
theorem c_X0_linkSets {l : Launch} {j K s : Nat} (hj : j < 16) {B : Nat → Bool} {μ : Mem} {Q : Option Value → Mem → Prop} (hR : RC μ j K B) (hQ : Q (some (.int (nI (lkS B s)))) μ) (hs : s < 256 := by omega) : CC l 0 mX0_linkSets [.ref (40 + 2 * j), .int (nI s)] μ Q := by
  refine CC.of (M := mX0_linkSets) (by decide +kernel) rfl (fun v h => by simp at h; rcases h with rfl | rfl <;> rfl) (Nat.le_of_ble_eq_true rfl) (fun X hX => ?_)
  have hc := hX.cx
  have hw : HR (40 + 2 * j) 0 1 (40 + 2 * j + 1) := ⟨by omega, _, sh_ho hj, rfl⟩
  have hA : HA (40 + 2 * j + 1) 0 256 := ⟨by omega, sh_hw hj, by decide⟩
  have L : ∀ (n b m : Nat), b + n = 256 → m ≤ b → Q (some (.int (nI (m + cnt (fun b => decide (s &&& b = 0) && decide (0 < cW B (s ||| b))) n b)))) μ → TT X 4 [.ref (40 + 2 * j), .int (nI s), .int (nI m), .int (nI b)] [] μ := by
    intro n
    induction n with
    | zero =>
      intro b m hb hm h
      refine tt_il3 (q := 5) hc dX0_linkSets_4 rfl ?_
      refine tt_sipush (v := nI 256) (q := 8) hc (by decide) dX0_linkSets_5 rfl ?_
      first | (with_reducible refine chk2 ?_; refine tt_icgeN (t := 37) (q := 11) hc (by omega) (by omega) dX0_linkSets_8 rfl rfl (fun c_8 => ?_) (fun c_8 => ?_)) | refine tt_icge (t := 37) (q := 11) hc dX0_linkSets_8 rfl rfl (fun c_8 => ?_) (fun c_8 => ?_)
      · refine tt_il2 (q := 38) hc dX0_linkSets_37 rfl ?_
        refine tt_reti hX rfl dX0_linkSets_38 ?_
        exact h
      · omega
    | succ n ih =>
      intro b m hb hm h
      have h1 : s &&& b < 256 := and_lt hs
      have h2 := or_lt (b := b) hs (by omega)
      have h3 := cW_le B (s ||| b)
      rw [cnt] at h
      refine tt_il3 (q := 5) hc dX0_linkSets_4 rfl ?_
      refine tt_sipush (v := nI 256) (q := 8) hc (by decide) dX0_linkSets_5 rfl ?_
      first | (with_reducible refine chk2 ?_; refine tt_icgeN (t := 37) (q := 11) hc (by omega) (by omega) dX0_linkSets_8 rfl rfl (fun c_8 => ?_) (fun c_8 => ?_)) | refine tt_icge (t := 37) (q := 11) hc dX0_linkSets_8 rfl rfl (fun c_8 => ?_) (fun c_8 => ?_)
      · omega
      · refine tt_il1 (q := 12) hc dX0_linkSets_11 rfl ?_
        refine tt_il3 (q := 13) hc dX0_linkSets_12 rfl ?_
        first | (with_reducible refine chk2 ?_; refine tt_iandN (q := 14) hc dX0_linkSets_13 rfl ?_) | (with_reducible refine chkan ?_; refine tt_iandnN (q := 14) hc dX0_linkSets_13 rfl ?_) | (with_reducible refine chkna ?_; refine tt_inandN (q := 14) hc dX0_linkSets_13 rfl ?_) | refine tt_iand (q := 14) hc dX0_linkSets_13 rfl ?_
        first | (with_reducible refine chkb ?_; refine tt_ifneB (t := 31) (q := 17) hc dX0_linkSets_14 rfl rfl (fun c_14 => ?_) (fun c_14 => ?_)) | (with_reducible refine chk1 ?_; refine tt_ifneN (t := 31) (q := 17) hc (by omega) dX0_linkSets_14 rfl rfl (fun c_14 => ?_) (fun c_14 => ?_)) | refine tt_ifne (t := 31) (q := 17) hc dX0_linkSets_14 rfl rfl (fun c_14 => ?_) (fun c_14 => ?_)
        · first | refine tt_inc3 (q := 34) hc dX0_linkSets_31 rfl (by decide) (incN _) ?_ | refine tt_inc3 (q := 34) hc dX0_linkSets_31 rfl (by decide) rfl ?_
          refine tt_goto (t := 4) hc dX0_linkSets_34 rfl ?_
          first
          | (refine ih _ _ (by omega) (by omega) ?_; rw [decide_eq_false (by omega), Bool.false_and, if_neg Bool.false_ne_true, Nat.zero_add] at h; exact h)
          | (refine ih _ _ (by omega) (by omega) ?_; rw [decide_eq_false (p := 0 < cW B (s ||| b)) (by omega), Bool.and_false, if_neg Bool.false_ne_true, Nat.zero_add] at h; exact h)
          | (refine ih _ _ (by omega) (by omega) ?_; rw [decide_eq_true c_14, decide_eq_true c_25, Bool.and_self, if_pos rfl, ← Nat.add_assoc] at h; exact h)
        · refine tt_al0 (q := 18) hc dX0_linkSets_17 rfl ?_
          refine tt_getR (q := 21) hc fl_X0_15 (by first | assumption | exact ⟨by decide, _, rfl, rfl⟩) dX0_linkSets_18 rfl ?_
          refine tt_il1 (q := 22) hc dX0_linkSets_21 rfl ?_
          refine tt_il3 (q := 23) hc dX0_linkSets_22 rfl ?_
          first | (with_reducible refine chk2 ?_; refine tt_iorN (q := 24) hc dX0_linkSets_23 rfl ?_) | refine tt_ior (q := 24) hc dX0_linkSets_23 rfl ?_
          refine tt_iald (q := 25) hc (by first | assumption | exact ⟨by decide, rfl, by decide⟩) (by omega) dX0_linkSets_24 rfl ?_
          rw [hR.2.2 _ h2]
          first | (with_reducible refine chk1 ?_; refine tt_ifleN (t := 31) (q := 28) hc (by omega) dX0_linkSets_25 rfl rfl (fun c_25 => ?_) (fun c_25 => ?_)) | refine tt_ifle (t := 31) (q := 28) hc dX0_linkSets_25 rfl rfl (fun c_25 => ?_) (fun c_25 => ?_)
          · first | refine tt_inc3 (q := 34) hc dX0_linkSets_31 rfl (by decide) (incN _) ?_ | refine tt_inc3 (q := 34) hc dX0_linkSets_31 rfl (by decide) rfl ?_
            refine tt_goto (t := 4) hc dX0_linkSets_34 rfl ?_
            first
            | (refine ih _ _ (by omega) (by omega) ?_; rw [decide_eq_false (by omega), Bool.false_and, if_neg Bool.false_ne_true, Nat.zero_add] at h; exact h)
            | (refine ih _ _ (by omega) (by omega) ?_; rw [decide_eq_false (p := 0 < cW B (s ||| b)) (by omega), Bool.and_false, if_neg Bool.false_ne_true, Nat.zero_add] at h; exact h)
            | (refine ih _ _ (by omega) (by omega) ?_; rw [decide_eq_true c_14, decide_eq_true c_25, Bool.and_self, if_pos rfl, ← Nat.add_assoc] at h; exact h)
          · first | refine tt_inc2 (q := 31) hc dX0_linkSets_28 rfl (by decide) (incN _) ?_ | refine tt_inc2 (q := 31) hc dX0_linkSets_28 rfl (by decide) rfl ?_
            first | refine tt_inc3 (q := 34) hc dX0_linkSets_31 rfl (by decide) (incN _) ?_ | refine tt_inc3 (q := 34) hc dX0_linkSets_31 rfl (by decide) rfl ?_
            refine tt_goto (t := 4) hc dX0_linkSets_34 rfl ?_
            first
            | (refine ih _ _ (by omega) (by omega) ?_; rw [decide_eq_false (by omega), Bool.false_and, if_neg Bool.false_ne_true, Nat.zero_add] at h; exact h)
            | (refine ih _ _ (by omega) (by omega) ?_; rw [decide_eq_false (p := 0 < cW B (s ||| b)) (by omega), Bool.and_false, if_neg Bool.false_ne_true, Nat.zero_add] at h; exact h)
            | (refine ih _ _ (by omega) (by omega) ?_; rw [decide_eq_true c_14, decide_eq_true c_25, Bool.and_self, if_pos rfl, ← Nat.add_assoc] at h; exact h)
  refine tt_iconst (v := nI 0) (q := 1) hc rfl dX0_linkSets_0 rfl ?_
  refine tt_is2 (q := 2) hc dX0_linkSets_1 rfl (by decide) ?_
  refine tt_iconst (v := nI 0) (q := 3) hc rfl dX0_linkSets_2 rfl ?_
  refine tt_is3 (q := 4) hc dX0_linkSets_3 rfl (by decide) ?_
  exact L 256 0 0 rfl (Nat.le_refl 0) (by rw [Nat.zero_add]; exact hQ)
def fcs (B : Nat → Bool) (p : Nat) : Nat := cnt (fun s => decide (0 < cW B s) && decide (pop s = p)) 255 1
set_option maxHeartbeats 4000000 in
theorem c_X0_facesOf {l : Launch} {j K p : Nat} (hj : j < 16) {B : Nat → Bool} {μ : Mem} {Q : Option Value → Mem → Prop} (hR : RC μ j K B) (hQ : Q (some (.int (nI (fcs B p)))) μ) (hp : p < 256 := by omega) : CC l 1 mX0_facesOf [.ref (40 + 2 * j), .int (nI p)] μ Q := by
  refine CC.of (M := mX0_facesOf) (by decide +kernel) rfl (fun v h => by simp at h; rcases h with rfl | rfl <;> rfl) (Nat.le_of_ble_eq_true rfl) (fun X hX => ?_)
  have hc := hX.cx
  have hw : HR (40 + 2 * j) 0 1 (40 + 2 * j + 1) := ⟨by omega, _, sh_ho hj, rfl⟩
  have hA : HA (40 + 2 * j + 1) 0 256 := ⟨by omega, sh_hw hj, by decide⟩
  have L : ∀ (n b m : Nat), b + n = 256 → m ≤ b → Q (some (.int (nI (m + cnt (fun s => decide (0 < cW B s) && decide (pop s = p)) n b)))) μ → TT X 4 [.ref (40 + 2 * j), .int (nI p), .int (nI m), .int (nI b)] [] μ := by
    intro n
    induction n with
    | zero =>
      intro b m hb hm h
      refine tt_il3 (q := 5) hc dX0_facesOf_4 rfl ?_
      refine tt_sipush (v := nI 256) (q := 8) hc (by decide) dX0_facesOf_5 rfl ?_
      first | (with_reducible refine chk2 ?_; refine tt_icgeN (t := 37) (q := 11) hc (by omega) (by omega) dX0_facesOf_8 rfl rfl (fun c_8 => ?_) (fun c_8 => ?_)) | refine tt_icge (t := 37) (q := 11) hc dX0_facesOf_8 rfl rfl (fun c_8 => ?_) (fun c_8 => ?_)
      · refine tt_il2 (q := 38) hc dX0_facesOf_37 rfl ?_
        refine tt_reti hX rfl dX0_facesOf_38 ?_
        exact h
      · omega
    | succ n ih =>
      intro b m hb hm h
      have h3 := cW_le B b
      have h4 := pop_le b (by omega)
      rw [cnt] at h
      refine tt_il3 (q := 5) hc dX0_facesOf_4 rfl ?_
      refine tt_sipush (v := nI 256) (q := 8) hc (by decide) dX0_facesOf_5 rfl ?_
      first | (with_reducible refine chk2 ?_; refine tt_icgeN (t := 37) (q := 11) hc (by omega) (by omega) dX0_facesOf_8 rfl rfl (fun c_8 => ?_) (fun c_8 => ?_)) | refine tt_icge (t := 37) (q := 11) hc dX0_facesOf_8 rfl rfl (fun c_8 => ?_) (fun c_8 => ?_)
      · omega
      · refine tt_al0 (q := 12) hc dX0_facesOf_11 rfl ?_
        refine tt_getR (q := 15) hc fl_X0_15 (by first | assumption | exact ⟨by decide, _, rfl, rfl⟩) dX0_facesOf_12 rfl ?_
        refine tt_il3 (q := 16) hc dX0_facesOf_15 rfl ?_
        refine tt_iald (q := 17) hc (by first | assumption | exact ⟨by decide, rfl, by decide⟩) (by omega) dX0_facesOf_16 rfl ?_
        rw [hR.2.2 _ (by omega)]
        first | (with_reducible refine chk1 ?_; refine tt_ifleN (t := 31) (q := 20) hc (by omega) dX0_facesOf_17 rfl rfl (fun c_17 => ?_) (fun c_17 => ?_)) | refine tt_ifle (t := 31) (q := 20) hc dX0_facesOf_17 rfl rfl (fun c_17 => ?_) (fun c_17 => ?_)
        · first | refine tt_inc3 (q := 34) hc dX0_facesOf_31 rfl (by decide) (incN _) ?_ | refine tt_inc3 (q := 34) hc dX0_facesOf_31 rfl (by decide) rfl ?_
          refine tt_goto (t := 4) hc dX0_facesOf_34 rfl ?_
          first
          | (refine ih _ _ (by omega) (by omega) ?_; rw [decide_eq_false c_25, Bool.and_false, if_neg Bool.false_ne_true, Nat.zero_add] at h; exact h)
          | (refine ih _ _ (by omega) (by omega) ?_; rw [decide_eq_false (p := 0 < cW B b) (by omega), Bool.false_and, if_neg Bool.false_ne_true, Nat.zero_add] at h; exact h)
          | (refine ih _ _ (by omega) (by omega) ?_; rw [decide_eq_true c_17, decide_eq_true c_25, Bool.and_self, if_pos rfl, ← Nat.add_assoc] at h; exact h)
        · refine tt_il3 (q := 21) hc dX0_facesOf_20 rfl ?_
          refine tt_cS1 (q := 24) (d' := 0) hc (by decide) kmJ6_bitCount_0f7a4 ml_X0_25 (Nat.le_of_ble_eq_true rfl) dX0_facesOf_21 rfl ?_
          refine c_J6_bitCount_0f7a4 ?_
          dsimp only [Option.toList, List.nil_append, List.cons_append]
          refine tt_il1 (q := 25) hc dX0_facesOf_24 rfl ?_
          first | (with_reducible refine chk2 ?_; refine tt_icneN (t := 31) (q := 28) hc (by omega) (by omega) dX0_facesOf_25 rfl rfl (fun c_25 => ?_) (fun c_25 => ?_)) | refine tt_icne (t := 31) (q := 28) hc dX0_facesOf_25 rfl rfl (fun c_25 => ?_) (fun c_25 => ?_)
          · first | refine tt_inc3 (q := 34) hc dX0_facesOf_31 rfl (by decide) (incN _) ?_ | refine tt_inc3 (q := 34) hc dX0_facesOf_31 rfl (by decide) rfl ?_
            refine tt_goto (t := 4) hc dX0_facesOf_34 rfl ?_
            first
            | (refine ih _ _ (by omega) (by omega) ?_; rw [decide_eq_false c_25, Bool.and_false, if_neg Bool.false_ne_true, Nat.zero_add] at h; exact h)
            | (refine ih _ _ (by omega) (by omega) ?_; rw [decide_eq_false (p := 0 < cW B b) (by omega), Bool.false_and, if_neg Bool.false_ne_true, Nat.zero_add] at h; exact h)
            | (refine ih _ _ (by omega) (by omega) ?_; rw [decide_eq_true c_17, decide_eq_true c_25, Bool.and_self, if_pos rfl, ← Nat.add_assoc] at h; exact h)
          · first | refine tt_inc2 (q := 31) hc dX0_facesOf_28 rfl (by decide) (incN _) ?_ | refine tt_inc2 (q := 31) hc dX0_facesOf_28 rfl (by decide) rfl ?_
            first | refine tt_inc3 (q := 34) hc dX0_facesOf_31 rfl (by decide) (incN _) ?_ | refine tt_inc3 (q := 34) hc dX0_facesOf_31 rfl (by decide) rfl ?_
            refine tt_goto (t := 4) hc dX0_facesOf_34 rfl ?_
            first
            | (refine ih _ _ (by omega) (by omega) ?_; rw [decide_eq_false c_25, Bool.and_false, if_neg Bool.false_ne_true, Nat.zero_add] at h; exact h)
            | (refine ih _ _ (by omega) (by omega) ?_; rw [decide_eq_false (p := 0 < cW B b) (by omega), Bool.false_and, if_neg Bool.false_ne_true, Nat.zero_add] at h; exact h)
            | (refine ih _ _ (by omega) (by omega) ?_; rw [decide_eq_true c_17, decide_eq_true c_25, Bool.and_self, if_pos rfl, ← Nat.add_assoc] at h; exact h)
  refine tt_iconst (v := nI 0) (q := 1) hc rfl dX0_facesOf_0 rfl ?_
  refine tt_is2 (q := 2) hc dX0_facesOf_1 rfl (by decide) ?_
  refine tt_iconst (v := nI 1) (q := 3) hc rfl dX0_facesOf_2 rfl ?_
  refine tt_is3 (q := 4) hc dX0_facesOf_3 rfl (by decide) ?_
  exact L 255 1 0 rfl (Nat.zero_le _) (by rw [Nat.zero_add]; exact hQ)
def euI (B : Nat → Bool) : Int32 := nI (fcs B 1) - nI (fcs B 2) + nI (fcs B 3) - nI (fcs B 4)
theorem c_X0_euler {l : Launch} {j K : Nat} (hj : j < 16) {B : Nat → Bool} {μ : Mem} {Q : Option Value → Mem → Prop} (hR : RC μ j K B) (hQ : Q (some (.int (euI B))) μ) : CC l 2 mX0_euler [.ref (40 + 2 * j)] μ Q := by
  refine CC.of (M := mX0_euler) (by decide +kernel) rfl (fun v h => by simp at h; subst h; rfl) (Nat.le_of_ble_eq_true rfl) (fun X hX => ?_)
  have hc := hX.cx
  have ho : HO (40 + 2 * j) 0 := ⟨by omega, _, sh_ho hj⟩
  refine tt_al0 (q := 1) hc dX0_euler_0 rfl ?_
  refine tt_iconst (v := nI 1) (q := 2) hc rfl dX0_euler_1 rfl ?_
  refine tt_cV1 (q := 5) (d' := 1) (ci := 0) hc (by decide) kmX0_facesOf ml_X0_53 (by first | assumption | exact ⟨by decide, _, rfl⟩) rfl (Nat.le_of_ble_eq_true rfl) dX0_euler_2 rfl ?_
  refine c_X0_facesOf hj hR ?_
  dsimp only [Option.toList, List.nil_append, List.cons_append]
  refine tt_al0 (q := 6) hc dX0_euler_5 rfl ?_
  refine tt_iconst (v := nI 2) (q := 7) hc rfl dX0_euler_6 rfl ?_
  refine tt_cV1 (q := 10) (d' := 1) (ci := 0) hc (by decide) kmX0_facesOf ml_X0_53 (by first | assumption | exact ⟨by decide, _, rfl⟩) rfl (Nat.le_of_ble_eq_true rfl) dX0_euler_7 rfl ?_
  refine c_X0_facesOf hj hR ?_
  dsimp only [Option.toList, List.nil_append, List.cons_append]
  refine tt_isub (q := 11) hc dX0_euler_10 rfl ?_
  refine tt_al0 (q := 12) hc dX0_euler_11 rfl ?_
  refine tt_iconst (v := nI 3) (q := 13) hc rfl dX0_euler_12 rfl ?_
  refine tt_cV1 (q := 16) (d' := 1) (ci := 0) hc (by decide) kmX0_facesOf ml_X0_53 (by first | assumption | exact ⟨by decide, _, rfl⟩) rfl (Nat.le_of_ble_eq_true rfl) dX0_euler_13 rfl ?_
  refine c_X0_facesOf hj hR ?_
  dsimp only [Option.toList, List.nil_append, List.cons_append]
  first | (with_reducible refine chk2 ?_; refine tt_iaddN (q := 17) hc dX0_euler_16 rfl ?_) | refine tt_iadd (q := 17) hc dX0_euler_16 rfl ?_
  refine tt_al0 (q := 18) hc dX0_euler_17 rfl ?_
  refine tt_iconst (v := nI 4) (q := 19) hc rfl dX0_euler_18 rfl ?_
  refine tt_cV1 (q := 22) (d' := 1) (ci := 0) hc (by decide) kmX0_facesOf ml_X0_53 (by first | assumption | exact ⟨by decide, _, rfl⟩) rfl (Nat.le_of_ble_eq_true rfl) dX0_euler_19 rfl ?_
  refine c_X0_facesOf hj hR ?_
  dsimp only [Option.toList, List.nil_append, List.cons_append]
  refine tt_isub (q := 23) hc dX0_euler_22 rfl ?_
  refine tt_reti hX rfl dX0_euler_23 ?_
  exact hQ
def wls_ (K : Nat) (B : Nat → Bool) : Nat := cnt (wal K B) 255 1
set_option maxHeartbeats 4000000 in
theorem c_X0_walls {l : Launch} {j K : Nat} (hj : j < 16) {B : Nat → Bool} {μ : Mem} {Q : Option Value → Mem → Prop} (hR : RC μ j K B) (hQ : Q (some (.int (nI (wls_ K B)))) μ) : CC l 2 mX0_walls [.ref (40 + 2 * j)] μ Q := by
  refine CC.of (M := mX0_walls) (by decide +kernel) rfl (fun v h => by simp at h; subst h; rfl) (Nat.le_of_ble_eq_true rfl) (fun X hX => ?_)
  have hc := hX.cx
  have ho : HO (40 + 2 * j) 0 := ⟨by omega, _, sh_ho hj⟩
  have L : ∀ (n b m : Nat), b + n = 256 → m ≤ b → Q (some (.int (nI (m + cnt (wal K B) n b)))) μ → TT X 4 [.ref (40 + 2 * j), .int (nI m), .int (nI b)] [] μ := by
    intro n
    induction n with
    | zero =>
      intro b m hb hm h
      refine tt_il2 (q := 5) hc dX0_walls_4 rfl ?_
      refine tt_sipush (v := nI 256) (q := 8) hc (by decide) dX0_walls_5 rfl ?_
      first | (with_reducible refine chk2 ?_; refine tt_icgeN (t := 28) (q := 11) hc (by omega) (by omega) dX0_walls_8 rfl rfl (fun c_8 => ?_) (fun c_8 => ?_)) | refine tt_icge (t := 28) (q := 11) hc dX0_walls_8 rfl rfl (fun c_8 => ?_) (fun c_8 => ?_)
      · refine tt_il1 (q := 29) hc dX0_walls_28 rfl ?_
        refine tt_reti hX rfl dX0_walls_29 ?_
        exact h
      · omega
    | succ n ih =>
      intro b m hb hm h
      rw [cnt] at h
      refine tt_il2 (q := 5) hc dX0_walls_4 rfl ?_
      refine tt_sipush (v := nI 256) (q := 8) hc (by decide) dX0_walls_5 rfl ?_
      first | (with_reducible refine chk2 ?_; refine tt_icgeN (t := 28) (q := 11) hc (by omega) (by omega) dX0_walls_8 rfl rfl (fun c_8 => ?_) (fun c_8 => ?_)) | refine tt_icge (t := 28) (q := 11) hc dX0_walls_8 rfl rfl (fun c_8 => ?_) (fun c_8 => ?_)
      · omega
      · refine tt_al0 (q := 12) hc dX0_walls_11 rfl ?_
        refine tt_il2 (q := 13) hc dX0_walls_12 rfl ?_
        refine tt_cV1 (q := 16) (d' := 1) (ci := 0) hc (by decide) kmX0_isWall ml_X0_56 (by first | assumption | exact ⟨by decide, _, rfl⟩) rfl (Nat.le_of_ble_eq_true rfl) dX0_walls_13 rfl ?_
        refine c_X0_isWall hj hR ?_
        dsimp only [Option.toList, List.nil_append, List.cons_append]
        first | (with_reducible refine chkb ?_; refine tt_ifeqB (t := 22) (q := 19) hc dX0_walls_16 rfl rfl (fun c_16 => ?_) (fun c_16 => ?_)) | (with_reducible refine chk1 ?_; refine tt_ifeqN (t := 22) (q := 19) hc (by omega) dX0_walls_16 rfl rfl (fun c_16 => ?_) (fun c_16 => ?_)) | refine tt_ifeq (t := 22) (q := 19) hc dX0_walls_16 rfl rfl (fun c_16 => ?_) (fun c_16 => ?_)
        · first | refine tt_inc2 (q := 25) hc dX0_walls_22 rfl (by decide) (incN _) ?_ | refine tt_inc2 (q := 25) hc dX0_walls_22 rfl (by decide) rfl ?_
          refine tt_goto (t := 4) hc dX0_walls_25 rfl ?_
          first
          | (refine ih _ _ (by omega) (by omega) ?_; rw [c_16, if_neg Bool.false_ne_true, Nat.zero_add] at h; exact h)
          | (refine ih _ _ (by omega) (by omega) ?_; rw [c_16, if_pos rfl, ← Nat.add_assoc] at h; exact h)
        · first | refine tt_inc1 (q := 22) hc dX0_walls_19 rfl (by decide) (incN _) ?_ | refine tt_inc1 (q := 22) hc dX0_walls_19 rfl (by decide) rfl ?_
          first | refine tt_inc2 (q := 25) hc dX0_walls_22 rfl (by decide) (incN _) ?_ | refine tt_inc2 (q := 25) hc dX0_walls_22 rfl (by decide) rfl ?_
          refine tt_goto (t := 4) hc dX0_walls_25 rfl ?_
          first
          | (refine ih _ _ (by omega) (by omega) ?_; rw [c_16, if_neg Bool.false_ne_true, Nat.zero_add] at h; exact h)
          | (refine ih _ _ (by omega) (by omega) ?_; rw [c_16, if_pos rfl, ← Nat.add_assoc] at h; exact h)
  refine tt_iconst (v := nI 0) (q := 1) hc rfl dX0_walls_0 rfl ?_
  refine tt_is1 (q := 2) hc dX0_walls_1 rfl (by decide) ?_
  refine tt_iconst (v := nI 1) (q := 3) hc rfl dX0_walls_2 rfl ?_
  refine tt_is2 (q := 4) hc dX0_walls_3 rfl (by decide) ?_
  exact L 255 1 0 rfl (Nat.zero_le _) (by rw [Nat.zero_add]; exact hQ)
def rgt (K : Nat) (B : Nat → Bool) : Bool := decide (cnt (fun s => decide (2 < cW B s) && decide (pop s = K - 1)) 255 1 = 0)
set_option maxHeartbeats 4000000 in
theorem c_X0_isRight {l : Launch} {j K : Nat} (hj : j < 16) {B : Nat → Bool} {μ : Mem} {Q : Option Value → Mem → Prop} (hR : RC μ j K B) (hQ : Q (some (.int (bI (rgt K B)))) μ) : CC l 1 mX0_isRight [.ref (40 + 2 * j)] μ Q := by
  refine CC.of (M := mX0_isRight) (by decide +kernel) rfl (fun v h => by simp at h; subst h; rfl) (Nat.le_of_ble_eq_true rfl) (fun X hX => ?_)
  have hc := hX.cx
  have hw : HR (40 + 2 * j) 0 1 (40 + 2 * j + 1) := ⟨by omega, _, sh_ho hj, rfl⟩
  have hk : HI (40 + 2 * j) 0 0 := ⟨by omega, _, sh_ho hj, _, rfl⟩
  have hA : HA (40 + 2 * j + 1) 0 256 := ⟨by omega, sh_hw hj, by decide⟩
  have hK := hR.1.1
  have L : ∀ (n b : Nat), b + n = 256 → Q (some (.int (bI (decide (cnt (fun s => decide (2 < cW B s) && decide (pop s = K - 1)) n b = 0))))) μ → TT X 2 [.ref (40 + 2 * j), .int (nI b)] [] μ := by
    intro n
    induction n with
    | zero =>
      intro b hb h
      refine tt_il1 (q := 3) hc dX0_isRight_2 rfl ?_
      refine tt_sipush (v := nI 256) (q := 6) hc (by decide) dX0_isRight_3 rfl ?_
      first | (with_reducible refine chk2 ?_; refine tt_icgeN (t := 40) (q := 9) hc (by omega) (by omega) dX0_isRight_6 rfl rfl (fun c_6 => ?_) (fun c_6 => ?_)) | refine tt_icge (t := 40) (q := 9) hc dX0_isRight_6 rfl rfl (fun c_6 => ?_) (fun c_6 => ?_)
      · refine tt_iconst (v := nI 1) (q := 41) hc rfl dX0_isRight_40 rfl ?_
        refine tt_retz hX rfl (by first | decide | exact bI_01 _) dX0_isRight_41 ?_
        exact h
      · omega
    | succ n ih =>
      intro b hb h
      have h3 := cW_le B b
      have h4 := pop_le b (by omega)
      rw [cnt] at h
      refine tt_il1 (q := 3) hc dX0_isRight_2 rfl ?_
      refine tt_sipush (v := nI 256) (q := 6) hc (by decide) dX0_isRight_3 rfl ?_
      first | (with_reducible refine chk2 ?_; refine tt_icgeN (t := 40) (q := 9) hc (by omega) (by omega) dX0_isRight_6 rfl rfl (fun c_6 => ?_) (fun c_6 => ?_)) | refine tt_icge (t := 40) (q := 9) hc dX0_isRight_6 rfl rfl (fun c_6 => ?_) (fun c_6 => ?_)
      · omega
      · refine tt_al0 (q := 10) hc dX0_isRight_9 rfl ?_
        refine tt_getR (q := 13) hc fl_X0_15 (by first | assumption | exact ⟨by decide, _, rfl, rfl⟩) dX0_isRight_10 rfl ?_
        refine tt_il1 (q := 14) hc dX0_isRight_13 rfl ?_
        refine tt_iald (q := 15) hc (by first | assumption | exact ⟨by decide, rfl, by decide⟩) (by omega) dX0_isRight_14 rfl ?_
        rw [hR.2.2 _ (by omega)]
        refine tt_iconst (v := nI 2) (q := 16) hc rfl dX0_isRight_15 rfl ?_
        first | (with_reducible refine chk2 ?_; refine tt_icleN (t := 34) (q := 19) hc (by omega) (by omega) dX0_isRight_16 rfl rfl (fun c_16 => ?_) (fun c_16 => ?_)) | refine tt_icle (t := 34) (q := 19) hc dX0_isRight_16 rfl rfl (fun c_16 => ?_) (fun c_16 => ?_)
        · first | refine tt_inc1 (q := 37) hc dX0_isRight_34 rfl (by decide) (incN _) ?_ | refine tt_inc1 (q := 37) hc dX0_isRight_34 rfl (by decide) rfl ?_
          refine tt_goto (t := 2) hc dX0_isRight_37 rfl ?_
          first
          | (refine ih _ (by omega) ?_; rw [decide_eq_false c_29, Bool.and_false, if_neg Bool.false_ne_true, Nat.zero_add] at h; exact h)
          | (refine ih _ (by omega) ?_; rw [decide_eq_false (p := 2 < cW B b) (by omega), Bool.false_and, if_neg Bool.false_ne_true, Nat.zero_add] at h; exact h)
        · refine tt_il1 (q := 20) hc dX0_isRight_19 rfl ?_
          refine tt_cS1 (q := 23) (d' := 0) hc (by decide) kmJ6_bitCount_0f7a4 ml_X0_25 (Nat.le_of_ble_eq_true rfl) dX0_isRight_20 rfl ?_
          refine c_J6_bitCount_0f7a4 ?_
          dsimp only [Option.toList, List.nil_append, List.cons_append]
          refine tt_al0 (q := 24) hc dX0_isRight_23 rfl ?_
          refine tt_getI (q := 27) hc fl_X0_9 (by first | assumption | exact ⟨by decide, _, rfl, _, rfl⟩) dX0_isRight_24 rfl ?_
          rw [hR.2.1]
          refine tt_iconst (v := nI 1) (q := 28) hc rfl dX0_isRight_27 rfl ?_
          first | (with_reducible refine chk2 ?_; refine tt_isubN (q := 29) hc (by omega) dX0_isRight_28 rfl ?_) | refine tt_isub (q := 29) hc dX0_isRight_28 rfl ?_
          first | (with_reducible refine chk2 ?_; refine tt_icneN (t := 34) (q := 32) hc (by omega) (by omega) dX0_isRight_29 rfl rfl (fun c_29 => ?_) (fun c_29 => ?_)) | refine tt_icne (t := 34) (q := 32) hc dX0_isRight_29 rfl rfl (fun c_29 => ?_) (fun c_29 => ?_)
          · first | refine tt_inc1 (q := 37) hc dX0_isRight_34 rfl (by decide) (incN _) ?_ | refine tt_inc1 (q := 37) hc dX0_isRight_34 rfl (by decide) rfl ?_
            refine tt_goto (t := 2) hc dX0_isRight_37 rfl ?_
            first
            | (refine ih _ (by omega) ?_; rw [decide_eq_false c_29, Bool.and_false, if_neg Bool.false_ne_true, Nat.zero_add] at h; exact h)
            | (refine ih _ (by omega) ?_; rw [decide_eq_false (p := 2 < cW B b) (by omega), Bool.false_and, if_neg Bool.false_ne_true, Nat.zero_add] at h; exact h)
          · refine tt_iconst (v := nI 0) (q := 33) hc rfl dX0_isRight_32 rfl ?_
            refine tt_retz hX rfl (by first | decide | exact bI_01 _) dX0_isRight_33 ?_
            rw [decide_eq_true c_16, decide_eq_true c_29, Bool.and_self, if_pos rfl, decide_eq_false (by omega)] at h
            exact h
  refine tt_iconst (v := nI 1) (q := 1) hc rfl dX0_isRight_0 rfl ?_
  refine tt_is1 (q := 2) hc dX0_isRight_1 rfl (by decide) ?_
  exact L 255 1 rfl hQ
