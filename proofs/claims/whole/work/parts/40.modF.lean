/-! THE MODEL: the kept -/
set_option maxHeartbeats 8000000 in
theorem c_X9_kept {l : Launch} {v w : Int32} {S : ST} {μ : Mem} {Q : Option Value → Mem → Prop} (hM : MR μ S) (hQ : ∀ μ', frm mL μ μ' → MR μ' S → Q (some (.int (an_kept v w S))) μ') : CC l 4 mX9_kept [.ref 24, .int v, .int w] μ Q := by
  refine CC.of (M := mX9_kept) (by decide +kernel) rfl (fun v h => by simp at h; rcases h with rfl | rfl | rfl <;> rfl) (Nat.le_of_ble_eq_true rfl) (fun X hX => ?_)
  have hc := hX.cx
  obtain ⟨K, B, hs, ks, im, ls, tx, pp⟩ := S
  obtain ⟨⟨a0, a1, a2⟩, a3, a4, a5, a6, a7, a8⟩ := id hM
  have q34 := HQ34
  have a35 := HA35
  dsimp only [an_kept] at hQ
  rcases kpt_iff (v := v) a4.1 with ⟨i, q, hi4, hv, hk, hq, hin⟩ | ⟨hk, hin⟩
  · obtain ⟨g1, g2, g3⟩ := a4.2.2.1 i q hq
    have ak := HAk hi4
    rw [hk] at hQ
    dsimp only at hQ
    rw [hq] at hQ
    have hQ : ∀ μ', frm mL μ μ' → MR μ' (K, B, hs, ks, im, ls, tx, pp) → Q (some (.int (kpI q.1 q.2 w))) μ' := hQ
    have W : ¬ inB w (nI 0) (nI 3) = true → Q (some (.int (-1))) μ := by
      intro h1
      have h := hQ μ frm.rf hM
      rw [kpI, if_neg (fun z => h1 (by rw [z]; decide)), if_neg (fun z => h1 (by rw [z]; decide)), if_neg (fun z => h1 (by rw [z]; decide)), if_neg (fun z => h1 (by rw [z]; decide))] at h
      exact h
    have SW : ∀ (ν : Mem) (j : Nat), j ≤ 3 → FA ν q.2 → BA ν (91 + i) q.2 → ν 35 i = nI q.1 → Q (some (.int (kpI q.1 q.2 (nI j)))) ν → TT X 30 [.ref 24, .int (nI i), .int (nI j)] [.int (nI j)] ν := by
      intro ν j hj hF hB e35 h
      rcases (show j = 0 ∨ j = 1 ∨ j = 2 ∨ j = 3 by omega) with rfl | rfl | rfl | rfl
      · refine tt_tswI (t := 56) hc dX9_kept_30 (by decide) (by decide) rfl rfl ?_
        refine tt_al0 (q := 57) hc dX9_kept_56 rfl ?_
        refine tt_getR (q := 60) hc fl_X9_54 (by first | assumption | exact ⟨by decide, _, rfl, rfl⟩) dX9_kept_57 rfl ?_
        refine tt_il1 (q := 61) hc dX9_kept_60 rfl ?_
        refine tt_iald (q := 62) hc (by first | assumption | exact ⟨by decide, rfl, by decide⟩) (by omega) dX9_kept_61 rfl ?_
        rw [e35]
        refine tt_reti hX rfl dX9_kept_62 ?_
        exact h
      · refine tt_tswI (t := 63) hc dX9_kept_30 (by decide) (by decide) rfl rfl ?_
        refine tt_al0 (q := 64) hc dX9_kept_63 rfl ?_
        refine tt_getR (q := 67) hc fl_X9_51 (by first | assumption | exact ⟨by decide, _, rfl, rfl⟩) dX9_kept_64 rfl ?_
        refine tt_il1 (q := 68) hc dX9_kept_67 rfl ?_
        refine tt_aald (q := 69) hc (r := _) (by first | assumption | exact ⟨by decide, rfl, by decide⟩) (by decide) (by omega) dX9_kept_68 rfl ?_
        refine tt_cS1 (q := 72) (d' := 0) hc (by first | decide | omega) kmX9_bodiesOf ml_X9_140 (Nat.le_of_ble_eq_true rfl) dX9_kept_69 rfl ?_
        refine c_X9_bodiesOf ak g3 hB ?_
        dsimp only [Option.toList, List.nil_append, List.cons_append]
        refine tt_reti hX rfl dX9_kept_72 ?_
        exact h
      · refine tt_tswI (t := 73) hc dX9_kept_30 (by decide) (by decide) rfl rfl ?_
        refine tt_bipush (v := nI 100) (q := 75) hc (by decide) dX9_kept_73 rfl ?_
        refine tt_al0 (q := 76) hc dX9_kept_75 rfl ?_
        refine tt_cV0 (q := 79) (d' := 3) (ci := 9) hc (by first | decide | omega) kmX9_euler ml_X9_161 (by first | assumption | exact ⟨by decide, _, rfl⟩) rfl (Nat.le_of_ble_eq_true rfl) dX9_kept_76 rfl ?_
        refine c_X9_euler hF ?_
        dsimp only [Option.toList, List.nil_append, List.cons_append]
        first | (with_reducible refine chk2 ?_; refine tt_iaddN (q := 80) hc dX9_kept_79 rfl ?_) | refine tt_iadd (q := 80) hc dX9_kept_79 rfl ?_
        refine tt_reti hX rfl dX9_kept_80 ?_
        exact h
      · refine tt_tswO (t := 81) hc dX9_kept_30 (by decide) rfl ?_
        refine tt_al0 (q := 82) hc dX9_kept_81 rfl ?_
        refine tt_al0 (q := 83) hc dX9_kept_82 rfl ?_
        refine tt_getR (q := 86) hc fl_X9_54 (by first | assumption | exact ⟨by decide, _, rfl, rfl⟩) dX9_kept_83 rfl ?_
        refine tt_il1 (q := 87) hc dX9_kept_86 rfl ?_
        refine tt_iald (q := 88) hc (by first | assumption | exact ⟨by decide, rfl, by decide⟩) (by omega) dX9_kept_87 rfl ?_
        rw [e35]
        refine tt_cV1 (q := 91) (d' := 3) (ci := 9) hc (by first | decide | omega) kmX9_walls ml_X9_154 (by first | assumption | exact ⟨by decide, _, rfl⟩) rfl (Nat.le_of_ble_eq_true rfl) dX9_kept_88 rfl ?_
        refine c_X9_walls g3.1 hF ?_
        dsimp only [Option.toList, List.nil_append, List.cons_append]
        refine tt_reti hX rfl dX9_kept_91 ?_
        exact h
    subst hv
    refine tt_al0 (q := 1) hc dX9_kept_0 rfl ?_
    refine tt_il1 (q := 2) hc dX9_kept_1 rfl ?_
    refine tt_cV1 (q := 5) (d' := 1) (ci := 9) hc (by first | decide | omega) kmX9_isKept ml_X9_217 (by first | assumption | exact ⟨by decide, _, rfl⟩) rfl (Nat.le_of_ble_eq_true rfl) dX9_kept_2 rfl ?_
    refine c_X9_isKept a4 ?_
    rw [hin]
    dsimp only [Option.toList, List.nil_append, List.cons_append]
    first | (with_reducible refine chkb ?_; refine tt_ifeqB (t := 17) (q := 8) hc dX9_kept_5 rfl rfl (fun c_5 => ?_) (fun c_5 => ?_)) | (with_reducible refine chk1 ?_; refine tt_ifeqN (t := 17) (q := 8) hc (by omega) dX9_kept_5 rfl rfl (fun c_5 => ?_) (fun c_5 => ?_)) | refine tt_ifeq (t := 17) (q := 8) hc dX9_kept_5 rfl rfl (fun c_5 => ?_) (fun c_5 => ?_)
    · exact absurd c_5 (by decide)
    · refine tt_il2 (q := 9) hc dX9_kept_8 rfl ?_
      refine tt_iconst (v := nI 0) (q := 10) hc rfl dX9_kept_9 rfl ?_
      refine tt_iconst (v := nI 3) (q := 11) hc rfl dX9_kept_10 rfl ?_
      refine tt_cS3 (q := 14) (d' := 0) hc (by first | decide | omega) kmX9_in ml_X9_91 (Nat.le_of_ble_eq_true rfl) dX9_kept_11 rfl ?_
      refine c_X9_in ?_
      dsimp only [Option.toList, List.nil_append, List.cons_append]
      first | (with_reducible refine chkb ?_; refine tt_ifneB (t := 19) (q := 17) hc dX9_kept_14 rfl rfl (fun c_14 => ?_) (fun c_14 => ?_)) | (with_reducible refine chk1 ?_; refine tt_ifneN (t := 19) (q := 17) hc (by omega) dX9_kept_14 rfl rfl (fun c_14 => ?_) (fun c_14 => ?_)) | refine tt_ifne (t := 19) (q := 17) hc dX9_kept_14 rfl rfl (fun c_14 => ?_) (fun c_14 => ?_)
      · obtain ⟨j, -, hj3, rfl⟩ := inB_t (by decide) (by decide) c_14
        refine tt_al0 (q := 20) hc dX9_kept_19 rfl ?_
        refine tt_al0 (q := 21) hc dX9_kept_20 rfl ?_
        refine tt_getR (q := 24) hc fl_X9_51 (by first | assumption | exact ⟨by decide, _, rfl, rfl⟩) dX9_kept_21 rfl ?_
        refine tt_il1 (q := 25) hc dX9_kept_24 rfl ?_
        refine tt_aald (q := 26) hc (r := _) (by first | assumption | exact ⟨by decide, rfl, by decide⟩) (by decide) (by omega) dX9_kept_25 rfl ?_
        refine tt_cV1 (q := 29) (d' := 0) (ci := 9) hc (by first | decide | omega) kmX9_layFaces ml_X9_150 (by first | assumption | exact ⟨by decide, _, rfl⟩) rfl (Nat.le_of_ble_eq_true rfl) dX9_kept_26 rfl ?_
        refine c_X9_layFaces ak (by omega) g3 g1 (fun ν hf hF => ?_)
        dsimp only [Option.toList, List.nil_append, List.cons_append]
        refine tt_il2 (q := 30) hc dX9_kept_29 rfl ?_
        exact SW ν j hj3 hF (g1.mf hf (by simp; omega) (by omega)) (by rw [hf.1 35 (by decide) (by decide)]; exact g2) (hQ ν (hf.ml (by decide)) (hM.wk hf (by decide)))
      · refine tt_iconst (v := -1) (q := 18) hc rfl dX9_kept_17 rfl ?_
        refine tt_reti hX rfl dX9_kept_18 ?_
        exact W (ne_true_of_eq_false c_14)
  · rw [hk] at hQ
    refine tt_al0 (q := 1) hc dX9_kept_0 rfl ?_
    refine tt_il1 (q := 2) hc dX9_kept_1 rfl ?_
    refine tt_cV1 (q := 5) (d' := 1) (ci := 9) hc (by first | decide | omega) kmX9_isKept ml_X9_217 (by first | assumption | exact ⟨by decide, _, rfl⟩) rfl (Nat.le_of_ble_eq_true rfl) dX9_kept_2 rfl ?_
    refine c_X9_isKept a4 ?_
    rw [hin]
    dsimp only [Option.toList, List.nil_append, List.cons_append]
    first | (with_reducible refine chkb ?_; refine tt_ifeqB (t := 17) (q := 8) hc dX9_kept_5 rfl rfl (fun c_5 => ?_) (fun c_5 => ?_)) | (with_reducible refine chk1 ?_; refine tt_ifeqN (t := 17) (q := 8) hc (by omega) dX9_kept_5 rfl rfl (fun c_5 => ?_) (fun c_5 => ?_)) | refine tt_ifeq (t := 17) (q := 8) hc dX9_kept_5 rfl rfl (fun c_5 => ?_) (fun c_5 => ?_)
    · refine tt_iconst (v := -1) (q := 18) hc rfl dX9_kept_17 rfl ?_
      refine tt_reti hX rfl dX9_kept_18 ?_
      exact hQ μ frm.rf hM
    · exact absurd c_5 (by decide)
set_option maxHeartbeats 8000000 in
theorem c_X9_take {l : Launch} {v : Int32} {S : ST} {μ : Mem} {Q : Option Value → Mem → Prop} (hM : MR μ S) (hQ : ∀ μ', frm mL μ μ' → MR μ' (sp_take v S).2 → Q (some (.int (sp_take v S).1)) μ') : CC l 2 mX9_take [.ref 24, .int v] μ Q := by
  refine CC.of (M := mX9_take) (by decide +kernel) rfl (fun v h => by simp at h; rcases h with rfl | rfl <;> rfl) (Nat.le_of_ble_eq_true rfl) (fun X hX => ?_)
  have hc := hX.cx
  obtain ⟨K, B, hs, ks, im, ls, tx, pp⟩ := S
  obtain ⟨⟨a0, a1, a2⟩, a3, a4, a5, a6, a7, a8⟩ := id hM
  have q34 := HQ34
  have a35 := HA35
  have a77 := HA77
  dsimp only [sp_take] at hQ
  rcases kpt_iff (v := v) a4.1 with ⟨i, q, hi4, hv, hk, hq, hin⟩ | ⟨hk, hin⟩
  · obtain ⟨g1, g2, g3⟩ := a4.2.2.1 i q hq
    have ak := HAk hi4
    rw [hk] at hQ
    dsimp only at hQ
    rw [hq] at hQ
    subst hv
    have F : ∀ (ν : Mem), mg [77] [0, 6] μ ν → BA ν 77 q.2 → ν 24 0 = nI q.1 → ν 24 6 = 0 → TT X 38 [.ref 24, .int (nI i)] [] ν := by
      intro ν hf hB e0 e6
      refine tt_al0 (q := 39) hc dX9_take_38 rfl ?_
      refine tt_getR (q := 42) hc fl_X9_15 (by first | assumption | exact ⟨by decide, _, rfl, rfl⟩) dX9_take_39 rfl ?_
      refine tt_cS1 (q := 45) (d' := 0) hc (by first | decide | omega) kmX9_bodiesOf ml_X9_140 (Nat.le_of_ble_eq_true rfl) dX9_take_42 rfl ?_
      refine c_X9_bodiesOf a77 g3 hB ?_
      dsimp only [Option.toList, List.nil_append, List.cons_append]
      refine tt_reti hX rfl dX9_take_45 ?_
      exact hQ ν (hf.ml (by decide)) ⟨⟨g3, e0, hB⟩, ⟨Nat.zero_le _, e6, fun i C h => (by cases h)⟩, a4.mg hf (by decide) (by decide), a5.mg hf (by decide) (by decide) (by decide) (by decide), a6.mg hf (by decide), a7.mg hf (by decide) (by decide), a8.mg hf (by decide) (by decide)⟩
    refine tt_al0 (q := 1) hc dX9_take_0 rfl ?_
    refine tt_il1 (q := 2) hc dX9_take_1 rfl ?_
    refine tt_cV1 (q := 5) (d' := 1) (ci := 9) hc (by first | decide | omega) kmX9_isKept ml_X9_217 (by first | assumption | exact ⟨by decide, _, rfl⟩) rfl (Nat.le_of_ble_eq_true rfl) dX9_take_2 rfl ?_
    refine c_X9_isKept a4 ?_
    rw [hin]
    dsimp only [Option.toList, List.nil_append, List.cons_append]
    first | (with_reducible refine chkb ?_; refine tt_ifneB (t := 10) (q := 8) hc dX9_take_5 rfl rfl (fun c_5 => ?_) (fun c_5 => ?_)) | (with_reducible refine chk1 ?_; refine tt_ifneN (t := 10) (q := 8) hc (by omega) dX9_take_5 rfl rfl (fun c_5 => ?_) (fun c_5 => ?_)) | refine tt_ifne (t := 10) (q := 8) hc dX9_take_5 rfl rfl (fun c_5 => ?_) (fun c_5 => ?_)
    · refine tt_al0 (q := 11) hc dX9_take_10 rfl ?_
      refine tt_getR (q := 14) hc fl_X9_51 (by first | assumption | exact ⟨by decide, _, rfl, rfl⟩) dX9_take_11 rfl ?_
      refine tt_il1 (q := 15) hc dX9_take_14 rfl ?_
      refine tt_aald (q := 16) hc (r := _) (by first | assumption | exact ⟨by decide, rfl, by decide⟩) (by decide) (by omega) dX9_take_15 rfl ?_
      refine tt_al0 (q := 17) hc dX9_take_16 rfl ?_
      refine tt_getR (q := 20) hc fl_X9_15 (by first | assumption | exact ⟨by decide, _, rfl, rfl⟩) dX9_take_17 rfl ?_
      refine tt_cS2 (q := 23) (d' := 1) hc (by first | decide | omega) kmX9_lays ml_X9_123 (Nat.le_of_ble_eq_true rfl) dX9_take_20 rfl ?_
      refine c_X9_lays ak a77 g1 (fun ν hf hB => ?_)
      have e35 : ν 35 i = nI q.1 := by rw [hf 35 (by decide)]; exact g2
      dsimp only [Option.toList, List.nil_append, List.cons_append]
      refine tt_al0 (q := 24) hc dX9_take_23 rfl ?_
      refine tt_al0 (q := 25) hc dX9_take_24 rfl ?_
      refine tt_getR (q := 28) hc fl_X9_54 (by first | assumption | exact ⟨by decide, _, rfl, rfl⟩) dX9_take_25 rfl ?_
      refine tt_il1 (q := 29) hc dX9_take_28 rfl ?_
      refine tt_iald (q := 30) hc (by first | assumption | exact ⟨by decide, rfl, by decide⟩) (by omega) dX9_take_29 rfl ?_
      rw [e35]
      refine tt_putI (q := 33) hc fp_X9_9 (by first | assumption | exact ⟨by decide, _, rfl, _, rfl⟩) dX9_take_30 rfl ?_
      refine tt_al0 (q := 34) hc dX9_take_33 rfl ?_
      refine tt_iconst (v := nI 0) (q := 35) hc rfl dX9_take_34 rfl ?_
      refine tt_putI (q := 38) hc fp_X9_120 (by first | assumption | exact ⟨by decide, _, rfl, _, rfl⟩) dX9_take_35 rfl ?_
      exact F _ ((mg.fr hf (by decide)).tr ((mg.own (by decide)).tr (mg.own (by decide)))) ((hB.mg (mg.own (l := []) (p := [0, 6]) (by decide)) (by simp) (by decide)).mg (mg.own (l := []) (p := [0, 6]) (by decide)) (by simp) (by decide)) rfl rfl
    · exact absurd c_5 (by decide)
  · rw [hk] at hQ
    refine tt_al0 (q := 1) hc dX9_take_0 rfl ?_
    refine tt_il1 (q := 2) hc dX9_take_1 rfl ?_
    refine tt_cV1 (q := 5) (d' := 1) (ci := 9) hc (by first | decide | omega) kmX9_isKept ml_X9_217 (by first | assumption | exact ⟨by decide, _, rfl⟩) rfl (Nat.le_of_ble_eq_true rfl) dX9_take_2 rfl ?_
    refine c_X9_isKept a4 ?_
    rw [hin]
    dsimp only [Option.toList, List.nil_append, List.cons_append]
    first | (with_reducible refine chkb ?_; refine tt_ifneB (t := 10) (q := 8) hc dX9_take_5 rfl rfl (fun c_5 => ?_) (fun c_5 => ?_)) | (with_reducible refine chk1 ?_; refine tt_ifneN (t := 10) (q := 8) hc (by omega) dX9_take_5 rfl rfl (fun c_5 => ?_) (fun c_5 => ?_)) | refine tt_ifne (t := 10) (q := 8) hc dX9_take_5 rfl rfl (fun c_5 => ?_) (fun c_5 => ?_)
    · exact absurd c_5 (by decide)
    · refine tt_iconst (v := -1) (q := 9) hc rfl dX9_take_8 rfl ?_
      refine tt_reti hX rfl dX9_take_9 ?_
      exact hQ μ frm.rf hM
set_option maxHeartbeats 8000000 in
theorem c_X9_bodies {l : Launch} {k : Int32} {S : ST} {μ : Mem} {Q : Option Value → Mem → Prop} (hM : MR μ S) (hQ : ∀ μ', frm mL μ μ' → MR μ' (sp_bodies k S).2 → Q (some (.int (sp_bodies k S).1)) μ') : CC l 1 mX9_bodies [.ref 24, .int k] μ Q := by
  refine CC.of (M := mX9_bodies) (by decide +kernel) rfl (fun v h => by simp at h; rcases h with rfl | rfl <;> rfl) (Nat.le_of_ble_eq_true rfl) (fun X hX => ?_)
  have hc := hX.cx
  obtain ⟨K, B, hs, ks, im, ls, tx, pp⟩ := S
  obtain ⟨⟨a0, a1, a2⟩, a3, a4, a5, a6, a7, a8⟩ := id hM
  have a77 := HA77
  dsimp only [sp_bodies] at hQ
  have L : ∀ (m : Nat), (m = 3 ∨ m = 4) → k = nI m → inB (nI m) (nI 3) (nI 4) = true → ∀ (n s : Nat) (ν : Mem), s + n = 256 → mg [77] [0, 6] μ ν → ν 24 0 = nI m → (∀ t, t < s → ν 77 t = 0) → TT X 24 [.ref 24, .int (nI m), .int (nI K), .int (nI s)] [] ν := by
    intro m hm hk hin n
    subst hk
    rw [if_pos hin, nI_clamp (by omega)] at hQ
    induction n with
    | zero =>
      intro s ν hs hf e0 hz
      refine tt_il3 (q := 25) hc dX9_bodies_24 rfl ?_
      refine tt_sipush (v := nI 256) (q := 28) hc (by decide) dX9_bodies_25 rfl ?_
      first | (with_reducible refine chk2 ?_; refine tt_icgeN (t := 44) (q := 31) hc (by omega) (by omega) dX9_bodies_28 rfl rfl (fun c_28 => ?_) (fun c_28 => ?_)) | refine tt_icge (t := 44) (q := 31) hc dX9_bodies_28 rfl rfl (fun c_28 => ?_) (fun c_28 => ?_)
      · refine tt_al0 (q := 45) hc dX9_bodies_44 rfl ?_
        refine tt_iconst (v := nI 0) (q := 46) hc rfl dX9_bodies_45 rfl ?_
        refine tt_putI (q := 49) hc fp_X9_120 (by first | assumption | exact ⟨by decide, _, rfl, _, rfl⟩) dX9_bodies_46 rfl ?_
        refine tt_il2 (q := 50) hc dX9_bodies_49 rfl ?_
        refine tt_reti hX rfl dX9_bodies_50 ?_
        have hf2 := hf.tr (mg.own (l := [77]) (p := [0, 6]) (k := 6) (v := nI 0) (by decide))
        exact hQ _ (hf2.ml (by decide)) ⟨⟨⟨hm, fun s h => (by cases h)⟩, e0, fun t ht => hz t (by omega)⟩, ⟨Nat.zero_le _, rfl, fun i C h => (by cases h)⟩, a4.mg hf2 (by decide) (by decide), a5.mg hf2 (by decide) (by decide) (by decide) (by decide), a6.mg hf2 (by decide), a7.mg hf2 (by decide) (by decide), a8.mg hf2 (by decide) (by decide)⟩
      · omega
    | succ n ih =>
      intro s ν hs hf e0 hz
      refine tt_il3 (q := 25) hc dX9_bodies_24 rfl ?_
      refine tt_sipush (v := nI 256) (q := 28) hc (by decide) dX9_bodies_25 rfl ?_
      first | (with_reducible refine chk2 ?_; refine tt_icgeN (t := 44) (q := 31) hc (by omega) (by omega) dX9_bodies_28 rfl rfl (fun c_28 => ?_) (fun c_28 => ?_)) | refine tt_icge (t := 44) (q := 31) hc dX9_bodies_28 rfl rfl (fun c_28 => ?_) (fun c_28 => ?_)
      · omega
      · refine tt_al0 (q := 32) hc dX9_bodies_31 rfl ?_
        refine tt_getR (q := 35) hc fl_X9_15 (by first | assumption | exact ⟨by decide, _, rfl, rfl⟩) dX9_bodies_32 rfl ?_
        refine tt_il3 (q := 36) hc dX9_bodies_35 rfl ?_
        refine tt_iconst (v := nI 0) (q := 37) hc rfl dX9_bodies_36 rfl ?_
        refine tt_zast (q := 38) hc (by first | assumption | exact ⟨by decide, rfl, by decide⟩) (by omega) (by first | decide | exact bI_01 _) dX9_bodies_37 rfl ?_
        first | refine tt_inc3 (q := 41) hc dX9_bodies_38 rfl (by decide) (incN _) ?_ | refine tt_inc3 (q := 41) hc dX9_bodies_38 rfl (by decide) rfl ?_
        refine tt_goto (t := 24) hc dX9_bodies_41 rfl ?_
        refine ih (s + 1) _ (by omega) (hf.tr (mg.fr frm.set (by decide))) e0 (fun t ht => ?_)
        show upd (ν 77) s 0 t = 0
        by_cases e : t = s
        · subst e
          exact pk_us
        · rw [pk_un e]
          exact hz t (by omega)
  refine tt_il1 (q := 1) hc dX9_bodies_0 rfl ?_
  refine tt_iconst (v := nI 3) (q := 2) hc rfl dX9_bodies_1 rfl ?_
  refine tt_iconst (v := nI 4) (q := 3) hc rfl dX9_bodies_2 rfl ?_
  refine tt_cS3 (q := 6) (d' := 0) hc (by first | decide | omega) kmX9_in ml_X9_91 (Nat.le_of_ble_eq_true rfl) dX9_bodies_3 rfl ?_
  refine c_X9_in ?_
  dsimp only [Option.toList, List.nil_append, List.cons_append]
  first | (with_reducible refine chkb ?_; refine tt_ifneB (t := 12) (q := 9) hc dX9_bodies_6 rfl rfl (fun c_6 => ?_) (fun c_6 => ?_)) | (with_reducible refine chk1 ?_; refine tt_ifneN (t := 12) (q := 9) hc (by omega) dX9_bodies_6 rfl rfl (fun c_6 => ?_) (fun c_6 => ?_)) | refine tt_ifne (t := 12) (q := 9) hc dX9_bodies_6 rfl rfl (fun c_6 => ?_) (fun c_6 => ?_)
  · obtain ⟨m, hm1, hm2, hk⟩ := inB_t (by decide) (by decide) c_6
    refine tt_al0 (q := 13) hc dX9_bodies_12 rfl ?_
    refine tt_getI (q := 16) hc fl_X9_9 (by first | assumption | exact ⟨by decide, _, rfl, _, rfl⟩) dX9_bodies_13 rfl ?_
    rw [a1]
    refine tt_is2 (q := 17) hc dX9_bodies_16 rfl (by decide) ?_
    refine tt_al0 (q := 18) hc dX9_bodies_17 rfl ?_
    refine tt_il1 (q := 19) hc dX9_bodies_18 rfl ?_
    refine tt_putI (q := 22) hc fp_X9_9 (by first | assumption | exact ⟨by decide, _, rfl, _, rfl⟩) dX9_bodies_19 rfl ?_
    refine tt_iconst (v := nI 0) (q := 23) hc rfl dX9_bodies_22 rfl ?_
    refine tt_is3 (q := 24) hc dX9_bodies_23 rfl (by decide) ?_
    subst hk
    exact L m (by omega) rfl c_6 256 0 _ rfl (mg.own (by decide)) rfl (fun t ht => absurd ht (Nat.not_lt_zero _))
  · refine tt_bipush (v := -2) (q := 11) hc (by decide) dX9_bodies_9 rfl ?_
    refine tt_reti hX rfl dX9_bodies_11 ?_
    rw [if_neg (by rw [c_6]; exact Bool.false_ne_true)] at hQ
    exact hQ μ frm.rf hM
set_option maxHeartbeats 8000000 in
theorem c_X9_keep {l : Launch} {S : ST} {μ : Mem} {Q : Option Value → Mem → Prop} (hM : MR μ S) (hQ : ∀ μ', frm mL μ μ' → MR μ' (sp_keep S).2 → Q (some (.int (sp_keep S).1)) μ') : CC l 2 mX9_keep [.ref 24] μ Q := by
  refine CC.of (M := mX9_keep) (by decide +kernel) rfl (fun v h => by simp at h; subst h; rfl) (Nat.le_of_ble_eq_true rfl) (fun X hX => ?_)
  have hc := hX.cx
  obtain ⟨K, B, hs, ks, im, ls, tx, pp⟩ := S
  obtain ⟨⟨a0, a1, a2⟩, a3, a4, a5, a6, a7, a8⟩ := id hM
  have q34 := HQ34
  have a35 := HA35
  have a77 := HA77
  obtain ⟨b1, b2, b3, b4⟩ := id a4
  dsimp only [sp_keep] at hQ
  have F : ks.length < 4 → ∀ (ν : Mem), mg [91 + ks.length, 35] [15] μ ν → BA ν (91 + ks.length) B → (∀ i, i ≠ ks.length → ν 35 i = μ 35 i) → ν 35 ks.length = nI K → ν 24 15 = nI (ks.length + 1) → TT X 50 [.ref 24] [] ν := by
    intro h4 ν hf hB h35 h35n e15
    rw [if_pos h4] at hQ
    refine tt_al0 (q := 51) hc dX9_keep_50 rfl ?_
    refine tt_getI (q := 54) hc fl_X9_214 (by first | assumption | exact ⟨by decide, _, rfl, _, rfl⟩) dX9_keep_51 rfl ?_
    rw [e15]
    refine tt_iconst (v := nI 1) (q := 55) hc rfl dX9_keep_54 rfl ?_
    first | (with_reducible refine chk2 ?_; refine tt_isubN (q := 56) hc (by omega) dX9_keep_55 rfl ?_) | refine tt_isub (q := 56) hc dX9_keep_55 rfl ?_
    refine tt_reti hX rfl dX9_keep_56 ?_
    refine hQ ν (fun i hi => hf.1 i (fun z => hi (mL_in (by simp at z; omega))) (fun e => hi (mL_in (by omega)))) ⟨⟨a0, (hf.2 0 (by decide)).trans a1, a2.mg hf (by simp; omega) (by decide)⟩, a3.mg hf (fun i hi => by simp at hi; omega) (by decide), ⟨?_, ?_, fun i q hq => ?_, fun j hj => ?_⟩, a5.mg hf (fun i hi => by simp at hi; omega) (by decide) (by decide) (by decide), a6.mg hf (fun i hi => by simp at hi; omega), a7.mg hf (by simp; omega) (by decide), a8.mg hf (by simp; omega) (by decide)⟩
    · rw [List.length_append, List.length_singleton]
      omega
    · rw [List.length_append, List.length_singleton]
      exact e15
    · by_cases e : i < ks.length
      · rw [List.getElem?_append_left e] at hq
        obtain ⟨g1, g2, g3⟩ := b3 i q hq
        exact ⟨g1.mg hf (by simp; omega) (by omega), by rw [h35 i (by omega)]; exact g2, g3⟩
      · have hl := (List.getElem?_eq_some_iff.mp hq).1
        rw [List.length_append, List.length_singleton] at hl
        have e2 : i = ks.length := by omega
        subst e2
        rw [List.getElem?_append_right (Nat.le_refl _), Nat.sub_self] at hq
        simp only [List.getElem?_cons_zero, Option.some.injEq] at hq
        subst hq
        exact ⟨hB, h35n, a0⟩
    · by_cases e : j = ks.length
      · exact ⟨B, by rw [e]; exact hB⟩
      · exact (b4 j hj).imp (fun C hC => hC.mg hf (by simp; omega) (by omega))
  refine tt_al0 (q := 1) hc dX9_keep_0 rfl ?_
  refine tt_getI (q := 4) hc fl_X9_214 (by first | assumption | exact ⟨by decide, _, rfl, _, rfl⟩) dX9_keep_1 rfl ?_
  rw [b2]
  refine tt_iconst (v := nI 4) (q := 5) hc rfl dX9_keep_4 rfl ?_
  first | (with_reducible refine chk2 ?_; refine tt_icneN (t := 11) (q := 8) hc (by omega) (by omega) dX9_keep_5 rfl rfl (fun c_5 => ?_) (fun c_5 => ?_)) | refine tt_icne (t := 11) (q := 8) hc dX9_keep_5 rfl rfl (fun c_5 => ?_) (fun c_5 => ?_)
  · have h4 : ks.length < 4 := by omega
    have ak := HAk h4
    refine tt_al0 (q := 12) hc dX9_keep_11 rfl ?_
    refine tt_getR (q := 15) hc fl_X9_15 (by first | assumption | exact ⟨by decide, _, rfl, rfl⟩) dX9_keep_12 rfl ?_
    refine tt_al0 (q := 16) hc dX9_keep_15 rfl ?_
    refine tt_getR (q := 19) hc fl_X9_51 (by first | assumption | exact ⟨by decide, _, rfl, rfl⟩) dX9_keep_16 rfl ?_
    refine tt_al0 (q := 20) hc dX9_keep_19 rfl ?_
    refine tt_getI (q := 23) hc fl_X9_214 (by first | assumption | exact ⟨by decide, _, rfl, _, rfl⟩) dX9_keep_20 rfl ?_
    rw [b2]
    refine tt_aald (q := 24) hc (r := _) (by first | assumption | exact ⟨by decide, rfl, by decide⟩) (by decide) (by omega) dX9_keep_23 rfl ?_
    refine tt_cS2 (q := 27) (d' := 1) hc (by first | decide | omega) kmX9_lays ml_X9_123 (Nat.le_of_ble_eq_true rfl) dX9_keep_24 rfl ?_
    refine c_X9_lays a77 ak a2 (fun ν hf hB => ?_)
    have e15 : ν 24 15 = nI ks.length := by rw [hf 24 (by simp; omega)]; exact b2
    have e0 : ν 24 0 = nI K := by rw [hf 24 (by simp; omega)]; exact a1
    have e35 : ν 35 = μ 35 := hf 35 (by simp; omega)
    dsimp only [Option.toList, List.nil_append, List.cons_append]
    refine tt_al0 (q := 28) hc dX9_keep_27 rfl ?_
    refine tt_getR (q := 31) hc fl_X9_54 (by first | assumption | exact ⟨by decide, _, rfl, rfl⟩) dX9_keep_28 rfl ?_
    refine tt_al0 (q := 32) hc dX9_keep_31 rfl ?_
    refine tt_getI (q := 35) hc fl_X9_214 (by first | assumption | exact ⟨by decide, _, rfl, _, rfl⟩) dX9_keep_32 rfl ?_
    rw [e15]
    refine tt_al0 (q := 36) hc dX9_keep_35 rfl ?_
    refine tt_getI (q := 39) hc fl_X9_9 (by first | assumption | exact ⟨by decide, _, rfl, _, rfl⟩) dX9_keep_36 rfl ?_
    rw [e0]
    refine tt_iast (q := 40) hc (by first | assumption | exact ⟨by decide, rfl, by decide⟩) (by omega) dX9_keep_39 rfl ?_
    refine tt_al0 (q := 41) hc dX9_keep_40 rfl ?_
    refine tt_dup (q := 42) hc rfl dX9_keep_41 rfl ?_
    refine tt_getI (q := 45) hc fl_X9_214 (by first | assumption | exact ⟨by decide, _, rfl, _, rfl⟩) dX9_keep_42 rfl ?_
    rw [mset_ne (by decide), e15]
    refine tt_iconst (v := nI 1) (q := 46) hc rfl dX9_keep_45 rfl ?_
    first | (with_reducible refine chk2 ?_; refine tt_iaddN (q := 47) hc dX9_keep_46 rfl ?_) | refine tt_iadd (q := 47) hc dX9_keep_46 rfl ?_
    refine tt_putI (q := 50) hc fp_X9_214 (by first | assumption | exact ⟨by decide, _, rfl, _, rfl⟩) dX9_keep_47 rfl ?_
    refine F h4 _ ((mg.fr (hf.mono (by simp)) (by simp; omega)).tr ((mg.fr (frm.set.mono (by simp)) (by simp; omega)).tr (mg.own (by decide)))) ((hB.mg (mg.fr (p := [15]) (frm.set (i := 35)) (by decide)) (by simp; omega) (by omega)).mg (mg.own (l := []) (p := [15]) (by decide)) (by simp) (by omega)) (fun i hi => ?_) ?_ rfl
    · show upd (ν 35) ks.length (nI K) i = μ 35 i
      rw [pk_un hi, e35]
    · show upd (ν 35) ks.length (nI K) ks.length = nI K
      exact pk_us
  · refine tt_bipush (v := -4) (q := 10) hc (by decide) dX9_keep_8 rfl ?_
    refine tt_reti hX rfl dX9_keep_10 ?_
    rw [if_neg (by omega)] at hQ
    exact hQ μ frm.rf hM
