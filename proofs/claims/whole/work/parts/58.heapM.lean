/-! THE MODEL: heap, judge, shelled -/
def hpI (k t lk wl : Nat) (r : Bool) (e : Int32) (pt : Nat) (ts : Bool) (w : Int32) : Int32 := if w = nI 0 then nI k else if w = nI 1 then nI t else if w = nI 2 then nI lk else if w = nI 3 then nI wl else if w = nI 4 then bI r else if w = nI 5 then nI 100 + e else if w = nI 6 then nI pt else if w = nI 7 then bI ts else -1
theorem hp_j (k t lk wl : Nat) (r : Bool) (e : Int32) (pt : Nat) (ts : Bool) : hpI k t lk wl r e pt ts (nI 0) = nI k ∧ hpI k t lk wl r e pt ts (nI 1) = nI t ∧ hpI k t lk wl r e pt ts (nI 2) = nI lk ∧ hpI k t lk wl r e pt ts (nI 3) = nI wl ∧ hpI k t lk wl r e pt ts (nI 4) = bI r ∧ hpI k t lk wl r e pt ts (nI 5) = nI 100 + e ∧ hpI k t lk wl r e pt ts (nI 6) = nI pt ∧ hpI k t lk wl r e pt ts (nI 7) = bI ts := ⟨rfl, rfl, rfl, rfl, rfl, rfl, rfl, rfl⟩
set_option maxHeartbeats 2000000 in
theorem c_X9_heap {l : Launch} {w : Int32} {S : ST} {μ : Mem} {Q : Option Value → Mem → Prop} (hM : MR μ S) (hQ : ∀ μ', frm mL μ μ' → MR μ' S → Q (some (.int (an_heap w S))) μ') : CC l 6 mX9_heap [.ref 24, .int w] μ Q := by
  refine CC.of (M := mX9_heap) (by decide +kernel) rfl (fun v h => by simp at h; rcases h with rfl | rfl <;> rfl) (Nat.le_of_ble_eq_true rfl) (fun X hX => ?_)
  have hc := hX.cx
  obtain ⟨K, B, hs, ks, im, ls, tx, pp⟩ := S
  obtain ⟨⟨a0, a1, a2⟩, -⟩ := id hM
  have a77 := HA77
  have hK := a0.1
  rw [an_heap] at hQ
  have W : ¬ inB w (nI 0) (nI 7) = true → Q (some (.int (-1))) μ := by
    intro h1
    have h := hQ μ frm.rf hM
    rw [if_neg (fun z => h1 (by rw [z]; decide)), if_neg (fun z => h1 (by rw [z]; decide)), if_neg (fun z => h1 (by rw [z]; decide)), if_neg (fun z => h1 (by rw [z]; decide)), if_neg (fun z => h1 (by rw [z]; decide)), if_neg (fun z => h1 (by rw [z]; decide)), if_neg (fun z => h1 (by rw [z]; decide)), if_neg (fun z => h1 (by rw [z]; decide))] at h
    exact h
  have SW : ∀ (ν : Mem) (j : Nat), j ≤ 7 → FA ν B → BA ν 77 B → ν 24 0 = nI K → (∀ ν', frm [28, 29] ν ν' → Q (some (.int (hpI K (tot B) (lkP B 0) (wls_ K B) (rgt K B) (euI B) (ptsA K B).2 (tsd K B) (nI j)))) ν') → TT X 21 [.ref 24, .int (nI j)] [.int (nI j)] ν := by
    intro ν j hj hF hB hz h
    have e4 : ν 24 4 = nI (lkP B 0) := by rw [hF.2.2, orB_lkP]
    obtain ⟨p0, p1, p2, p3, p4, p5, p6, p7⟩ := hp_j K (tot B) (lkP B 0) (wls_ K B) (rgt K B) (euI B) (ptsA K B).2 (tsd K B)
    rcases (show j = 0 ∨ j = 1 ∨ j = 2 ∨ j = 3 ∨ j = 4 ∨ j = 5 ∨ j = 6 ∨ j = 7 by omega) with rfl | rfl | rfl | rfl | rfl | rfl | rfl | rfl
    · refine tt_tswI (t := 64) hc dX9_heap_21 (by decide) (by decide) rfl rfl ?_
      refine tt_al0 (q := 65) hc dX9_heap_64 rfl ?_
      refine tt_getI (q := 68) hc fl_X9_9 (by first | assumption | exact ⟨by decide, _, rfl, _, rfl⟩) dX9_heap_65 rfl ?_
      rw [hz]
      refine tt_reti hX rfl dX9_heap_68 ?_
      rw [p0] at h
      exact h ν frm.rf
    · refine tt_tswI (t := 69) hc dX9_heap_21 (by decide) (by decide) rfl rfl ?_
      refine tt_al0 (q := 70) hc dX9_heap_69 rfl ?_
      refine tt_getR (q := 73) hc fl_X9_15 (by first | assumption | exact ⟨by decide, _, rfl, rfl⟩) dX9_heap_70 rfl ?_
      refine tt_cS1 (q := 76) (d' := 0) hc (by first | decide | omega) kmX9_bodiesOf ml_X9_140 (Nat.le_of_ble_eq_true rfl) dX9_heap_73 rfl ?_
      refine c_X9_bodiesOf a77 a0 hB ?_
      dsimp only [Option.toList, List.nil_append, List.cons_append]
      refine tt_reti hX rfl dX9_heap_76 ?_
      rw [p1] at h
      exact h ν frm.rf
    · refine tt_tswI (t := 77) hc dX9_heap_21 (by decide) (by decide) rfl rfl ?_
      refine tt_al0 (q := 78) hc dX9_heap_77 rfl ?_
      refine tt_getI (q := 81) hc fl_X9_107 (by first | assumption | exact ⟨by decide, _, rfl, _, rfl⟩) dX9_heap_78 rfl ?_
      rw [e4]
      refine tt_reti hX rfl dX9_heap_81 ?_
      rw [p2] at h
      exact h ν frm.rf
    · refine tt_tswI (t := 82) hc dX9_heap_21 (by decide) (by decide) rfl rfl ?_
      refine tt_al0 (q := 83) hc dX9_heap_82 rfl ?_
      refine tt_al0 (q := 84) hc dX9_heap_83 rfl ?_
      refine tt_getI (q := 87) hc fl_X9_9 (by first | assumption | exact ⟨by decide, _, rfl, _, rfl⟩) dX9_heap_84 rfl ?_
      rw [hz]
      refine tt_cV1 (q := 90) (d' := 3) (ci := 9) hc (by first | decide | omega) kmX9_walls ml_X9_154 (by first | assumption | exact ⟨by decide, _, rfl⟩) rfl (Nat.le_of_ble_eq_true rfl) dX9_heap_87 rfl ?_
      refine c_X9_walls hK hF ?_
      dsimp only [Option.toList, List.nil_append, List.cons_append]
      refine tt_reti hX rfl dX9_heap_90 ?_
      rw [p3] at h
      exact h ν frm.rf
    · refine tt_tswI (t := 91) hc dX9_heap_21 (by decide) (by decide) rfl rfl ?_
      refine tt_al0 (q := 92) hc dX9_heap_91 rfl ?_
      refine tt_cV0 (q := 95) (d' := 2) (ci := 9) hc (by first | decide | omega) kmX9_right ml_X9_157 (by first | assumption | exact ⟨by decide, _, rfl⟩) rfl (Nat.le_of_ble_eq_true rfl) dX9_heap_92 rfl ?_
      refine c_X9_right hK hF hz ?_
      dsimp only [Option.toList, List.nil_append, List.cons_append]
      refine tt_reti hX rfl dX9_heap_95 ?_
      rw [p4] at h
      exact h ν frm.rf
    · refine tt_tswI (t := 96) hc dX9_heap_21 (by decide) (by decide) rfl rfl ?_
      refine tt_bipush (v := nI 100) (q := 98) hc (by decide) dX9_heap_96 rfl ?_
      refine tt_al0 (q := 99) hc dX9_heap_98 rfl ?_
      refine tt_cV0 (q := 102) (d' := 3) (ci := 9) hc (by first | decide | omega) kmX9_euler ml_X9_161 (by first | assumption | exact ⟨by decide, _, rfl⟩) rfl (Nat.le_of_ble_eq_true rfl) dX9_heap_99 rfl ?_
      refine c_X9_euler hF ?_
      dsimp only [Option.toList, List.nil_append, List.cons_append]
      refine tt_iadd (q := 103) hc dX9_heap_102 rfl ?_
      refine tt_reti hX rfl dX9_heap_103 ?_
      rw [p5] at h
      exact h ν frm.rf
    · refine tt_tswI (t := 104) hc dX9_heap_21 (by decide) (by decide) rfl rfl ?_
      refine tt_al0 (q := 105) hc dX9_heap_104 rfl ?_
      refine tt_cV0 (q := 108) (d' := 4) (ci := 9) hc (by first | decide | omega) kmX9_parts ml_X9_164 (by first | assumption | exact ⟨by decide, _, rfl⟩) rfl (Nat.le_of_ble_eq_true rfl) dX9_heap_105 rfl ?_
      refine c_X9_parts a0 hB hz (fun ν' hf => ?_)
      dsimp only [Option.toList, List.nil_append, List.cons_append]
      refine tt_reti hX rfl dX9_heap_108 ?_
      rw [p6] at h
      exact h ν' hf
    · refine tt_tswO (t := 109) hc dX9_heap_21 (by decide) rfl ?_
      refine tt_al0 (q := 110) hc dX9_heap_109 rfl ?_
      refine tt_cV0 (q := 113) (d' := 5) (ci := 9) hc (by first | decide | omega) kmX9_isTwoSided ml_X9_167 (by first | assumption | exact ⟨by decide, _, rfl⟩) rfl (Nat.le_of_ble_eq_true rfl) dX9_heap_110 rfl ?_
      refine c_X9_isTwoSided a0 hB hz (fun ν' hf => ?_)
      rw [p7] at h
      have h := h ν' hf
      dsimp only [Option.toList, List.nil_append, List.cons_append]
      first | (with_reducible refine chkb ?_; refine tt_ifeqB (t := 120) (q := 116) hc dX9_heap_113 rfl rfl (fun c_113 => ?_) (fun c_113 => ?_)) | (with_reducible refine chk1 ?_; refine tt_ifeqN (t := 120) (q := 116) hc (by omega) dX9_heap_113 rfl rfl (fun c_113 => ?_) (fun c_113 => ?_)) | refine tt_ifeq (t := 120) (q := 116) hc dX9_heap_113 rfl rfl (fun c_113 => ?_) (fun c_113 => ?_)
      · refine tt_iconst (v := nI 0) (q := 121) hc rfl dX9_heap_120 rfl ?_
        refine tt_reti hX rfl dX9_heap_121 ?_
        first
        | (rw [c_113] at h; exact h)
      · refine tt_iconst (v := nI 1) (q := 117) hc rfl dX9_heap_116 rfl ?_
        refine tt_goto (t := 121) hc dX9_heap_117 rfl ?_
        refine tt_reti hX rfl dX9_heap_121 ?_
        first
        | (rw [c_113] at h; exact h)
  refine tt_il1 (q := 1) hc dX9_heap_0 rfl ?_
  refine tt_iconst (v := nI 0) (q := 2) hc rfl dX9_heap_1 rfl ?_
  refine tt_bipush (v := nI 7) (q := 4) hc (by decide) dX9_heap_2 rfl ?_
  refine tt_cS3 (q := 7) (d' := 0) hc (by first | decide | omega) kmX9_in ml_X9_91 (Nat.le_of_ble_eq_true rfl) dX9_heap_4 rfl ?_
  refine c_X9_in ?_
  dsimp only [Option.toList, List.nil_append, List.cons_append]
  first | (with_reducible refine chkb ?_; refine tt_ifneB (t := 12) (q := 10) hc dX9_heap_7 rfl rfl (fun c_7 => ?_) (fun c_7 => ?_)) | (with_reducible refine chk1 ?_; refine tt_ifneN (t := 12) (q := 10) hc (by omega) dX9_heap_7 rfl rfl (fun c_7 => ?_) (fun c_7 => ?_)) | refine tt_ifne (t := 12) (q := 10) hc dX9_heap_7 rfl rfl (fun c_7 => ?_) (fun c_7 => ?_)
  · obtain ⟨j, -, hj, rfl⟩ := inB_t (by decide) (by decide) c_7
    refine tt_al0 (q := 13) hc dX9_heap_12 rfl ?_
    refine tt_al0 (q := 14) hc dX9_heap_13 rfl ?_
    refine tt_getR (q := 17) hc fl_X9_15 (by first | assumption | exact ⟨by decide, _, rfl, rfl⟩) dX9_heap_14 rfl ?_
    refine tt_cV1 (q := 20) (d' := 0) (ci := 9) hc (by first | decide | omega) kmX9_layFaces ml_X9_150 (by first | assumption | exact ⟨by decide, _, rfl⟩) rfl (Nat.le_of_ble_eq_true rfl) dX9_heap_17 rfl ?_
    refine c_X9_layFaces a77 (by decide) a0 a2 (fun ν hf hF => ?_)
    dsimp only [Option.toList, List.nil_append, List.cons_append]
    refine tt_il1 (q := 21) hc dX9_heap_20 rfl ?_
    refine SW ν j hj hF (a2.mf hf (by decide) (by decide)) ((hf.2 0 (by decide)).trans a1) (fun ν' hf' => ?_)
    have hm : mf [26, 78, 28, 29] μ ν' := (hf.mono (by simp)).tr (mf.fr (hf'.mono (by simp)) (by decide))
    exact hQ ν' (hm.ml (by decide)) (hM.wk hm (by decide))
  · refine tt_iconst (v := -1) (q := 11) hc rfl dX9_heap_10 rfl ?_
    refine tt_reti hX rfl dX9_heap_11 ?_
    exact W (ne_true_of_eq_false c_7)
theorem bodyOf_bl {i : Nat} {S : ST} (hi : i < 2 ^ 31) : an_bodyOf (nI i) S = onI ((bl S.2.1)[i]?) := by
  obtain ⟨K, B, hs, ks, im, ls, tx, pp⟩ := S
  unfold an_bodyOf
  dsimp only
  rw [if_neg (nI_pos hi), nI_clamp hi, nth_bl, bl]
def jdl (xs : List Int32) : List Nat → Nat → Int32
  | [], i => if i < xs.length then nI i else -5
  | s :: r, i => if i < xs.length ∧ xs.getD i 0 = nI s then jdl xs r (i + 1) else nI i
theorem jdg_jdl {B : HP} {xs : List Int32} : ∀ n s i, jdg B xs n s i = jdl xs (blF B n s) i
  | 0, _, _ => rfl
  | n + 1, s, i => by
    rw [jdg, blF]
    by_cases c : B s = true
    · rw [if_pos c, if_pos c, jdl, jdg_jdl n (s + 1) (i + 1)]
    · rw [if_neg c, if_neg c, jdg_jdl n (s + 1) i]
set_option maxHeartbeats 2000000 in
theorem c_X9_judge {l : Launch} {v : Int32} {S : ST} {μ : Mem} {Q : Option Value → Mem → Prop} (hM : MR μ S) (hQ : ∀ μ', frm mL μ μ' → MR μ' S → Q (some (.int (an_judge v S))) μ') : CC l 2 mX9_judge [.ref 24, .int v] μ Q := by
  refine CC.of (M := mX9_judge) (by decide +kernel) rfl (fun v h => by simp at h; rcases h with rfl | rfl <;> rfl) (Nat.le_of_ble_eq_true rfl) (fun X hX => ?_)
  have hc := hX.cx
  have hM0 := hM
  obtain ⟨K, B, hs, ks, im, ls, tx, pp⟩ := S
  obtain ⟨⟨a0, a1, a2⟩, -⟩ := id hM
  have a5 := hM.2.2.2.2.1
  have a77 := HA77
  have q74 := HQ74
  have a73 := HA73
  have htot := tot_le a0
  have hbl := bl_len a0
  have hQ := hQ μ frm.rf hM
  rw [an_judge] at hQ
  rcases lst_cases ls v with ⟨hin, -⟩ | ⟨t, ht, rfl, hin, hls, -⟩ | ⟨t, xs, ht, rfl, hin, hls, -⟩
  · rw [if_neg (by rw [hin]; exact Bool.false_ne_true)] at hQ
    refine tt_il1 (q := 1) hc dX9_judge_0 rfl ?_
    refine tt_cS1 (q := 4) (d' := 1) hc (by first | decide | omega) kmX9_isList ml_X9_336 (Nat.le_of_ble_eq_true rfl) dX9_judge_1 rfl ?_
    refine c_X9_isList ?_
    rw [hin]
    dsimp only [Option.toList, List.nil_append, List.cons_append]
    first | (with_reducible refine chkb ?_; refine tt_ifneB (t := 9) (q := 7) hc dX9_judge_4 rfl rfl (fun c_4 => ?_) (fun c_4 => ?_)) | (with_reducible refine chk1 ?_; refine tt_ifneN (t := 9) (q := 7) hc (by omega) dX9_judge_4 rfl rfl (fun c_4 => ?_) (fun c_4 => ?_)) | refine tt_ifne (t := 9) (q := 7) hc dX9_judge_4 rfl rfl (fun c_4 => ?_) (fun c_4 => ?_)
    · cases c_4
    · refine tt_iconst (v := -1) (q := 8) hc rfl dX9_judge_7 rfl ?_
      refine tt_reti hX rfl dX9_judge_8 ?_
      exact hQ
  · rw [if_pos hin, nI_clamp (by omega), hls] at hQ
    have e := a5.no ht hls
    refine tt_il1 (q := 1) hc dX9_judge_0 rfl ?_
    refine tt_cS1 (q := 4) (d' := 1) hc (by first | decide | omega) kmX9_isList ml_X9_336 (Nat.le_of_ble_eq_true rfl) dX9_judge_1 rfl ?_
    refine c_X9_isList ?_
    rw [hin]
    dsimp only [Option.toList, List.nil_append, List.cons_append]
    first | (with_reducible refine chkb ?_; refine tt_ifneB (t := 9) (q := 7) hc dX9_judge_4 rfl rfl (fun c_4 => ?_) (fun c_4 => ?_)) | (with_reducible refine chk1 ?_; refine tt_ifneN (t := 9) (q := 7) hc (by omega) dX9_judge_4 rfl rfl (fun c_4 => ?_) (fun c_4 => ?_)) | refine tt_ifne (t := 9) (q := 7) hc dX9_judge_4 rfl rfl (fun c_4 => ?_) (fun c_4 => ?_)
    · refine tt_al0 (q := 10) hc dX9_judge_9 rfl ?_
      refine tt_getR (q := 13) hc fl_X9_76 (by first | assumption | exact ⟨by decide, _, rfl, rfl⟩) dX9_judge_10 rfl ?_
      refine tt_il1 (q := 14) hc dX9_judge_13 rfl ?_
      refine tt_iald (q := 15) hc (by first | assumption | exact ⟨by decide, rfl, by decide⟩) (by omega) dX9_judge_14 rfl ?_
      rw [e]
      refine tt_ifge (t := 21) (q := 18) hc dX9_judge_15 rfl rfl (fun c_15 => ?_) (fun c_15 => ?_)
      · exact absurd c_15 (by decide)
      · refine tt_bipush (v := -11) (q := 20) hc (by decide) dX9_judge_18 rfl ?_
        refine tt_reti hX rfl dX9_judge_20 ?_
        exact hQ
    · cases c_4
  · rw [if_pos hin, nI_clamp (by omega), hls] at hQ
    dsimp only at hQ
    rw [jdg_jdl] at hQ
    obtain ⟨x1, x2, x3⟩ := a5.so ht hls
    have a108 : HA (108 + t) 0 40 := ⟨by omega, sh_li, by decide⟩
    have L : ∀ (r : List Nat) (i : Nat), (bl B).drop i = r → i ≤ (bl B).length → Q (some (.int (jdl xs r i))) μ → TT X 31 [.ref 24, .int (nI t), .int (nI (bl B).length), .int (nI i)] [] μ := by
      intro r
      induction r with
      | nil =>
        intro i hr hi h
        have ho := drop_nil hr
        rw [jdl] at h
        refine tt_il3 (q := 32) hc dX9_judge_31 rfl ?_
        refine tt_il2 (q := 33) hc dX9_judge_32 rfl ?_
        first | (with_reducible refine chk2 ?_; refine tt_icltN (t := 46) (q := 36) hc (by omega) (by omega) dX9_judge_33 rfl rfl (fun c_33 => ?_) (fun c_33 => ?_)) | refine tt_iclt (t := 46) (q := 36) hc dX9_judge_33 rfl rfl (fun c_33 => ?_) (fun c_33 => ?_)
        · omega
        · refine tt_il3 (q := 37) hc dX9_judge_36 rfl ?_
          refine tt_al0 (q := 38) hc dX9_judge_37 rfl ?_
          refine tt_getR (q := 41) hc fl_X9_76 (by first | assumption | exact ⟨by decide, _, rfl, rfl⟩) dX9_judge_38 rfl ?_
          refine tt_il1 (q := 42) hc dX9_judge_41 rfl ?_
          refine tt_iald (q := 43) hc (by first | assumption | exact ⟨by decide, rfl, by decide⟩) (by omega) dX9_judge_42 rfl ?_
          rw [x2]
          first | (with_reducible refine chk2 ?_; refine tt_icgeN (t := 85) (q := 46) hc (by omega) (by omega) dX9_judge_43 rfl rfl (fun c_43 => ?_) (fun c_43 => ?_)) | refine tt_icge (t := 85) (q := 46) hc dX9_judge_43 rfl rfl (fun c_43 => ?_) (fun c_43 => ?_)
          · refine tt_bipush (v := -5) (q := 87) hc (by decide) dX9_judge_85 rfl ?_
            refine tt_reti hX rfl dX9_judge_87 ?_
            rw [if_neg (by omega)] at h
            exact h
          · refine tt_il3 (q := 47) hc dX9_judge_46 rfl ?_
            refine tt_il2 (q := 48) hc dX9_judge_47 rfl ?_
            first | (with_reducible refine chk2 ?_; refine tt_icgeN (t := 77) (q := 51) hc (by omega) (by omega) dX9_judge_48 rfl rfl (fun c_48 => ?_) (fun c_48 => ?_)) | refine tt_icge (t := 77) (q := 51) hc dX9_judge_48 rfl rfl (fun c_48 => ?_) (fun c_48 => ?_)
            · refine tt_il3 (q := 78) hc dX9_judge_77 rfl ?_
              refine tt_reti hX rfl dX9_judge_78 ?_
              rw [if_pos c_43] at h
              exact h
            · omega
      | cons s r ih =>
        intro i hr hi h
        obtain ⟨ho, hr2⟩ := drop_cons hr
        have lo := (List.getElem?_eq_some_iff.mp ho).1
        rw [jdl] at h
        refine tt_il3 (q := 32) hc dX9_judge_31 rfl ?_
        refine tt_il2 (q := 33) hc dX9_judge_32 rfl ?_
        first | (with_reducible refine chk2 ?_; refine tt_icltN (t := 46) (q := 36) hc (by omega) (by omega) dX9_judge_33 rfl rfl (fun c_33 => ?_) (fun c_33 => ?_)) | refine tt_iclt (t := 46) (q := 36) hc dX9_judge_33 rfl rfl (fun c_33 => ?_) (fun c_33 => ?_)
        · refine tt_il3 (q := 47) hc dX9_judge_46 rfl ?_
          refine tt_il2 (q := 48) hc dX9_judge_47 rfl ?_
          first | (with_reducible refine chk2 ?_; refine tt_icgeN (t := 77) (q := 51) hc (by omega) (by omega) dX9_judge_48 rfl rfl (fun c_48 => ?_) (fun c_48 => ?_)) | refine tt_icge (t := 77) (q := 51) hc dX9_judge_48 rfl rfl (fun c_48 => ?_) (fun c_48 => ?_)
          · omega
          · refine tt_il3 (q := 52) hc dX9_judge_51 rfl ?_
            refine tt_al0 (q := 53) hc dX9_judge_52 rfl ?_
            refine tt_getR (q := 56) hc fl_X9_76 (by first | assumption | exact ⟨by decide, _, rfl, rfl⟩) dX9_judge_53 rfl ?_
            refine tt_il1 (q := 57) hc dX9_judge_56 rfl ?_
            refine tt_iald (q := 58) hc (by first | assumption | exact ⟨by decide, rfl, by decide⟩) (by omega) dX9_judge_57 rfl ?_
            rw [x2]
            first | (with_reducible refine chk2 ?_; refine tt_icgeN (t := 77) (q := 61) hc (by omega) (by omega) dX9_judge_58 rfl rfl (fun c_58 => ?_) (fun c_58 => ?_)) | refine tt_icge (t := 77) (q := 61) hc dX9_judge_58 rfl rfl (fun c_58 => ?_) (fun c_58 => ?_)
            · refine tt_il3 (q := 78) hc dX9_judge_77 rfl ?_
              refine tt_reti hX rfl dX9_judge_78 ?_
              first
              | (have z : xs.length ≤ i := c_58
                 rw [if_neg (fun y => by omega)] at h
                 exact h)
              | (rw [if_neg (fun y => c_74 y.2)] at h
                 exact h)
            · refine tt_al0 (q := 62) hc dX9_judge_61 rfl ?_
              refine tt_getR (q := 65) hc fl_X9_79 (by first | assumption | exact ⟨by decide, _, rfl, rfl⟩) dX9_judge_62 rfl ?_
              refine tt_il1 (q := 66) hc dX9_judge_65 rfl ?_
              refine tt_aald (q := 67) hc (r := _) (by first | assumption | exact ⟨by decide, rfl, by decide⟩) (by decide) (by omega) dX9_judge_66 rfl ?_
              refine tt_il3 (q := 68) hc dX9_judge_67 rfl ?_
              refine tt_iald (q := 69) hc (by first | assumption | exact ⟨by decide, rfl, by decide⟩) (by omega) dX9_judge_68 rfl ?_
              rw [x3 i _ (getD_some (l := xs) (d := 0) (by omega))]
              refine tt_al0 (q := 70) hc dX9_judge_69 rfl ?_
              refine tt_il3 (q := 71) hc dX9_judge_70 rfl ?_
              refine tt_cV1 (q := 74) (d' := 0) (ci := 9) hc (by first | decide | omega) kmX9_bodyOf ml_X9_178 (by first | assumption | exact ⟨by decide, _, rfl⟩) rfl (Nat.le_of_ble_eq_true rfl) dX9_judge_71 rfl ?_
              refine c_X9_bodyOf hM0 ?_
              rw [bodyOf_bl (by omega), ho, show onI (some s) = nI s from rfl]
              dsimp only [Option.toList, List.nil_append, List.cons_append]
              first | (with_reducible refine chk2 ?_; refine tt_iceqN (t := 79) (q := 77) hc (by omega) (by omega) dX9_judge_74 rfl rfl (fun c_74 => ?_) (fun c_74 => ?_)) | refine tt_iceq (t := 79) (q := 77) hc dX9_judge_74 rfl rfl (fun c_74 => ?_) (fun c_74 => ?_)
              · first | refine tt_inc3 (q := 82) hc dX9_judge_79 rfl (by decide) (incN _) ?_ | refine tt_inc3 (q := 82) hc dX9_judge_79 rfl (by decide) rfl ?_
                refine tt_goto (t := 31) hc dX9_judge_82 rfl ?_
                rw [if_pos ⟨c_58, c_74⟩] at h
                exact ih (i + 1) hr2 (by omega) h
              · refine tt_il3 (q := 78) hc dX9_judge_77 rfl ?_
                refine tt_reti hX rfl dX9_judge_78 ?_
                first
                | (have z : xs.length ≤ i := c_58
                   rw [if_neg (fun y => by omega)] at h
                   exact h)
                | (rw [if_neg (fun y => c_74 y.2)] at h
                   exact h)
        · omega
    refine tt_il1 (q := 1) hc dX9_judge_0 rfl ?_
    refine tt_cS1 (q := 4) (d' := 1) hc (by first | decide | omega) kmX9_isList ml_X9_336 (Nat.le_of_ble_eq_true rfl) dX9_judge_1 rfl ?_
    refine c_X9_isList ?_
    rw [hin]
    dsimp only [Option.toList, List.nil_append, List.cons_append]
    first | (with_reducible refine chkb ?_; refine tt_ifneB (t := 9) (q := 7) hc dX9_judge_4 rfl rfl (fun c_4 => ?_) (fun c_4 => ?_)) | (with_reducible refine chk1 ?_; refine tt_ifneN (t := 9) (q := 7) hc (by omega) dX9_judge_4 rfl rfl (fun c_4 => ?_) (fun c_4 => ?_)) | refine tt_ifne (t := 9) (q := 7) hc dX9_judge_4 rfl rfl (fun c_4 => ?_) (fun c_4 => ?_)
    · refine tt_al0 (q := 10) hc dX9_judge_9 rfl ?_
      refine tt_getR (q := 13) hc fl_X9_76 (by first | assumption | exact ⟨by decide, _, rfl, rfl⟩) dX9_judge_10 rfl ?_
      refine tt_il1 (q := 14) hc dX9_judge_13 rfl ?_
      refine tt_iald (q := 15) hc (by first | assumption | exact ⟨by decide, rfl, by decide⟩) (by omega) dX9_judge_14 rfl ?_
      rw [x2]
      refine tt_ifgeN (t := 21) (q := 18) hc (by omega) dX9_judge_15 rfl rfl ?_
      refine tt_al0 (q := 22) hc dX9_judge_21 rfl ?_
      refine tt_getR (q := 25) hc fl_X9_15 (by first | assumption | exact ⟨by decide, _, rfl, rfl⟩) dX9_judge_22 rfl ?_
      refine tt_cS1 (q := 28) (d' := 0) hc (by first | decide | omega) kmX9_bodiesOf ml_X9_140 (Nat.le_of_ble_eq_true rfl) dX9_judge_25 rfl ?_
      refine c_X9_bodiesOf a77 a0 a2 ?_
      rw [← hbl]
      dsimp only [Option.toList, List.nil_append, List.cons_append]
      refine tt_is2 (q := 29) hc dX9_judge_28 rfl (by decide) ?_
      refine tt_iconst (v := nI 0) (q := 30) hc rfl dX9_judge_29 rfl ?_
      refine tt_is3 (q := 31) hc dX9_judge_30 rfl (by decide) ?_
      exact L (bl B) 0 rfl (Nat.zero_le _) hQ
    · cases c_4
