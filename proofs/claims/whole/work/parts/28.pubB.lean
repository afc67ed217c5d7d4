/-! THE CLASS: reading the heap; CONE -/
theorem sw_n (x : Int32) (n : Nat) (hn : n < 2 ^ 31) : (∃ j, j < n ∧ x = nI j) ∨ (x.toInt < 0 ∨ (n : Int) - 1 < x.toInt) := by
  rcases (show x.toInt < 0 ∨ (n : Int) - 1 < x.toInt ∨ (0 ≤ x.toInt ∧ x.toInt < n) by omega) with h | h | h
  · exact Or.inr (Or.inl h)
  · exact Or.inr (Or.inr h)
  · refine Or.inl ⟨x.toInt.toNat, by omega, ?_⟩
    apply Int32.toInt_inj.mp
    rw [nI_toInt (by omega)]
    omega
theorem nI_neq {x : Int32} {n j : Nat} (hj : j < n) (hn : n < 2 ^ 31) (h : x.toInt < 0 ∨ (n : Int) - 1 < x.toInt) : ¬ x = nI j := by
  intro e
  rw [e, nI_toInt (by omega)] at h
  omega
theorem cW1_body {K : Nat} {B : HP} (h : HOK K B) {s : Nat} (hs : s < 256) : (decide (cW B s = 1) && decide (pop s = K)) = B s := by
  by_cases hp : pop s = K
  · have e := cW_body h hs hp
    rw [decide_eq_true hp, Bool.and_true, e]
    cases B s <;> simp
  · rw [decide_eq_false hp, Bool.and_false]
    cases hB : B s
    · rfl
    · exact absurd (h.2 s hB).2 hp
def an_bodyOf (i : Int32) (S : ST) : Int32 := match S with
  | (_, B, _) => if i < 0 then -1 else onI (nth B 255 1 i.toNatClampNeg)
set_option maxHeartbeats 4000000 in
theorem c_X8_bodyOf {l : Launch} {i : Int32} {S : ST} {μ : Mem} {Q : Option Value → Mem → Prop} (hC : CR μ S) (hQ : ∀ μ', frm cL μ μ' → CR μ' S → Q (some (.int (an_bodyOf i S))) μ') : CC l 2 mX8_bodyOf [.ref 0, .int i] μ Q := by
  refine CC.of (M := mX8_bodyOf) (by decide +kernel) rfl (fun v h => by simp at h; rcases h with rfl | rfl <;> rfl) (Nat.le_of_ble_eq_true rfl) (fun X hX => ?_)
  have hc := hX.cx
  obtain ⟨K, B, hs, ks, im, ls, tx, pp⟩ := S
  have a1 := hC.1
  have hK := a1.1.1
  have h := hQ μ frm.rf hC
  rw [an_bodyOf] at h
  refine tt_il1 (q := 1) hc dX8_bodyOf_0 rfl ?_
  refine tt_ifge (t := 6) (q := 4) hc dX8_bodyOf_1 rfl rfl (fun c_1 => ?_) (fun c_1 => ?_)
  · rw [if_neg (Int32.not_lt.mpr c_1)] at h
    obtain ⟨n, hn, rfl⟩ := nI_of (Int32.not_lt.mpr c_1)
    rw [nI_clamp hn] at h
    refine tt_al0 (q := 7) hc dX8_bodyOf_6 rfl ?_
    refine tt_getR (q := 10) hc fl_X8_12 (by first | assumption | exact ⟨by decide, _, rfl, rfl⟩) dX8_bodyOf_7 rfl ?_
    refine tt_al0 (q := 11) hc dX8_bodyOf_10 rfl ?_
    refine tt_getR (q := 14) hc fl_X8_12 (by first | assumption | exact ⟨by decide, _, rfl, rfl⟩) dX8_bodyOf_11 rfl ?_
    refine tt_getI (q := 17) hc fl_X8_81 (by first | assumption | exact ⟨by decide, _, rfl, _, rfl⟩) dX8_bodyOf_14 rfl ?_
    rw [a1.2.1]
    refine tt_iconst (v := nI 1) (q := 18) hc rfl dX8_bodyOf_17 rfl ?_
    refine tt_il1 (q := 19) hc dX8_bodyOf_18 rfl ?_
    refine tt_cV3 (q := 22) (d' := 1) (ci := 0) hc (by first | decide | omega) kmX0_setAt ml_X8_112 (by first | assumption | exact ⟨by decide, _, rfl⟩) rfl (Nat.le_of_ble_eq_true rfl) dX8_bodyOf_19 rfl ?_
    refine c_X0_setAt (j := 0) (by decide) a1 (by omega) (by decide) hn ?_
    dsimp only [Option.toList, List.nil_append, List.cons_append]
    refine tt_reti hX rfl dX8_bodyOf_22 ?_
    rw [nth_congr 255 1 n (fun t h1 h2 => cW1_body a1.1 (by omega))]
    exact h
  · refine tt_iconst (v := -1) (q := 5) hc rfl dX8_bodyOf_4 rfl ?_
    refine tt_reti hX rfl dX8_bodyOf_5 ?_
    rw [if_pos (Int32.not_le.mp c_1)] at h
    exact h
def an_wall (i : Int32) (S : ST) : Int32 := match S with
  | (K, B, _) => if i < 0 then -1 else onI (nth (wal K B) 255 1 i.toNatClampNeg)
set_option maxHeartbeats 4000000 in
theorem c_X8_wall {l : Launch} {i : Int32} {S : ST} {μ : Mem} {Q : Option Value → Mem → Prop} (hC : CR μ S) (hQ : ∀ μ', frm cL μ μ' → CR μ' S → Q (some (.int (an_wall i S))) μ') : CC l 2 mX8_wall [.ref 0, .int i] μ Q := by
  refine CC.of (M := mX8_wall) (by decide +kernel) rfl (fun v h => by simp at h; rcases h with rfl | rfl <;> rfl) (Nat.le_of_ble_eq_true rfl) (fun X hX => ?_)
  have hc := hX.cx
  obtain ⟨K, B, hs, ks, im, ls, tx, pp⟩ := S
  have a1 := hC.1
  have hK := a1.1.1
  have h := hQ μ frm.rf hC
  rw [an_wall] at h
  refine tt_il1 (q := 1) hc dX8_wall_0 rfl ?_
  refine tt_ifge (t := 6) (q := 4) hc dX8_wall_1 rfl rfl (fun c_1 => ?_) (fun c_1 => ?_)
  · rw [if_neg (Int32.not_lt.mpr c_1)] at h
    obtain ⟨n, hn, rfl⟩ := nI_of (Int32.not_lt.mpr c_1)
    rw [nI_clamp hn] at h
    refine tt_al0 (q := 7) hc dX8_wall_6 rfl ?_
    refine tt_getR (q := 10) hc fl_X8_12 (by first | assumption | exact ⟨by decide, _, rfl, rfl⟩) dX8_wall_7 rfl ?_
    refine tt_al0 (q := 11) hc dX8_wall_10 rfl ?_
    refine tt_getR (q := 14) hc fl_X8_12 (by first | assumption | exact ⟨by decide, _, rfl, rfl⟩) dX8_wall_11 rfl ?_
    refine tt_getI (q := 17) hc fl_X8_81 (by first | assumption | exact ⟨by decide, _, rfl, _, rfl⟩) dX8_wall_14 rfl ?_
    rw [a1.2.1]
    refine tt_iconst (v := nI 1) (q := 18) hc rfl dX8_wall_17 rfl ?_
    first | (with_reducible refine chk2 ?_; refine tt_isubN (q := 19) hc (by omega) dX8_wall_18 rfl ?_) | refine tt_isub (q := 19) hc dX8_wall_18 rfl ?_
    refine tt_iconst (v := nI 1) (q := 20) hc rfl dX8_wall_19 rfl ?_
    refine tt_il1 (q := 21) hc dX8_wall_20 rfl ?_
    refine tt_cV3 (q := 24) (d' := 1) (ci := 0) hc (by first | decide | omega) kmX0_setAt ml_X8_112 (by first | assumption | exact ⟨by decide, _, rfl⟩) rfl (Nat.le_of_ble_eq_true rfl) dX8_wall_21 rfl ?_
    refine c_X0_setAt (j := 0) (by decide) a1 (by omega) (by decide) hn ?_
    dsimp only [Option.toList, List.nil_append, List.cons_append]
    refine tt_reti hX rfl dX8_wall_24 ?_
    exact h
  · refine tt_iconst (v := -1) (q := 5) hc rfl dX8_wall_4 rfl ?_
    refine tt_reti hX rfl dX8_wall_5 ?_
    rw [if_pos (Int32.not_le.mp c_1)] at h
    exact h
theorem c_X8_isSet {l : Launch} {v : Int32} {μ : Mem} {Q : Option Value → Mem → Prop} (hQ : Q (some (.int (bI (inB v (nI 1) (nI 255))))) μ) : CC l 0 mX8_isSet [.int v] μ Q := by
  refine CC.of (M := mX8_isSet) (by decide +kernel) rfl (fun v h => by simp at h; subst h; rfl) (Nat.le_of_ble_eq_true rfl) (fun X hX => ?_)
  have hc := hX.cx
  refine tt_il0 (q := 1) hc dX8_isSet_0 rfl ?_
  first | (with_reducible refine chk1 ?_; refine tt_ifleN (t := 15) (q := 4) hc (by omega) dX8_isSet_1 rfl rfl (fun c_1 => ?_) (fun c_1 => ?_)) | refine tt_ifle (t := 15) (q := 4) hc dX8_isSet_1 rfl rfl (fun c_1 => ?_) (fun c_1 => ?_)
  · refine tt_iconst (q := 16) (v := nI 0) hc rfl dX8_isSet_15 rfl ?_
    refine tt_retz hX rfl (by decide) dX8_isSet_16 (qb0 hQ (inB_lo (Int32.lt_of_le_of_lt c_1 (nI_lt (a := 0) (b := 1) (by decide) (by decide)))))
  · refine tt_il0 (q := 5) hc dX8_isSet_4 rfl ?_
    refine tt_sipush (v := nI 256) (q := 8) hc (by decide) dX8_isSet_5 rfl ?_
    first | (with_reducible refine chk2 ?_; refine tt_icgeN (t := 15) (q := 11) hc (by omega) (by omega) dX8_isSet_8 rfl rfl (fun c_8 => ?_) (fun c_8 => ?_)) | refine tt_icge (t := 15) (q := 11) hc dX8_isSet_8 rfl rfl (fun c_8 => ?_) (fun c_8 => ?_)
    · refine tt_iconst (v := nI 0) (q := 16) hc rfl dX8_isSet_15 rfl ?_
      refine tt_retz hX rfl (by first | decide | exact bI_01 _) dX8_isSet_16 ?_
      first
      | exact qb0 hQ (inB_hi (Int32.lt_of_lt_of_le (nI_lt (a := 255) (b := 256) (by decide) (by decide)) c_8))
      | (obtain ⟨n, hn, rfl⟩ := nI_of (fun z => c_1 (Int32.le_of_lt z))
         have h0 : 0 < n := by
           rcases Nat.eq_zero_or_pos n with z | z
           · exact absurd (by rw [z]; decide) c_1
           · exact z
         have h1 : n < 256 := (nI_ltI hn (by decide)).mp (Int32.not_le.mp c_8)
         exact qb1 hQ (inB_in (nI_nlt (by omega) (by omega)) (nI_nlt (by omega) (by omega))))
    · refine tt_iconst (v := nI 1) (q := 12) hc rfl dX8_isSet_11 rfl ?_
      refine tt_goto (t := 16) hc dX8_isSet_12 rfl ?_
      refine tt_retz hX rfl (by first | decide | exact bI_01 _) dX8_isSet_16 ?_
      first
      | exact qb0 hQ (inB_hi (Int32.lt_of_lt_of_le (nI_lt (a := 255) (b := 256) (by decide) (by decide)) c_8))
      | (obtain ⟨n, hn, rfl⟩ := nI_of (fun z => c_1 (Int32.le_of_lt z))
         have h0 : 0 < n := by
           rcases Nat.eq_zero_or_pos n with z | z
           · exact absurd (by rw [z]; decide) c_1
           · exact z
         have h1 : n < 256 := (nI_ltI hn (by decide)).mp (Int32.not_le.mp c_8)
         exact qb1 hQ (inB_in (nI_nlt (by omega) (by omega)) (nI_nlt (by omega) (by omega))))
def an_heap (w : Int32) (S : ST) : Int32 := match S with
  | (K, B, _) => if w = nI 0 then nI K else if w = nI 1 then nI (tot B) else if w = nI 2 then nI (lkP B 0) else if w = nI 3 then nI (wls_ K B) else if w = nI 4 then bI (rgt K B) else if w = nI 5 then nI 100 + euI B else if w = nI 6 then nI (ptsA K B).2 else if w = nI 7 then bI (tsd K B) else -1
set_option maxHeartbeats 8000000 in
theorem c_X8_heap {l : Launch} {w : Int32} {S : ST} {μ : Mem} {Q : Option Value → Mem → Prop} (hC : CR μ S) (hQ : ∀ μ', frm cL μ μ' → CR μ' S → Q (some (.int (an_heap w S))) μ') : CC l 5 mX8_heap [.ref 0, .int w] μ Q := by
  refine CC.of (M := mX8_heap) (by decide +kernel) rfl (fun v h => by simp at h; rcases h with rfl | rfl <;> rfl) (Nat.le_of_ble_eq_true rfl) (fun X hX => ?_)
  have hc := hX.cx
  obtain ⟨K, B, hs, ks, im, ls, tx, pp⟩ := S
  have a1 := hC.1
  have h := hQ μ frm.rf hC
  rw [an_heap] at h hQ
  refine tt_il1 (q := 1) hc dX8_heap_0 rfl ?_
  rcases sw_n w 8 (by decide) with ⟨j, hj, rfl⟩ | hout
  · rcases (show j = 0 ∨ j = 1 ∨ j = 2 ∨ j = 3 ∨ j = 4 ∨ j = 5 ∨ j = 6 ∨ j = 7 by omega) with rfl | rfl | rfl | rfl | rfl | rfl | rfl | rfl
    · refine tt_tswI (t := 48) hc dX8_heap_1 (by decide) (by decide) rfl rfl ?_
      refine tt_al0 (q := 49) hc dX8_heap_48 rfl ?_
      refine tt_getR (q := 52) hc fl_X8_12 (by first | assumption | exact ⟨by decide, _, rfl, rfl⟩) dX8_heap_49 rfl ?_
      refine tt_getI (q := 55) hc fl_X8_81 (by first | assumption | exact ⟨by decide, _, rfl, _, rfl⟩) dX8_heap_52 rfl ?_
      rw [a1.2.1]
      refine tt_reti hX rfl dX8_heap_55 ?_
      exact h
    · refine tt_tswI (t := 56) hc dX8_heap_1 (by decide) (by decide) rfl rfl ?_
      refine tt_al0 (q := 57) hc dX8_heap_56 rfl ?_
      refine tt_getR (q := 60) hc fl_X8_12 (by first | assumption | exact ⟨by decide, _, rfl, rfl⟩) dX8_heap_57 rfl ?_
      refine tt_cV0 (q := 63) (d' := 0) (ci := 0) hc (by first | decide | omega) kmX0_total ml_X8_99 (by first | assumption | exact ⟨by decide, _, rfl⟩) rfl (Nat.le_of_ble_eq_true rfl) dX8_heap_60 rfl ?_
      refine c_X0_total (j := 0) (by decide) a1 ?_
      dsimp only [Option.toList, List.nil_append, List.cons_append]
      refine tt_reti hX rfl dX8_heap_63 ?_
      exact h
    · refine tt_tswI (t := 64) hc dX8_heap_1 (by decide) (by decide) rfl rfl ?_
      refine tt_al0 (q := 65) hc dX8_heap_64 rfl ?_
      refine tt_getR (q := 68) hc fl_X8_12 (by first | assumption | exact ⟨by decide, _, rfl, rfl⟩) dX8_heap_65 rfl ?_
      refine tt_cV0 (q := 71) (d' := 1) (ci := 0) hc (by first | decide | omega) kmX0_there ml_X8_116 (by first | assumption | exact ⟨by decide, _, rfl⟩) rfl (Nat.le_of_ble_eq_true rfl) dX8_heap_68 rfl ?_
      refine c_X0_there (j := 0) (by decide) a1 ?_
      dsimp only [Option.toList, List.nil_append, List.cons_append]
      refine tt_reti hX rfl dX8_heap_71 ?_
      exact h
    · refine tt_tswI (t := 72) hc dX8_heap_1 (by decide) (by decide) rfl rfl ?_
      refine tt_al0 (q := 73) hc dX8_heap_72 rfl ?_
      refine tt_getR (q := 76) hc fl_X8_12 (by first | assumption | exact ⟨by decide, _, rfl, rfl⟩) dX8_heap_73 rfl ?_
      refine tt_cV0 (q := 79) (d' := 2) (ci := 0) hc (by first | decide | omega) kmX0_walls ml_X8_119 (by first | assumption | exact ⟨by decide, _, rfl⟩) rfl (Nat.le_of_ble_eq_true rfl) dX8_heap_76 rfl ?_
      refine c_X0_walls (j := 0) (by decide) a1 ?_
      dsimp only [Option.toList, List.nil_append, List.cons_append]
      refine tt_reti hX rfl dX8_heap_79 ?_
      exact h
    · refine tt_tswI (t := 80) hc dX8_heap_1 (by decide) (by decide) rfl rfl ?_
      refine tt_al0 (q := 81) hc dX8_heap_80 rfl ?_
      refine tt_getR (q := 84) hc fl_X8_12 (by first | assumption | exact ⟨by decide, _, rfl, rfl⟩) dX8_heap_81 rfl ?_
      refine tt_cV0 (q := 87) (d' := 1) (ci := 0) hc (by first | decide | omega) kmX0_isRight ml_X8_122 (by first | assumption | exact ⟨by decide, _, rfl⟩) rfl (Nat.le_of_ble_eq_true rfl) dX8_heap_84 rfl ?_
      refine c_X0_isRight (j := 0) (by decide) a1 ?_
      dsimp only [Option.toList, List.nil_append, List.cons_append]
      first | (with_reducible refine chkb ?_; refine tt_ifeqB (t := 94) (q := 90) hc dX8_heap_87 rfl rfl (fun c_87 => ?_) (fun c_87 => ?_)) | (with_reducible refine chk1 ?_; refine tt_ifeqN (t := 94) (q := 90) hc (by omega) dX8_heap_87 rfl rfl (fun c_87 => ?_) (fun c_87 => ?_)) | refine tt_ifeq (t := 94) (q := 90) hc dX8_heap_87 rfl rfl (fun c_87 => ?_) (fun c_87 => ?_)
      · refine tt_iconst (v := nI 0) (q := 95) hc rfl dX8_heap_94 rfl ?_
        refine tt_reti hX rfl dX8_heap_95 ?_
        rw [if_neg (by decide), if_neg (by decide), if_neg (by decide), if_neg (by decide), if_pos rfl, c_87] at h
        exact h
      · refine tt_iconst (v := nI 1) (q := 91) hc rfl dX8_heap_90 rfl ?_
        refine tt_goto (t := 95) hc dX8_heap_91 rfl ?_
        refine tt_reti hX rfl dX8_heap_95 ?_
        rw [if_neg (by decide), if_neg (by decide), if_neg (by decide), if_neg (by decide), if_pos rfl, c_87] at h
        exact h
    · refine tt_tswI (t := 96) hc dX8_heap_1 (by decide) (by decide) rfl rfl ?_
      refine tt_bipush (v := nI 100) (q := 98) hc (by decide) dX8_heap_96 rfl ?_
      refine tt_al0 (q := 99) hc dX8_heap_98 rfl ?_
      refine tt_getR (q := 102) hc fl_X8_12 (by first | assumption | exact ⟨by decide, _, rfl, rfl⟩) dX8_heap_99 rfl ?_
      refine tt_cV0 (q := 105) (d' := 2) (ci := 0) hc (by first | decide | omega) kmX0_euler ml_X8_126 (by first | assumption | exact ⟨by decide, _, rfl⟩) rfl (Nat.le_of_ble_eq_true rfl) dX8_heap_102 rfl ?_
      refine c_X0_euler (j := 0) (by decide) a1 ?_
      dsimp only [Option.toList, List.nil_append, List.cons_append]
      first | (with_reducible refine chk2 ?_; refine tt_iaddN (q := 106) hc dX8_heap_105 rfl ?_) | refine tt_iadd (q := 106) hc dX8_heap_105 rfl ?_
      refine tt_reti hX rfl dX8_heap_106 ?_
      exact h
    · refine tt_tswI (t := 107) hc dX8_heap_1 (by decide) (by decide) rfl rfl ?_
      refine tt_al0 (q := 108) hc dX8_heap_107 rfl ?_
      refine tt_getR (q := 111) hc fl_X8_45 (by first | assumption | exact ⟨by decide, _, rfl, rfl⟩) dX8_heap_108 rfl ?_
      refine tt_al0 (q := 112) hc dX8_heap_111 rfl ?_
      refine tt_getR (q := 115) hc fl_X8_12 (by first | assumption | exact ⟨by decide, _, rfl, rfl⟩) dX8_heap_112 rfl ?_
      refine tt_cV1 (q := 118) (d' := 3) (ci := 7) hc (by first | decide | omega) kmX7_parts ml_X8_129 (by first | assumption | exact ⟨by decide, _, rfl⟩) rfl (Nat.le_of_ble_eq_true rfl) dX8_heap_115 rfl ?_
      refine c_X7_parts (j := 0) (by decide) a1 (fun ν hf _ _ => ?_)
      dsimp only [Option.toList, List.nil_append, List.cons_append]
      refine tt_reti hX rfl dX8_heap_118 ?_
      exact hQ ν (hf.cl (by decide)) (hC.wk hf (by decide))
    · refine tt_tswI (t := 119) hc dX8_heap_1 (by decide) (by decide) rfl rfl ?_
      refine tt_al0 (q := 120) hc dX8_heap_119 rfl ?_
      refine tt_getR (q := 123) hc fl_X8_45 (by first | assumption | exact ⟨by decide, _, rfl, rfl⟩) dX8_heap_120 rfl ?_
      refine tt_al0 (q := 124) hc dX8_heap_123 rfl ?_
      refine tt_getR (q := 127) hc fl_X8_12 (by first | assumption | exact ⟨by decide, _, rfl, rfl⟩) dX8_heap_124 rfl ?_
      refine tt_cV1 (q := 130) (d' := 4) (ci := 7) hc (by first | decide | omega) kmX7_twoSided ml_X8_133 (by first | assumption | exact ⟨by decide, _, rfl⟩) rfl (Nat.le_of_ble_eq_true rfl) dX8_heap_127 rfl ?_
      refine c_X7_twoSided (j := 0) (by decide) a1 (fun ν hf => ?_)
      dsimp only [Option.toList, List.nil_append, List.cons_append]
      first | (with_reducible refine chkb ?_; refine tt_ifeqB (t := 137) (q := 133) hc dX8_heap_130 rfl rfl (fun c_130 => ?_) (fun c_130 => ?_)) | (with_reducible refine chk1 ?_; refine tt_ifeqN (t := 137) (q := 133) hc (by omega) dX8_heap_130 rfl rfl (fun c_130 => ?_) (fun c_130 => ?_)) | refine tt_ifeq (t := 137) (q := 133) hc dX8_heap_130 rfl rfl (fun c_130 => ?_) (fun c_130 => ?_)
      · refine tt_iconst (v := nI 0) (q := 138) hc rfl dX8_heap_137 rfl ?_
        refine tt_reti hX rfl dX8_heap_138 ?_
        have h2 := hQ ν (hf.cl (by decide)) (hC.wk hf (by decide))
        rw [if_neg (by decide), if_neg (by decide), if_neg (by decide), if_neg (by decide), if_neg (by decide), if_neg (by decide), if_neg (by decide), if_pos rfl, c_130] at h2
        exact h2
      · refine tt_iconst (v := nI 1) (q := 134) hc rfl dX8_heap_133 rfl ?_
        refine tt_goto (t := 138) hc dX8_heap_134 rfl ?_
        refine tt_reti hX rfl dX8_heap_138 ?_
        have h2 := hQ ν (hf.cl (by decide)) (hC.wk hf (by decide))
        rw [if_neg (by decide), if_neg (by decide), if_neg (by decide), if_neg (by decide), if_neg (by decide), if_neg (by decide), if_neg (by decide), if_pos rfl, c_130] at h2
        exact h2
  · refine tt_tswO (t := 139) hc dX8_heap_1 hout rfl ?_
    refine tt_iconst (v := -1) (q := 140) hc rfl dX8_heap_139 rfl ?_
    refine tt_reti hX rfl dX8_heap_140 ?_
    rw [if_neg (nI_neq (by omega) (by decide) hout), if_neg (nI_neq (by omega) (by decide) hout), if_neg (nI_neq (by omega) (by decide) hout), if_neg (nI_neq (by omega) (by decide) hout), if_neg (nI_neq (by omega) (by decide) hout), if_neg (nI_neq (by omega) (by decide) hout), if_neg (nI_neq (by omega) (by decide) hout), if_neg (nI_neq (by omega) (by decide) hout)] at h
    exact h
def an_faces (j : Int32) (S : ST) : Int32 := match S with
  | (_, B, _) => if inB j (nI 1) (nI 4) = true then nI (fcs B j.toNatClampNeg) else -2
set_option maxHeartbeats 4000000 in
theorem c_X8_faces {l : Launch} {j : Int32} {S : ST} {μ : Mem} {Q : Option Value → Mem → Prop} (hC : CR μ S) (hQ : ∀ μ', frm cL μ μ' → CR μ' S → Q (some (.int (an_faces j S))) μ') : CC l 2 mX8_faces [.ref 0, .int j] μ Q := by
  refine CC.of (M := mX8_faces) (by decide +kernel) rfl (fun v h => by simp at h; rcases h with rfl | rfl <;> rfl) (Nat.le_of_ble_eq_true rfl) (fun X hX => ?_)
  have hc := hX.cx
  obtain ⟨K, B, hs, ks, im, ls, tx, pp⟩ := S
  have a1 := hC.1
  have h := hQ μ frm.rf hC
  rw [an_faces] at h
  refine tt_il1 (q := 1) hc dX8_faces_0 rfl ?_
  refine tt_iconst (v := nI 1) (q := 2) hc rfl dX8_faces_1 rfl ?_
  first | (with_reducible refine chk2 ?_; refine tt_icltN (t := 10) (q := 5) hc (by omega) (by omega) dX8_faces_2 rfl rfl (fun c_2 => ?_) (fun c_2 => ?_)) | refine tt_iclt (t := 10) (q := 5) hc dX8_faces_2 rfl rfl (fun c_2 => ?_) (fun c_2 => ?_)
  · refine tt_bipush (v := -2) (q := 12) hc (by decide) dX8_faces_10 rfl ?_
    refine tt_reti hX rfl dX8_faces_12 ?_
    first
    | (rw [if_neg (by rw [inB_lo c_2]; exact Bool.false_ne_true)] at h; exact h)
    | (rw [if_neg (by rw [inB_hi (b := nI 4) (Int32.not_le.mp c_7)]; exact Bool.false_ne_true)] at h; exact h)
  · refine tt_il1 (q := 6) hc dX8_faces_5 rfl ?_
    refine tt_iconst (v := nI 4) (q := 7) hc rfl dX8_faces_6 rfl ?_
    first | (with_reducible refine chk2 ?_; refine tt_icleN (t := 13) (q := 10) hc (by omega) (by omega) dX8_faces_7 rfl rfl (fun c_7 => ?_) (fun c_7 => ?_)) | refine tt_icle (t := 13) (q := 10) hc dX8_faces_7 rfl rfl (fun c_7 => ?_) (fun c_7 => ?_)
    · have hin : inB j (nI 1) (nI 4) = true := inB_in c_2 (Int32.not_lt.mpr c_7)
      obtain ⟨n, -, hn5, rfl⟩ := inB_t (by decide) (by decide) hin
      rw [if_pos hin, nI_clamp (by omega)] at h
      refine tt_al0 (q := 14) hc dX8_faces_13 rfl ?_
      refine tt_getR (q := 17) hc fl_X8_12 (by first | assumption | exact ⟨by decide, _, rfl, rfl⟩) dX8_faces_14 rfl ?_
      refine tt_il1 (q := 18) hc dX8_faces_17 rfl ?_
      refine tt_cV1 (q := 21) (d' := 1) (ci := 0) hc (by first | decide | omega) kmX0_facesOf ml_X8_137 (by first | assumption | exact ⟨by decide, _, rfl⟩) rfl (Nat.le_of_ble_eq_true rfl) dX8_faces_18 rfl ?_
      refine c_X0_facesOf (j := 0) (by decide) a1 ?_
      dsimp only [Option.toList, List.nil_append, List.cons_append]
      refine tt_reti hX rfl dX8_faces_21 ?_
      exact h
    · refine tt_bipush (v := -2) (q := 12) hc (by decide) dX8_faces_10 rfl ?_
      refine tt_reti hX rfl dX8_faces_12 ?_
      first
      | (rw [if_neg (by rw [inB_lo c_2]; exact Bool.false_ne_true)] at h; exact h)
      | (rw [if_neg (by rw [inB_hi (b := nI 4) (Int32.not_le.mp c_7)]; exact Bool.false_ne_true)] at h; exact h)
def an_face (s w : Int32) (S : ST) : Int32 := match S with
  | (_, B, _) => if inB s (nI 1) (nI 255) = true then (if w = nI 0 then bI (decide (0 < cW B s.toNatClampNeg)) else if w = nI 1 then nI (cW B s.toNatClampNeg) else if w = nI 2 then nI (lkS B s.toNatClampNeg) else if w = nI 3 then nI (lkP B s.toNatClampNeg) else -1) else -1
set_option maxHeartbeats 8000000 in
theorem c_X8_face {l : Launch} {s w : Int32} {S : ST} {μ : Mem} {Q : Option Value → Mem → Prop} (hC : CR μ S) (hQ : ∀ μ', frm cL μ μ' → CR μ' S → Q (some (.int (an_face s w S))) μ') : CC l 1 mX8_face [.ref 0, .int s, .int w] μ Q := by
  refine CC.of (M := mX8_face) (by decide +kernel) rfl (fun v h => by simp at h; rcases h with rfl | rfl | rfl <;> rfl) (Nat.le_of_ble_eq_true rfl) (fun X hX => ?_)
  have hc := hX.cx
  obtain ⟨K, B, hs, ks, im, ls, tx, pp⟩ := S
  have a1 := hC.1
  have h := hQ μ frm.rf hC
  rw [an_face] at h
  have SW : inB s (nI 1) (nI 255) = true → TT X 10 [.ref 0, .int s, .int w] [.int w] μ := by
    intro hin
    obtain ⟨n, hn1, hn5, rfl⟩ := inB_t (by decide) (by decide) hin
    rw [if_pos hin, nI_clamp (by omega)] at h
    have hcw := cW_le B n
    rcases sw_n w 4 (by decide) with ⟨j, hj, rfl⟩ | hout
    · rcases (show j = 0 ∨ j = 1 ∨ j = 2 ∨ j = 3 by omega) with rfl | rfl | rfl | rfl
      · refine tt_tswI (t := 40) hc dX8_face_10 (by decide) (by decide) rfl rfl ?_
        refine tt_al0 (q := 41) hc dX8_face_40 rfl ?_
        refine tt_getR (q := 44) hc fl_X8_12 (by first | assumption | exact ⟨by decide, _, rfl, rfl⟩) dX8_face_41 rfl ?_
        refine tt_il1 (q := 45) hc dX8_face_44 rfl ?_
        refine tt_cV1 (q := 48) (d' := 0) (ci := 0) hc (by first | decide | omega) kmX0_holders ml_X8_144 (by first | assumption | exact ⟨by decide, _, rfl⟩) rfl (Nat.le_of_ble_eq_true rfl) dX8_face_45 rfl ?_
        refine c_X0_holders (j := 0) (by decide) a1 ?_
        dsimp only [Option.toList, List.nil_append, List.cons_append]
        first | (with_reducible refine chk1 ?_; refine tt_ifleN (t := 55) (q := 51) hc (by omega) dX8_face_48 rfl rfl (fun c_48 => ?_) (fun c_48 => ?_)) | refine tt_ifle (t := 55) (q := 51) hc dX8_face_48 rfl rfl (fun c_48 => ?_) (fun c_48 => ?_)
        · refine tt_iconst (v := nI 0) (q := 56) hc rfl dX8_face_55 rfl ?_
          refine tt_reti hX rfl dX8_face_56 ?_
          first
          | (rw [if_pos rfl, decide_eq_true c_48] at h; exact h)
          | (rw [if_pos rfl, decide_eq_false (by omega)] at h; exact h)
        · refine tt_iconst (v := nI 1) (q := 52) hc rfl dX8_face_51 rfl ?_
          refine tt_goto (t := 56) hc dX8_face_52 rfl ?_
          refine tt_reti hX rfl dX8_face_56 ?_
          first
          | (rw [if_pos rfl, decide_eq_true c_48] at h; exact h)
          | (rw [if_pos rfl, decide_eq_false (by omega)] at h; exact h)
      · refine tt_tswI (t := 57) hc dX8_face_10 (by decide) (by decide) rfl rfl ?_
        refine tt_al0 (q := 58) hc dX8_face_57 rfl ?_
        refine tt_getR (q := 61) hc fl_X8_12 (by first | assumption | exact ⟨by decide, _, rfl, rfl⟩) dX8_face_58 rfl ?_
        refine tt_il1 (q := 62) hc dX8_face_61 rfl ?_
        refine tt_cV1 (q := 65) (d' := 0) (ci := 0) hc (by first | decide | omega) kmX0_holders ml_X8_144 (by first | assumption | exact ⟨by decide, _, rfl⟩) rfl (Nat.le_of_ble_eq_true rfl) dX8_face_62 rfl ?_
        refine c_X0_holders (j := 0) (by decide) a1 ?_
        dsimp only [Option.toList, List.nil_append, List.cons_append]
        refine tt_reti hX rfl dX8_face_65 ?_
        exact h
      · refine tt_tswI (t := 66) hc dX8_face_10 (by decide) (by decide) rfl rfl ?_
        refine tt_al0 (q := 67) hc dX8_face_66 rfl ?_
        refine tt_getR (q := 70) hc fl_X8_12 (by first | assumption | exact ⟨by decide, _, rfl, rfl⟩) dX8_face_67 rfl ?_
        refine tt_il1 (q := 71) hc dX8_face_70 rfl ?_
        refine tt_cV1 (q := 74) (d' := 0) (ci := 0) hc (by first | decide | omega) kmX0_linkSets ml_X8_147 (by first | assumption | exact ⟨by decide, _, rfl⟩) rfl (Nat.le_of_ble_eq_true rfl) dX8_face_71 rfl ?_
        refine c_X0_linkSets (j := 0) (by decide) a1 ?_
        dsimp only [Option.toList, List.nil_append, List.cons_append]
        refine tt_reti hX rfl dX8_face_74 ?_
        exact h
      · refine tt_tswI (t := 75) hc dX8_face_10 (by decide) (by decide) rfl rfl ?_
        refine tt_al0 (q := 76) hc dX8_face_75 rfl ?_
        refine tt_getR (q := 79) hc fl_X8_12 (by first | assumption | exact ⟨by decide, _, rfl, rfl⟩) dX8_face_76 rfl ?_
        refine tt_il1 (q := 80) hc dX8_face_79 rfl ?_
        refine tt_cV1 (q := 83) (d' := 0) (ci := 0) hc (by first | decide | omega) kmX0_linkPoints ml_X8_150 (by first | assumption | exact ⟨by decide, _, rfl⟩) rfl (Nat.le_of_ble_eq_true rfl) dX8_face_80 rfl ?_
        refine c_X0_linkPoints (j := 0) (by decide) a1 ?_
        dsimp only [Option.toList, List.nil_append, List.cons_append]
        refine tt_reti hX rfl dX8_face_83 ?_
        exact h
    · refine tt_tswO (t := 84) hc dX8_face_10 hout rfl ?_
      refine tt_iconst (v := -1) (q := 85) hc rfl dX8_face_84 rfl ?_
      refine tt_reti hX rfl dX8_face_85 ?_
      rw [if_neg (nI_neq (by omega) (by decide) hout), if_neg (nI_neq (by omega) (by decide) hout), if_neg (nI_neq (by omega) (by decide) hout), if_neg (nI_neq (by omega) (by decide) hout)] at h
      exact h
  refine tt_il1 (q := 1) hc dX8_face_0 rfl ?_
  refine tt_cS1 (q := 4) (d' := 0) hc (by first | decide | omega) kmX8_isSet ml_X8_140 (Nat.le_of_ble_eq_true rfl) dX8_face_1 rfl ?_
  refine c_X8_isSet ?_
  dsimp only [Option.toList, List.nil_append, List.cons_append]
  first | (with_reducible refine chkb ?_; refine tt_ifneB (t := 9) (q := 7) hc dX8_face_4 rfl rfl (fun c_4 => ?_) (fun c_4 => ?_)) | (with_reducible refine chk1 ?_; refine tt_ifneN (t := 9) (q := 7) hc (by omega) dX8_face_4 rfl rfl (fun c_4 => ?_) (fun c_4 => ?_)) | refine tt_ifne (t := 9) (q := 7) hc dX8_face_4 rfl rfl (fun c_4 => ?_) (fun c_4 => ?_)
  · refine tt_il2 (q := 10) hc dX8_face_9 rfl ?_
    exact SW c_4
  · refine tt_iconst (v := -1) (q := 8) hc rfl dX8_face_7 rfl ?_
    refine tt_reti hX rfl dX8_face_8 ?_
    rw [if_neg (by rw [c_4]; exact Bool.false_ne_true)] at h
    exact h
/-- a body by its number -/
def idx (B : HP) (v : Int32) : Option Nat := if v < 0 then none else (bl B)[v.toNatClampNeg]?
def an_apart (one other : Int32) (S : ST) : Int32 := match S with
  | (K, B, _) => match idx B one, idx B other with
    | some a, some b => apt K B a b
    | _, _ => -1
theorem idx_lo {B : HP} {v : Int32} (h : v < 0) : idx B v = none := if_pos h
theorem idx_hi {B : HP} {v : Int32} (hlen : (bl B).length < 2 ^ 31) (h0 : ¬ v < 0) (h : nI (bl B).length ≤ v) : idx B v = none := by
  obtain ⟨n, hn, rfl⟩ := nI_of h0
  rw [idx, if_neg h0, nI_clamp hn]
  exact List.getElem?_eq_none ((nI_leI hlen hn).mp h)
theorem idx_in {B : HP} {v : Int32} (hlen : (bl B).length < 2 ^ 31) (h0 : ¬ v < 0) (h : ¬ nI (bl B).length ≤ v) : ∃ n a, v = nI n ∧ (bl B)[n]? = some a ∧ idx B v = some a := by
  obtain ⟨n, hn, rfl⟩ := nI_of h0
  have hl : n < (bl B).length := (nI_ltI hn hlen).mp (Int32.not_le.mp h)
  refine ⟨n, _, rfl, List.getElem?_eq_getElem hl, ?_⟩
  rw [idx, if_neg h0, nI_clamp hn, List.getElem?_eq_getElem hl]
set_option maxHeartbeats 4000000 in
theorem c_X8_apart {l : Launch} {one other : Int32} {S : ST} {μ : Mem} {Q : Option Value → Mem → Prop} (hC : CR μ S) (hQ : ∀ μ', frm cL μ μ' → CR μ' S → Q (some (.int (an_apart one other S))) μ') : CC l 4 mX8_apart [.ref 0, .int one, .int other] μ Q := by
  refine CC.of (M := mX8_apart) (by decide +kernel) rfl (fun v h => by simp at h; rcases h with rfl | rfl | rfl <;> rfl) (Nat.le_of_ble_eq_true rfl) (fun X hX => ?_)
  have hc := hX.cx
  obtain ⟨K, B, hs, ks, im, ls, tx, pp⟩ := S
  have a1 := hC.1
  have htot := tot_le a1.1
  have hbl := bl_len a1.1
  rw [an_apart] at hQ
  have hn1 : idx B one = none → Q (some (.int (-1))) μ := fun z => by
    have h := hQ μ frm.rf hC
    rw [z] at h
    exact h
  have hn2 : idx B other = none → Q (some (.int (-1))) μ := fun z => by
    have h := hQ μ frm.rf hC
    rw [z] at h
    cases z2 : idx B one <;> rw [z2] at h <;> exact h
  refine tt_al0 (q := 1) hc dX8_apart_0 rfl ?_
  refine tt_getR (q := 4) hc fl_X8_12 (by first | assumption | exact ⟨by decide, _, rfl, rfl⟩) dX8_apart_1 rfl ?_
  refine tt_cV0 (q := 7) (d' := 0) (ci := 0) hc (by first | decide | omega) kmX0_total ml_X8_99 (by first | assumption | exact ⟨by decide, _, rfl⟩) rfl (Nat.le_of_ble_eq_true rfl) dX8_apart_4 rfl ?_
  refine c_X0_total (j := 0) (by decide) a1 ?_
  rw [← hbl]
  dsimp only [Option.toList, List.nil_append, List.cons_append]
  refine tt_is3 (q := 8) hc dX8_apart_7 rfl (by decide) ?_
  refine tt_il1 (q := 9) hc dX8_apart_8 rfl ?_
  refine tt_iflt (t := 26) (q := 12) hc dX8_apart_9 rfl rfl (fun c_9 => ?_) (fun c_9 => ?_)
  · refine tt_iconst (v := -1) (q := 27) hc rfl dX8_apart_26 rfl ?_
    refine tt_reti hX rfl dX8_apart_27 ?_
    first
    | exact hn1 (idx_lo c_9)
    | exact hn1 (idx_hi (by omega) c_9 c_14)
    | exact hn2 (idx_lo c_18)
    | exact hn2 (idx_hi (by omega) c_18 (Int32.not_lt.mp c_23))
  · refine tt_il1 (q := 13) hc dX8_apart_12 rfl ?_
    refine tt_il3 (q := 14) hc dX8_apart_13 rfl ?_
    first | (with_reducible refine chk2 ?_; refine tt_icgeN (t := 26) (q := 17) hc (by omega) (by omega) dX8_apart_14 rfl rfl (fun c_14 => ?_) (fun c_14 => ?_)) | refine tt_icge (t := 26) (q := 17) hc dX8_apart_14 rfl rfl (fun c_14 => ?_) (fun c_14 => ?_)
    · refine tt_iconst (v := -1) (q := 27) hc rfl dX8_apart_26 rfl ?_
      refine tt_reti hX rfl dX8_apart_27 ?_
      first
      | exact hn1 (idx_lo c_9)
      | exact hn1 (idx_hi (by omega) c_9 c_14)
      | exact hn2 (idx_lo c_18)
      | exact hn2 (idx_hi (by omega) c_18 (Int32.not_lt.mp c_23))
    · refine tt_il2 (q := 18) hc dX8_apart_17 rfl ?_
      refine tt_iflt (t := 26) (q := 21) hc dX8_apart_18 rfl rfl (fun c_18 => ?_) (fun c_18 => ?_)
      · refine tt_iconst (v := -1) (q := 27) hc rfl dX8_apart_26 rfl ?_
        refine tt_reti hX rfl dX8_apart_27 ?_
        first
        | exact hn1 (idx_lo c_9)
        | exact hn1 (idx_hi (by omega) c_9 c_14)
        | exact hn2 (idx_lo c_18)
        | exact hn2 (idx_hi (by omega) c_18 (Int32.not_lt.mp c_23))
      · refine tt_il2 (q := 22) hc dX8_apart_21 rfl ?_
        refine tt_il3 (q := 23) hc dX8_apart_22 rfl ?_
        first | (with_reducible refine chk2 ?_; refine tt_icltN (t := 28) (q := 26) hc (by omega) (by omega) dX8_apart_23 rfl rfl (fun c_23 => ?_) (fun c_23 => ?_)) | refine tt_iclt (t := 28) (q := 26) hc dX8_apart_23 rfl rfl (fun c_23 => ?_) (fun c_23 => ?_)
        · obtain ⟨n1, b1, rfl, e1, f1⟩ := idx_in (by omega) c_9 c_14
          obtain ⟨n2, b2, rfl, e2, f2⟩ := idx_in (by omega) c_18 (Int32.not_le.mpr c_23)
          rw [f1, f2] at hQ
          refine tt_al0 (q := 29) hc dX8_apart_28 rfl ?_
          refine tt_getR (q := 32) hc fl_X8_45 (by first | assumption | exact ⟨by decide, _, rfl, rfl⟩) dX8_apart_29 rfl ?_
          refine tt_al0 (q := 33) hc dX8_apart_32 rfl ?_
          refine tt_getR (q := 36) hc fl_X8_12 (by first | assumption | exact ⟨by decide, _, rfl, rfl⟩) dX8_apart_33 rfl ?_
          refine tt_il1 (q := 37) hc dX8_apart_36 rfl ?_
          refine tt_il2 (q := 38) hc dX8_apart_37 rfl ?_
          refine tt_cV3 (q := 41) (d' := 3) (ci := 7) hc (by first | decide | omega) kmX7_between ml_X8_153 (by first | assumption | exact ⟨by decide, _, rfl⟩) rfl (Nat.le_of_ble_eq_true rfl) dX8_apart_38 rfl ?_
          refine c_X7_between (j := 0) (by decide) a1 e1 e2 (fun ν hf => ?_)
          dsimp only [Option.toList, List.nil_append, List.cons_append]
          refine tt_reti hX rfl dX8_apart_41 ?_
          exact hQ ν (hf.cl (by decide)) (hC.wk hf (by decide))
        · refine tt_iconst (v := -1) (q := 27) hc rfl dX8_apart_26 rfl ?_
          refine tt_reti hX rfl dX8_apart_27 ?_
          first
          | exact hn1 (idx_lo c_9)
          | exact hn1 (idx_hi (by omega) c_9 c_14)
          | exact hn2 (idx_lo c_18)
          | exact hn2 (idx_hi (by omega) c_18 (Int32.not_lt.mp c_23))
