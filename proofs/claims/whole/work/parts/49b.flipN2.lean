/-! THE MODEL: what a face is flipped for -/
theorem ifq1 {Q : Option Value → Mem → Prop} {μ : Mem} {P : Prop} [Decidable P] {x y : Nat} (h : Q (some (.int (nI (if P then x else y)))) μ) (hp : P) : Q (some (.int (nI x))) μ := by
  rw [if_pos hp] at h
  exact h
theorem ifq0 {Q : Option Value → Mem → Prop} {μ : Mem} {P : Prop} [Decidable P] {x y : Nat} (h : Q (some (.int (nI (if P then x else y)))) μ) (hp : ¬ P) : Q (some (.int (nI y))) μ := by
  rw [if_neg hp] at h
  exact h
set_option maxHeartbeats 1000000 in
theorem c_X9_forWhat {l : Launch} {a K : Nat} {B : HP} {μ : Mem} {Q : Option Value → Mem → Prop} (hK : HOK K B) (hF : FA μ B) (hz : μ 24 0 = nI K) (h0 : 0 < a) (ha : a < 256) (hQ : Q (some (.int (nI (prt K B a)))) μ) : CC l 2 mX9_forWhat [.ref 24, .int (nI a)] μ Q := by
  refine CC.of (M := mX9_forWhat) (by decide +kernel) rfl (fun v h => by simp at h; rcases h with rfl | rfl <;> rfl) (Nat.le_of_ble_eq_true rfl) (fun X hX => ?_)
  have hc := hX.cx
  have a78 := HA78
  have hK1 := hK.1
  have hp := pop_le a ha
  have hlt := lkP_lt B a
  have hlt0 := lkP_lt B 0
  have hp2 := pop_le _ hlt
  have e4 : μ 24 4 = nI (lkP B 0) := by rw [hF.2.2, orB_lkP]
  have hS : lkS B a ≤ 256 := cnt_le _ _ _
  have h2p : 0 < 2 ^ pop (lkP B a) ∧ 2 ^ pop (lkP B a) ≤ 256 := ⟨Nat.two_pow_pos _, Nat.pow_le_pow_right (n := 2) (by decide) hp2⟩
  have L : ∀ (n p : Nat), p + n = 8 → Q (some (.int (nI (if fst8 (lkP B 0) n p < 8 then 2 ^ fst8 (lkP B 0) n p else 0)))) μ → TT X 24 [.ref 24, .int (nI a), .int (nI p), .long 0] [] μ := by
    intro n
    induction n with
    | zero =>
      intro p hpn h
      have hpn : p = 8 := by omega
      subst hpn
      refine tt_il2 (q := 25) hc dX9_forWhat_24 rfl ?_
      refine tt_bipush (v := nI 8) (q := 27) hc (by decide) dX9_forWhat_25 rfl ?_
      first | (with_reducible refine chk2 ?_; refine tt_icgeN (t := 48) (q := 30) hc (by omega) (by omega) dX9_forWhat_27 rfl rfl (fun c_27 => ?_) (fun c_27 => ?_)) | refine tt_icge (t := 48) (q := 30) hc dX9_forWhat_27 rfl rfl (fun c_27 => ?_) (fun c_27 => ?_)
      · refine tt_il2 (q := 49) hc dX9_forWhat_48 rfl ?_
        refine tt_bipush (v := nI 8) (q := 51) hc (by decide) dX9_forWhat_49 rfl ?_
        first | (with_reducible refine chk2 ?_; refine tt_icgeN (t := 60) (q := 54) hc (by omega) (by omega) dX9_forWhat_51 rfl rfl (fun c_51 => ?_) (fun c_51 => ?_)) | refine tt_icge (t := 60) (q := 54) hc dX9_forWhat_51 rfl rfl (fun c_51 => ?_) (fun c_51 => ?_)
        · refine tt_iconst (v := nI 0) (q := 61) hc rfl dX9_forWhat_60 rfl ?_
          refine tt_reti hX rfl dX9_forWhat_61 ?_
          exact h
        · omega
      · omega
    | succ n ih =>
      intro p hpn h
      have hb1 : lkP B 0 / 2 ^ p &&& 1 ≤ 1 := Nat.and_le_right
      rw [fst8] at h
      refine tt_il2 (q := 25) hc dX9_forWhat_24 rfl ?_
      refine tt_bipush (v := nI 8) (q := 27) hc (by decide) dX9_forWhat_25 rfl ?_
      first | (with_reducible refine chk2 ?_; refine tt_icgeN (t := 48) (q := 30) hc (by omega) (by omega) dX9_forWhat_27 rfl rfl (fun c_27 => ?_) (fun c_27 => ?_)) | refine tt_icge (t := 48) (q := 30) hc dX9_forWhat_27 rfl rfl (fun c_27 => ?_) (fun c_27 => ?_)
      · omega
      · refine tt_al0 (q := 31) hc dX9_forWhat_30 rfl ?_
        refine tt_getI (q := 34) hc fl_X9_107 (by first | assumption | exact ⟨by decide, _, rfl, _, rfl⟩) dX9_forWhat_31 rfl ?_
        rw [e4]
        refine tt_il2 (q := 35) hc dX9_forWhat_34 rfl ?_
        first | (with_reducible refine chk2 ?_; refine tt_ishrN (q := 36) hc (by omega) (by omega) dX9_forWhat_35 rfl ?_) | refine tt_ishr (q := 36) hc dX9_forWhat_35 rfl ?_
        refine tt_iconst (v := nI 1) (q := 37) hc rfl dX9_forWhat_36 rfl ?_
        first | (with_reducible refine chk2 ?_; refine tt_iandN (q := 38) hc dX9_forWhat_37 rfl ?_) | (with_reducible refine chkan ?_; refine tt_iandnN (q := 38) hc dX9_forWhat_37 rfl ?_) | (with_reducible refine chkna ?_; refine tt_inandN (q := 38) hc dX9_forWhat_37 rfl ?_) | refine tt_iand (q := 38) hc dX9_forWhat_37 rfl ?_
        refine tt_iconst (v := nI 1) (q := 39) hc rfl dX9_forWhat_38 rfl ?_
        first | (with_reducible refine chk2 ?_; refine tt_icneN (t := 48) (q := 42) hc (by omega) (by omega) dX9_forWhat_39 rfl rfl (fun c_39 => ?_) (fun c_39 => ?_)) | refine tt_icne (t := 48) (q := 42) hc dX9_forWhat_39 rfl rfl (fun c_39 => ?_) (fun c_39 => ?_)
        · refine tt_il2 (q := 49) hc dX9_forWhat_48 rfl ?_
          refine tt_bipush (v := nI 8) (q := 51) hc (by decide) dX9_forWhat_49 rfl ?_
          first | (with_reducible refine chk2 ?_; refine tt_icgeN (t := 60) (q := 54) hc (by omega) (by omega) dX9_forWhat_51 rfl rfl (fun c_51 => ?_) (fun c_51 => ?_)) | refine tt_icge (t := 60) (q := 54) hc dX9_forWhat_51 rfl rfl (fun c_51 => ?_) (fun c_51 => ?_)
          · omega
          · refine tt_iconst (v := nI 1) (q := 55) hc rfl dX9_forWhat_54 rfl ?_
            refine tt_il2 (q := 56) hc dX9_forWhat_55 rfl ?_
            first | (with_reducible refine chks ?_; refine tt_ishl1 (q := 57) hc (by omega) dX9_forWhat_56 rfl ?_) | (with_reducible refine chk2 ?_; refine tt_ishlN (q := 57) hc (by omega) (by omega) dX9_forWhat_56 rfl ?_) | refine tt_ishl (q := 57) hc dX9_forWhat_56 rfl ?_
            refine tt_goto (t := 61) hc dX9_forWhat_57 rfl ?_
            refine tt_reti hX rfl dX9_forWhat_61 ?_
            rw [if_neg c_39, if_pos (show p < 8 by omega)] at h
            exact h
        · first | refine tt_inc2 (q := 45) hc dX9_forWhat_42 rfl (by decide) (incN _) ?_ | refine tt_inc2 (q := 45) hc dX9_forWhat_42 rfl (by decide) rfl ?_
          refine tt_goto (t := 24) hc dX9_forWhat_45 rfl ?_
          rw [if_pos c_39] at h
          exact ih (p + 1) (by omega) h
  refine tt_al0 (q := 1) hc dX9_forWhat_0 rfl ?_
  refine tt_getR (q := 4) hc fl_X9_19 (by first | assumption | exact ⟨by decide, _, rfl, rfl⟩) dX9_forWhat_1 rfl ?_
  refine tt_il1 (q := 5) hc dX9_forWhat_4 rfl ?_
  refine tt_zald (q := 6) hc (by first | assumption | exact ⟨by decide, rfl, by decide⟩) (by omega) dX9_forWhat_5 rfl ?_
  rw [hF.at h0 ha]
  first | (with_reducible refine chkb ?_; refine tt_ifneB (t := 11) (q := 9) hc dX9_forWhat_6 rfl rfl (fun c_6 => ?_) (fun c_6 => ?_)) | (with_reducible refine chk1 ?_; refine tt_ifneN (t := 11) (q := 9) hc (by omega) dX9_forWhat_6 rfl rfl (fun c_6 => ?_) (fun c_6 => ?_)) | refine tt_ifne (t := 11) (q := 9) hc dX9_forWhat_6 rfl rfl (fun c_6 => ?_) (fun c_6 => ?_)
  · refine tt_il1 (q := 12) hc dX9_forWhat_11 rfl ?_
    refine tt_cS1 (q := 15) (d' := 1) hc (by first | decide | omega) kmX9_many ml_X9_110 (Nat.le_of_ble_eq_true rfl) dX9_forWhat_12 rfl ?_
    refine c_X9_many ?_
    dsimp only [Option.toList, List.nil_append, List.cons_append]
    refine tt_al0 (q := 16) hc dX9_forWhat_15 rfl ?_
    refine tt_getI (q := 19) hc fl_X9_9 (by first | assumption | exact ⟨by decide, _, rfl, _, rfl⟩) dX9_forWhat_16 rfl ?_
    rw [hz]
    first | (with_reducible refine chk2 ?_; refine tt_icneN (t := 62) (q := 22) hc (by omega) (by omega) dX9_forWhat_19 rfl rfl (fun c_19 => ?_) (fun c_19 => ?_)) | refine tt_icne (t := 62) (q := 22) hc dX9_forWhat_19 rfl rfl (fun c_19 => ?_) (fun c_19 => ?_)
    · rw [prt_low hK h0 ha (of_decide_eq_true c_6) c_19] at hQ
      refine tt_al0 (q := 63) hc dX9_forWhat_62 rfl ?_
      refine tt_il1 (q := 64) hc dX9_forWhat_63 rfl ?_
      refine tt_cV1 (q := 67) (d' := 0) (ci := 9) hc (by first | decide | omega) kmX9_linked ml_X9_197 (by first | assumption | exact ⟨by decide, _, rfl⟩) rfl (Nat.le_of_ble_eq_true rfl) dX9_forWhat_64 rfl ?_
      refine c_X9_linked hF h0 ha ?_
      dsimp only [Option.toList, List.nil_append, List.cons_append]
      refine tt_is2 (q := 68) hc dX9_forWhat_67 rfl (by decide) ?_
      refine tt_il2 (q := 69) hc dX9_forWhat_68 rfl ?_
      refine tt_cS1 (q := 72) (d' := 1) hc (by first | decide | omega) kmX9_many ml_X9_110 (Nat.le_of_ble_eq_true rfl) dX9_forWhat_69 rfl ?_
      refine c_X9_many ?_
      dsimp only [Option.toList, List.nil_append, List.cons_append]
      refine tt_is3 (q := 73) hc dX9_forWhat_72 rfl (by decide) ?_
      refine tt_il1 (q := 74) hc dX9_forWhat_73 rfl ?_
      refine tt_cS1 (q := 77) (d' := 1) hc (by first | decide | omega) kmX9_many ml_X9_110 (Nat.le_of_ble_eq_true rfl) dX9_forWhat_74 rfl ?_
      refine c_X9_many ?_
      dsimp only [Option.toList, List.nil_append, List.cons_append]
      refine tt_il3 (q := 78) hc dX9_forWhat_77 rfl ?_
      first | (with_reducible refine chk2 ?_; refine tt_iaddN (q := 79) hc dX9_forWhat_78 rfl ?_) | refine tt_iadd (q := 79) hc dX9_forWhat_78 rfl ?_
      refine tt_al0 (q := 80) hc dX9_forWhat_79 rfl ?_
      refine tt_getI (q := 83) hc fl_X9_9 (by first | assumption | exact ⟨by decide, _, rfl, _, rfl⟩) dX9_forWhat_80 rfl ?_
      rw [hz]
      refine tt_iconst (v := nI 1) (q := 84) hc rfl dX9_forWhat_83 rfl ?_
      first | (with_reducible refine chk2 ?_; refine tt_iaddN (q := 85) hc dX9_forWhat_84 rfl ?_) | refine tt_iadd (q := 85) hc dX9_forWhat_84 rfl ?_
      first | (with_reducible refine chk2 ?_; refine tt_icneN (t := 114) (q := 88) hc (by omega) (by omega) dX9_forWhat_85 rfl rfl (fun c_85 => ?_) (fun c_85 => ?_)) | refine tt_icne (t := 114) (q := 88) hc dX9_forWhat_85 rfl rfl (fun c_85 => ?_) (fun c_85 => ?_)
      · refine tt_iconst (v := nI 0) (q := 115) hc rfl dX9_forWhat_114 rfl ?_
        refine tt_reti hX rfl dX9_forWhat_115 ?_
        first
        | exact ifq1 hQ ⟨c_85, c_94, c_107⟩
        | exact ifq0 hQ (fun z => c_107 z.2.2)
        | exact ifq0 hQ (fun z => Bool.false_ne_true (z.2.1.symm.trans c_94))
        | exact ifq0 hQ (fun z => c_85 z.1)
      · refine tt_al0 (q := 89) hc dX9_forWhat_88 rfl ?_
        refine tt_getR (q := 92) hc fl_X9_19 (by first | assumption | exact ⟨by decide, _, rfl, rfl⟩) dX9_forWhat_89 rfl ?_
        refine tt_il2 (q := 93) hc dX9_forWhat_92 rfl ?_
        refine tt_zald (q := 94) hc (by first | assumption | exact ⟨by decide, rfl, by decide⟩) (by omega) dX9_forWhat_93 rfl ?_
        rw [hF.1 _ hlt]
        first | (with_reducible refine chkb ?_; refine tt_ifneB (t := 114) (q := 97) hc dX9_forWhat_94 rfl rfl (fun c_94 => ?_) (fun c_94 => ?_)) | (with_reducible refine chk1 ?_; refine tt_ifneN (t := 114) (q := 97) hc (by omega) dX9_forWhat_94 rfl rfl (fun c_94 => ?_) (fun c_94 => ?_)) | refine tt_ifne (t := 114) (q := 97) hc dX9_forWhat_94 rfl rfl (fun c_94 => ?_) (fun c_94 => ?_)
        · refine tt_iconst (v := nI 0) (q := 115) hc rfl dX9_forWhat_114 rfl ?_
          refine tt_reti hX rfl dX9_forWhat_115 ?_
          first
          | exact ifq1 hQ ⟨c_85, c_94, c_107⟩
          | exact ifq0 hQ (fun z => c_107 z.2.2)
          | exact ifq0 hQ (fun z => Bool.false_ne_true (z.2.1.symm.trans c_94))
          | exact ifq0 hQ (fun z => c_85 z.1)
        · refine tt_al0 (q := 98) hc dX9_forWhat_97 rfl ?_
          refine tt_il1 (q := 99) hc dX9_forWhat_98 rfl ?_
          refine tt_cV1 (q := 102) (d' := 0) (ci := 9) hc (by first | decide | omega) kmX9_linkOf ml_X9_194 (by first | assumption | exact ⟨by decide, _, rfl⟩) rfl (Nat.le_of_ble_eq_true rfl) dX9_forWhat_99 rfl ?_
          refine c_X9_linkOf hF h0 ha ?_
          dsimp only [Option.toList, List.nil_append, List.cons_append]
          refine tt_iconst (v := nI 1) (q := 103) hc rfl dX9_forWhat_102 rfl ?_
          refine tt_il3 (q := 104) hc dX9_forWhat_103 rfl ?_
          first | (with_reducible refine chks ?_; refine tt_ishl1 (q := 105) hc (by omega) dX9_forWhat_104 rfl ?_) | (with_reducible refine chk2 ?_; refine tt_ishlN (q := 105) hc (by omega) (by omega) dX9_forWhat_104 rfl ?_) | refine tt_ishl (q := 105) hc dX9_forWhat_104 rfl ?_
          refine tt_iconst (v := nI 1) (q := 106) hc rfl dX9_forWhat_105 rfl ?_
          first | (with_reducible refine chk2 ?_; refine tt_isubN (q := 107) hc (by omega) dX9_forWhat_106 rfl ?_) | refine tt_isub (q := 107) hc dX9_forWhat_106 rfl ?_
          first | (with_reducible refine chk2 ?_; refine tt_icneN (t := 114) (q := 110) hc (by omega) (by omega) dX9_forWhat_107 rfl rfl (fun c_107 => ?_) (fun c_107 => ?_)) | refine tt_icne (t := 114) (q := 110) hc dX9_forWhat_107 rfl rfl (fun c_107 => ?_) (fun c_107 => ?_)
          · refine tt_iconst (v := nI 0) (q := 115) hc rfl dX9_forWhat_114 rfl ?_
            refine tt_reti hX rfl dX9_forWhat_115 ?_
            first
            | exact ifq1 hQ ⟨c_85, c_94, c_107⟩
            | exact ifq0 hQ (fun z => c_107 z.2.2)
            | exact ifq0 hQ (fun z => Bool.false_ne_true (z.2.1.symm.trans c_94))
            | exact ifq0 hQ (fun z => c_85 z.1)
          · refine tt_il2 (q := 111) hc dX9_forWhat_110 rfl ?_
            refine tt_goto (t := 115) hc dX9_forWhat_111 rfl ?_
            refine tt_reti hX rfl dX9_forWhat_115 ?_
            first
            | exact ifq1 hQ ⟨c_85, c_94, c_107⟩
            | exact ifq0 hQ (fun z => c_107 z.2.2)
            | exact ifq0 hQ (fun z => Bool.false_ne_true (z.2.1.symm.trans c_94))
            | exact ifq0 hQ (fun z => c_85 z.1)
    · refine tt_iconst (v := nI 0) (q := 23) hc rfl dX9_forWhat_22 rfl ?_
      refine tt_is2 (q := 24) hc dX9_forWhat_23 rfl (by decide) ?_
      rw [prt_top hK h0 ha (of_decide_eq_true c_6) c_19] at hQ
      exact L 8 0 rfl hQ
  · refine tt_iconst (v := nI 0) (q := 10) hc rfl dX9_forWhat_9 rfl ?_
    refine tt_reti hX rfl dX9_forWhat_10 ?_
    rw [prt_non (of_decide_eq_false c_6)] at hQ
    exact hQ
