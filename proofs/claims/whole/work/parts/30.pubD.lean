/-! THE CLASS: in thought; steps taken back; kept heaps -/
theorem nand_l {a : Bool} {P : Prop} (h : a = false) : ¬ (a = true ∧ P) := fun z => by rw [h] at z; exact Bool.false_ne_true z.1
theorem nand_r {a : Bool} {P : Prop} (h : a = false) : ¬ (P ∧ a = true) := fun z => by rw [h] at z; exact Bool.false_ne_true z.2
def pln (K : Nat) (xs : List Int32) : Nat → Nat → HP → Nat → HP × Nat
  | 0, _, B, m => (B, m)
  | n + 1, i, B, m => match lx (fl K B) (xs.getD i 0) with
    | none => (B, m)
    | some a => pln K xs n (i + 1) (flp K B a) (m + 1)
def thI (B : HP) (m : Nat) (w : Int32) : Int32 := if w = nI 0 then nI m else if w = nI 1 then nI (tot B) else nI 100 + euI B
def an_plan (v w : Int32) (S : ST) : Int32 := match S with
  | (K, B, _, _, _, ls, _, _) => if inB v (nI 0) (nI 3) = true ∧ inB w (nI 0) (nI 2) = true then (match ls v.toNatClampNeg with | none => -11 | some xs => thI (pln K xs xs.length 0 B 0).1 (pln K xs xs.length 0 B 0).2 w) else -1
set_option maxHeartbeats 8000000 in
theorem c_X8_plan {l : Launch} {v w : Int32} {S : ST} {μ : Mem} {Q : Option Value → Mem → Prop} (hC : CR μ S) (hQ : ∀ μ', frm cL μ μ' → CR μ' S → Q (some (.int (an_plan v w S))) μ') : CC l 4 mX8_plan [.ref 0, .int v, .int w] μ Q := by
  refine CC.of (M := mX8_plan) (by decide +kernel) rfl (fun v h => by simp at h; rcases h with rfl | rfl | rfl <;> rfl) (Nat.le_of_ble_eq_true rfl) (fun X hX => ?_)
  have hc := hX.cx
  obtain ⟨K, B, hs, ks, im, ls, tx, pp⟩ := S
  have a1 := hC.1
  have a5 := hC.2.2.2.2.1
  have A1 := HA1
  rw [an_plan] at hQ
  have P11 : lst ls v = -11 → Q (some (.int (-11))) μ → TT X 22 [.ref 0, .int v, .int w, .long 0, .long 0, .long 0, .long 0] [] μ := by
    intro hst h
    refine tt_al0 (q := 23) hc dX8_plan_22 rfl ?_
    refine tt_getR (q := 26) hc fl_X8_66 (by first | assumption | exact ⟨by decide, _, rfl, rfl⟩) dX8_plan_23 rfl ?_
    refine tt_il1 (q := 27) hc dX8_plan_26 rfl ?_
    refine tt_cV1 (q := 30) (d' := 1) (ci := 3) hc (by first | decide | omega) kmX3_state ml_X8_157 (by first | assumption | exact ⟨by decide, _, rfl⟩) rfl (Nat.le_of_ble_eq_true rfl) dX8_plan_27 rfl ?_
    refine c_X3_state a5 ?_
    rw [hst]
    dsimp only [Option.toList, List.nil_append, List.cons_append]
    refine tt_ifge (t := 36) (q := 33) hc dX8_plan_30 rfl rfl (fun c_30 => ?_) (fun c_30 => ?_)
    · exact absurd c_30 (by decide)
    · refine tt_bipush (v := -11) (q := 35) hc (by decide) dX8_plan_33 rfl ?_
      refine tt_reti hX rfl dX8_plan_35 ?_
      exact h
  have PLN : ∀ (t : Nat) (xs : List Int32), t < 4 → v = nI t → ls t = some xs → lst ls v = 0 → inB w (nI 0) (nI 2) = true → (∀ μ', frm cL μ μ' → CR μ' (K, B, hs, ks, im, ls, tx, pp) → Q (some (.int (thI (pln K xs xs.length 0 B 0).1 (pln K xs xs.length 0 B 0).2 w))) μ') → TT X 22 [.ref 0, .int v, .int w, .long 0, .long 0, .long 0, .long 0] [] μ := by
    intro t xs ht hvt hls hst hin2 h0
    subst hvt
    obtain ⟨wn, -, hw2, rfl⟩ := inB_t (by decide) (by decide) hin2
    have hxl := (a5.so ht hls).1
    have E : ∀ (ν : Mem) (C : HP) (m : Nat) (w4 w5 w6 : Value), RC ν 1 K C → Q (some (.int (thI C m (nI wn)))) ν → TT X 128 [.ref 0, .int (nI t), .int (nI wn), .int (nI m), w4, w5, w6] [] ν := by
      intro ν C m w4 w5 w6 hR h
      rw [thI] at h
      refine tt_il2 (q := 129) hc dX8_plan_128 rfl ?_
      first | (with_reducible refine chkb ?_; refine tt_ifneB (t := 134) (q := 132) hc dX8_plan_129 rfl rfl (fun c_129 => ?_) (fun c_129 => ?_)) | (with_reducible refine chk1 ?_; refine tt_ifneN (t := 134) (q := 132) hc (by omega) dX8_plan_129 rfl rfl (fun c_129 => ?_) (fun c_129 => ?_)) | refine tt_ifne (t := 134) (q := 132) hc dX8_plan_129 rfl rfl (fun c_129 => ?_) (fun c_129 => ?_)
      · refine tt_il2 (q := 135) hc dX8_plan_134 rfl ?_
        refine tt_iconst (v := nI 1) (q := 136) hc rfl dX8_plan_135 rfl ?_
        first | (with_reducible refine chk2 ?_; refine tt_icneN (t := 149) (q := 139) hc (by omega) (by omega) dX8_plan_136 rfl rfl (fun c_136 => ?_) (fun c_136 => ?_)) | refine tt_icne (t := 149) (q := 139) hc dX8_plan_136 rfl rfl (fun c_136 => ?_) (fun c_136 => ?_)
        · refine tt_bipush (v := nI 100) (q := 151) hc (by decide) dX8_plan_149 rfl ?_
          refine tt_al0 (q := 152) hc dX8_plan_151 rfl ?_
          refine tt_getR (q := 155) hc fl_X8_18 (by first | assumption | exact ⟨by decide, _, rfl, rfl⟩) dX8_plan_152 rfl ?_
          refine tt_cV0 (q := 158) (d' := 2) (ci := 0) hc (by first | decide | omega) kmX0_euler ml_X8_126 (by first | assumption | exact ⟨by decide, _, rfl⟩) rfl (Nat.le_of_ble_eq_true rfl) dX8_plan_155 rfl ?_
          refine c_X0_euler (j := 1) (by decide) hR ?_
          dsimp only [Option.toList, List.nil_append, List.cons_append]
          first | (with_reducible refine chk2 ?_; refine tt_iaddN (q := 159) hc dX8_plan_158 rfl ?_) | refine tt_iadd (q := 159) hc dX8_plan_158 rfl ?_
          refine tt_reti hX rfl dX8_plan_159 ?_
          rw [if_neg (show ¬ nI wn = nI 0 from nI_ne0 c_129 (by omega))] at h
          first
            | (rw [if_pos (by rw [c_136])] at h; exact h)
            | (rw [if_neg (fun z => c_136 ((nI_eq (by omega) (by decide)).mp z))] at h; exact h)
        · refine tt_al0 (q := 140) hc dX8_plan_139 rfl ?_
          refine tt_getR (q := 143) hc fl_X8_18 (by first | assumption | exact ⟨by decide, _, rfl, rfl⟩) dX8_plan_140 rfl ?_
          refine tt_cV0 (q := 146) (d' := 0) (ci := 0) hc (by first | decide | omega) kmX0_total ml_X8_99 (by first | assumption | exact ⟨by decide, _, rfl⟩) rfl (Nat.le_of_ble_eq_true rfl) dX8_plan_143 rfl ?_
          refine c_X0_total (j := 1) (by decide) hR ?_
          dsimp only [Option.toList, List.nil_append, List.cons_append]
          refine tt_goto (t := 159) hc dX8_plan_146 rfl ?_
          refine tt_reti hX rfl dX8_plan_159 ?_
          rw [if_neg (show ¬ nI wn = nI 0 from nI_ne0 c_129 (by omega))] at h
          first
            | (rw [if_pos (by rw [c_136])] at h; exact h)
            | (rw [if_neg (fun z => c_136 ((nI_eq (by omega) (by decide)).mp z))] at h; exact h)
      · refine tt_il3 (q := 133) hc dX8_plan_132 rfl ?_
        refine tt_reti hX rfl dX8_plan_133 ?_
        rw [if_pos (by rw [c_129])] at h
        exact h
    have L : ∀ (n i m : Nat) (C : HP) (ν : Mem) (w5 w6 : Value), i + n = xs.length → m ≤ i → frm cL μ ν → CR ν (K, B, hs, ks, im, ls, tx, pp) → RC ν 1 K C → (∀ μ', frm cL μ μ' → CR μ' (K, B, hs, ks, im, ls, tx, pp) → Q (some (.int (thI (pln K xs n i C m).1 (pln K xs n i C m).2 (nI wn)))) μ') → TT X 52 [.ref 0, .int (nI t), .int (nI wn), .int (nI m), .int (nI i), w5, w6] [] ν := by
      intro n
      induction n with
      | zero =>
        intro i m C ν w5 w6 hi hm hf hCν hR h
        refine tt_il4 (q := 54) hc dX8_plan_52 rfl ?_
        refine tt_al0 (q := 55) hc dX8_plan_54 rfl ?_
        refine tt_getR (q := 58) hc fl_X8_66 (by first | assumption | exact ⟨by decide, _, rfl, rfl⟩) dX8_plan_55 rfl ?_
        refine tt_il1 (q := 59) hc dX8_plan_58 rfl ?_
        refine tt_cV1 (q := 62) (d' := 0) (ci := 3) hc (by first | decide | omega) kmX3_sizeOf ml_X8_163 (by first | assumption | exact ⟨by decide, _, rfl⟩) rfl (Nat.le_of_ble_eq_true rfl) dX8_plan_59 rfl ?_
        refine c_X3_sizeOf hCν.2.2.2.2.1 ht hls ?_
        dsimp only [Option.toList, List.nil_append, List.cons_append]
        first | (with_reducible refine chk2 ?_; refine tt_icgeN (t := 128) (q := 65) hc (by omega) (by omega) dX8_plan_62 rfl rfl (fun c_62 => ?_) (fun c_62 => ?_)) | refine tt_icge (t := 128) (q := 65) hc dX8_plan_62 rfl rfl (fun c_62 => ?_) (fun c_62 => ?_)
        · exact E ν C m _ _ _ hR (h ν hf hCν)
        · omega
      | succ n ih =>
        intro i m C ν w5 w6 hi hm hf hCν hR h
        rw [pln] at h
        generalize hx : xs.getD i 0 = x at h
        have hxi : xs[i]? = some x := by rw [← hx]; exact getD_some (by omega)
        have hfl := fl_len K C
        refine tt_il4 (q := 54) hc dX8_plan_52 rfl ?_
        refine tt_al0 (q := 55) hc dX8_plan_54 rfl ?_
        refine tt_getR (q := 58) hc fl_X8_66 (by first | assumption | exact ⟨by decide, _, rfl, rfl⟩) dX8_plan_55 rfl ?_
        refine tt_il1 (q := 59) hc dX8_plan_58 rfl ?_
        refine tt_cV1 (q := 62) (d' := 0) (ci := 3) hc (by first | decide | omega) kmX3_sizeOf ml_X8_163 (by first | assumption | exact ⟨by decide, _, rfl⟩) rfl (Nat.le_of_ble_eq_true rfl) dX8_plan_59 rfl ?_
        refine c_X3_sizeOf hCν.2.2.2.2.1 ht hls ?_
        dsimp only [Option.toList, List.nil_append, List.cons_append]
        first | (with_reducible refine chk2 ?_; refine tt_icgeN (t := 128) (q := 65) hc (by omega) (by omega) dX8_plan_62 rfl rfl (fun c_62 => ?_) (fun c_62 => ?_)) | refine tt_icge (t := 128) (q := 65) hc dX8_plan_62 rfl rfl (fun c_62 => ?_) (fun c_62 => ?_)
        · omega
        · refine tt_al0 (q := 66) hc dX8_plan_65 rfl ?_
          refine tt_getR (q := 69) hc fl_X8_66 (by first | assumption | exact ⟨by decide, _, rfl, rfl⟩) dX8_plan_66 rfl ?_
          refine tt_il1 (q := 70) hc dX8_plan_69 rfl ?_
          refine tt_il4 (q := 72) hc dX8_plan_70 rfl ?_
          refine tt_cV2 (q := 75) (d' := 0) (ci := 3) hc (by first | decide | omega) kmX3_at ml_X8_192 (by first | assumption | exact ⟨by decide, _, rfl⟩) rfl (Nat.le_of_ble_eq_true rfl) dX8_plan_72 rfl ?_
          refine c_X3_at hCν.2.2.2.2.1 ht hls hxi ?_
          dsimp only [Option.toList, List.nil_append, List.cons_append]
          refine tt_is5 (q := 77) hc dX8_plan_75 rfl (by decide) ?_
          refine tt_al0 (q := 78) hc dX8_plan_77 rfl ?_
          refine tt_getR (q := 81) hc fl_X8_18 (by first | assumption | exact ⟨by decide, _, rfl, rfl⟩) dX8_plan_78 rfl ?_
          refine tt_al0 (q := 82) hc dX8_plan_81 rfl ?_
          refine tt_getR (q := 85) hc fl_X8_21 (by first | assumption | exact ⟨by decide, _, rfl, rfl⟩) dX8_plan_82 rfl ?_
          refine tt_cV1 (q := 88) (d' := 3) (ci := 0) hc (by first | decide | omega) kmX0_gather ml_X8_176 (by first | assumption | exact ⟨by decide, _, rfl⟩) rfl (Nat.le_of_ble_eq_true rfl) dX8_plan_85 rfl ?_
          refine c_X0_gather (j := 1) (by decide) hR A1 (by decide) (fun ν1 hf1 hv1 => ?_)
          have hC1 := hCν.wk hf1 (by decide)
          have hR1 := hR.frm hf1 (by decide) (by decide)
          dsimp only [Option.toList, List.nil_append, List.cons_append]
          refine tt_is6 (q := 90) hc dX8_plan_88 rfl (by decide) ?_
          refine tt_il5 (q := 92) hc dX8_plan_90 rfl ?_
          refine tt_iflt (t := 128) (q := 95) hc dX8_plan_92 rfl rfl (fun c_92 => ?_) (fun c_92 => ?_)
          · first
            | (rw [lx_lo c_92] at h; exact E ν1 C m _ _ _ hR1 (h ν1 (hf.tr (hf1.cl (by decide))) hC1))
            | (rw [lx_hi (by omega) c_92 (Int32.not_lt.mp c_99)] at h; exact E ν1 C m _ _ _ hR1 (h ν1 (hf.tr (hf1.cl (by decide))) hC1))
          · refine tt_il5 (q := 97) hc dX8_plan_95 rfl ?_
            refine tt_il6 (q := 99) hc dX8_plan_97 rfl ?_
            first | (with_reducible refine chk2 ?_; refine tt_icltN (t := 105) (q := 102) hc (by omega) (by omega) dX8_plan_99 rfl rfl (fun c_99 => ?_) (fun c_99 => ?_)) | refine tt_iclt (t := 105) (q := 102) hc dX8_plan_99 rfl rfl (fun c_99 => ?_) (fun c_99 => ?_)
            · obtain ⟨k, a, rfl, hk, ha, hlx⟩ := lx_in (by omega) c_92 c_99
              rw [hlx] at h
              have hm2 := fl_mem (List.mem_of_getElem? ha)
              refine tt_al0 (q := 106) hc dX8_plan_105 rfl ?_
              refine tt_getR (q := 109) hc fl_X8_18 (by first | assumption | exact ⟨by decide, _, rfl, rfl⟩) dX8_plan_106 rfl ?_
              refine tt_al0 (q := 110) hc dX8_plan_109 rfl ?_
              refine tt_getR (q := 113) hc fl_X8_21 (by first | assumption | exact ⟨by decide, _, rfl, rfl⟩) dX8_plan_110 rfl ?_
              refine tt_il5 (q := 115) hc dX8_plan_113 rfl ?_
              refine tt_ialdE (q := 116) hc A1 (by omega) (hv1 k a ha) dX8_plan_115 rfl ?_
              refine tt_cV1 (q := 119) (d' := 3) (ci := 0) hc (by first | decide | omega) kmX0_flipAt ml_X8_186 (by first | assumption | exact ⟨by decide, _, rfl⟩) rfl (Nat.le_of_ble_eq_true rfl) dX8_plan_116 rfl ?_
              refine c_X0_flipAt (j := 1) (by decide) hR1 (fun ν2 hf2 hR2 => ?_)
              dsimp only [Option.toList, List.nil_append, List.cons_append]
              first | refine tt_inc3 (q := 122) hc dX8_plan_119 rfl (by decide) (incN _) ?_ | refine tt_inc3 (q := 122) hc dX8_plan_119 rfl (by decide) rfl ?_
              first | refine tt_inc4 (q := 125) hc dX8_plan_122 rfl (by decide) (incN _) ?_ | refine tt_inc4 (q := 125) hc dX8_plan_122 rfl (by decide) rfl ?_
              refine tt_goto (t := 52) hc dX8_plan_125 rfl ?_
              exact ih (i + 1) (m + 1) _ ν2 _ _ (by omega) (by omega) (hf.tr ((hf1.cl (by decide)).tr (hf2.cl (by decide)))) (hC1.wk hf2 (by decide)) hR2 h
            · refine tt_goto (t := 128) hc dX8_plan_102 rfl ?_
              first
              | (rw [lx_lo c_92] at h; exact E ν1 C m _ _ _ hR1 (h ν1 (hf.tr (hf1.cl (by decide))) hC1))
              | (rw [lx_hi (by omega) c_92 (Int32.not_lt.mp c_99)] at h; exact E ν1 C m _ _ _ hR1 (h ν1 (hf.tr (hf1.cl (by decide))) hC1))
    refine tt_al0 (q := 23) hc dX8_plan_22 rfl ?_
    refine tt_getR (q := 26) hc fl_X8_66 (by first | assumption | exact ⟨by decide, _, rfl, rfl⟩) dX8_plan_23 rfl ?_
    refine tt_il1 (q := 27) hc dX8_plan_26 rfl ?_
    refine tt_cV1 (q := 30) (d' := 1) (ci := 3) hc (by first | decide | omega) kmX3_state ml_X8_157 (by first | assumption | exact ⟨by decide, _, rfl⟩) rfl (Nat.le_of_ble_eq_true rfl) dX8_plan_27 rfl ?_
    refine c_X3_state a5 ?_
    rw [hst]
    dsimp only [Option.toList, List.nil_append, List.cons_append]
    refine tt_ifge (t := 36) (q := 33) hc dX8_plan_30 rfl rfl (fun c_30 => ?_) (fun c_30 => ?_)
    · refine tt_al0 (q := 37) hc dX8_plan_36 rfl ?_
      refine tt_getR (q := 40) hc fl_X8_18 (by first | assumption | exact ⟨by decide, _, rfl, rfl⟩) dX8_plan_37 rfl ?_
      refine tt_al0 (q := 41) hc dX8_plan_40 rfl ?_
      refine tt_getR (q := 44) hc fl_X8_12 (by first | assumption | exact ⟨by decide, _, rfl, rfl⟩) dX8_plan_41 rfl ?_
      refine tt_cV1 (q := 47) (d' := 1) (ci := 0) hc (by first | decide | omega) kmX0_copyOf ml_X8_170 (by first | assumption | exact ⟨by decide, _, rfl⟩) rfl (Nat.le_of_ble_eq_true rfl) dX8_plan_44 rfl ?_
      refine c_X0_copyOf (j := 1) (j2 := 0) (by decide) (by decide) (by decide) a1 (fun ν hf hT => ?_)
      dsimp only [Option.toList, List.nil_append, List.cons_append]
      refine tt_iconst (v := nI 0) (q := 48) hc rfl dX8_plan_47 rfl ?_
      refine tt_is3 (q := 49) hc dX8_plan_48 rfl (by decide) ?_
      refine tt_iconst (v := nI 0) (q := 50) hc rfl dX8_plan_49 rfl ?_
      refine tt_is4 (q := 52) hc dX8_plan_50 rfl (by decide) ?_
      exact L xs.length 0 0 B ν _ _ (by omega) (Nat.le_refl _) (hf.cl (by decide)) (hC.wk hf (by decide)) hT h0
    · exact absurd (by decide) c_30
  refine tt_al0 (q := 1) hc dX8_plan_0 rfl ?_
  refine tt_getR (q := 4) hc fl_X8_66 (by first | assumption | exact ⟨by decide, _, rfl, rfl⟩) dX8_plan_1 rfl ?_
  refine tt_il1 (q := 5) hc dX8_plan_4 rfl ?_
  refine tt_cV1 (q := 8) (d' := 0) (ci := 3) hc (by first | decide | omega) kmX3_isList ml_X8_189 (by first | assumption | exact ⟨by decide, _, rfl⟩) rfl (Nat.le_of_ble_eq_true rfl) dX8_plan_5 rfl ?_
  refine c_X3_isList ?_
  dsimp only [Option.toList, List.nil_append, List.cons_append]
  first | (with_reducible refine chkb ?_; refine tt_ifeqB (t := 20) (q := 11) hc dX8_plan_8 rfl rfl (fun c_8 => ?_) (fun c_8 => ?_)) | (with_reducible refine chk1 ?_; refine tt_ifeqN (t := 20) (q := 11) hc (by omega) dX8_plan_8 rfl rfl (fun c_8 => ?_) (fun c_8 => ?_)) | refine tt_ifeq (t := 20) (q := 11) hc dX8_plan_8 rfl rfl (fun c_8 => ?_) (fun c_8 => ?_)
  · refine tt_iconst (v := -1) (q := 21) hc rfl dX8_plan_20 rfl ?_
    refine tt_reti hX rfl dX8_plan_21 ?_
    first
    | (rw [if_neg (nand_l c_8)] at hQ; exact hQ μ frm.rf hC)
    | (rw [if_neg (nand_r (inB_lo (a := nI 0) c_12))] at hQ; exact hQ μ frm.rf hC)
    | (rw [if_neg (nand_r (inB_hi (b := nI 2) (Int32.not_le.mp c_17)))] at hQ; exact hQ μ frm.rf hC)
  · refine tt_il2 (q := 12) hc dX8_plan_11 rfl ?_
    refine tt_iflt (t := 20) (q := 15) hc dX8_plan_12 rfl rfl (fun c_12 => ?_) (fun c_12 => ?_)
    · refine tt_iconst (v := -1) (q := 21) hc rfl dX8_plan_20 rfl ?_
      refine tt_reti hX rfl dX8_plan_21 ?_
      first
      | (rw [if_neg (nand_l c_8)] at hQ; exact hQ μ frm.rf hC)
      | (rw [if_neg (nand_r (inB_lo (a := nI 0) c_12))] at hQ; exact hQ μ frm.rf hC)
      | (rw [if_neg (nand_r (inB_hi (b := nI 2) (Int32.not_le.mp c_17)))] at hQ; exact hQ μ frm.rf hC)
    · refine tt_il2 (q := 16) hc dX8_plan_15 rfl ?_
      refine tt_iconst (v := nI 2) (q := 17) hc rfl dX8_plan_16 rfl ?_
      first | (with_reducible refine chk2 ?_; refine tt_icleN (t := 22) (q := 20) hc (by omega) (by omega) dX8_plan_17 rfl rfl (fun c_17 => ?_) (fun c_17 => ?_)) | refine tt_icle (t := 22) (q := 20) hc dX8_plan_17 rfl rfl (fun c_17 => ?_) (fun c_17 => ?_)
      · have hin2 : inB w (nI 0) (nI 2) = true := inB_in c_12 (Int32.not_lt.mpr c_17)
        rw [if_pos ⟨c_8, hin2⟩] at hQ
        rcases lst_cases ls v with ⟨hin, hst⟩ | ⟨t, ht, rfl, hin, hls, hst⟩ | ⟨t, xs, ht, rfl, hin, hls, hst⟩
        · rw [hin] at c_8
          cases c_8
        · rw [nI_clamp (by omega), hls] at hQ
          exact P11 hst (hQ μ frm.rf hC)
        · rw [nI_clamp (by omega), hls] at hQ
          exact PLN t xs ht rfl hls hst hin2 hQ
      · refine tt_iconst (v := -1) (q := 21) hc rfl dX8_plan_20 rfl ?_
        refine tt_reti hX rfl dX8_plan_21 ?_
        first
        | (rw [if_neg (nand_l c_8)] at hQ; exact hQ μ frm.rf hC)
        | (rw [if_neg (nand_r (inB_lo (a := nI 0) c_12))] at hQ; exact hQ μ frm.rf hC)
        | (rw [if_neg (nand_r (inB_hi (b := nI 2) (Int32.not_le.mp c_17)))] at hQ; exact hQ μ frm.rf hC)
def fwr (K : Nat) : Nat → HP → Nat → HP × Nat
  | 0, B, m => (B, m)
  | n + 1, B, m => if ff K B = 0 then (B, m) else fwr K n (flp K B (ff K B)) (m + 1)
def an_fewer (w : Int32) (S : ST) : Int32 := match S with
  | (K, B, _) => if inB w (nI 0) (nI 1) = true then (if w = nI 0 then nI (fwr K 70 B 0).2 else nI (tot (fwr K 70 B 0).1)) else -1
set_option maxHeartbeats 8000000 in
theorem c_X8_fewer {l : Launch} {w : Int32} {S : ST} {μ : Mem} {Q : Option Value → Mem → Prop} (hC : CR μ S) (hQ : ∀ μ', frm cL μ μ' → CR μ' S → Q (some (.int (an_fewer w S))) μ') : CC l 4 mX8_fewer [.ref 0, .int w] μ Q := by
  refine CC.of (M := mX8_fewer) (by decide +kernel) rfl (fun v h => by simp at h; rcases h with rfl | rfl <;> rfl) (Nat.le_of_ble_eq_true rfl) (fun X hX => ?_)
  have hc := hX.cx
  obtain ⟨K, B, hs, ks, im, ls, tx, pp⟩ := S
  have a1 := hC.1
  rw [an_fewer] at hQ
  have E : ∀ (wn : Nat) (ν : Mem) (C : HP) (m : Nat) (w3 w4 : Value), wn ≤ 1 → RC ν 1 K C → Q (some (.int (if nI wn = nI 0 then nI m else nI (tot C)))) ν → TT X 67 [.ref 0, .int (nI wn), .int (nI m), w3, w4] [] ν := by
    intro wn ν C m w3 w4 hw hR h
    refine tt_il1 (q := 68) hc dX8_fewer_67 rfl ?_
    first | (with_reducible refine chkb ?_; refine tt_ifneB (t := 75) (q := 71) hc dX8_fewer_68 rfl rfl (fun c_68 => ?_) (fun c_68 => ?_)) | (with_reducible refine chk1 ?_; refine tt_ifneN (t := 75) (q := 71) hc (by omega) dX8_fewer_68 rfl rfl (fun c_68 => ?_) (fun c_68 => ?_)) | refine tt_ifne (t := 75) (q := 71) hc dX8_fewer_68 rfl rfl (fun c_68 => ?_) (fun c_68 => ?_)
    · refine tt_al0 (q := 76) hc dX8_fewer_75 rfl ?_
      refine tt_getR (q := 79) hc fl_X8_18 (by first | assumption | exact ⟨by decide, _, rfl, rfl⟩) dX8_fewer_76 rfl ?_
      refine tt_cV0 (q := 82) (d' := 0) (ci := 0) hc (by first | decide | omega) kmX0_total ml_X8_99 (by first | assumption | exact ⟨by decide, _, rfl⟩) rfl (Nat.le_of_ble_eq_true rfl) dX8_fewer_79 rfl ?_
      refine c_X0_total (j := 1) (by decide) hR ?_
      dsimp only [Option.toList, List.nil_append, List.cons_append]
      refine tt_reti hX rfl dX8_fewer_82 ?_
      first
      | (rw [if_pos (by rw [c_68])] at h; exact h)
      | (rw [if_neg (show ¬ nI wn = nI 0 from nI_ne0 c_68 (by omega))] at h; exact h)
    · refine tt_il2 (q := 72) hc dX8_fewer_71 rfl ?_
      refine tt_goto (t := 82) hc dX8_fewer_72 rfl ?_
      refine tt_reti hX rfl dX8_fewer_82 ?_
      first
      | (rw [if_pos (by rw [c_68])] at h; exact h)
      | (rw [if_neg (show ¬ nI wn = nI 0 from nI_ne0 c_68 (by omega))] at h; exact h)
  have L : ∀ (wn : Nat), wn ≤ 1 → ∀ (n i m : Nat) (C : HP) (ν : Mem) (w4 : Value), i + n = 70 → m ≤ i → frm cL μ ν → CR ν (K, B, hs, ks, im, ls, tx, pp) → RC ν 1 K C → (∀ μ', frm cL μ μ' → CR μ' (K, B, hs, ks, im, ls, tx, pp) → Q (some (.int (if nI wn = nI 0 then nI (fwr K n C m).2 else nI (tot (fwr K n C m).1)))) μ') → TT X 26 [.ref 0, .int (nI wn), .int (nI m), .int (nI i), w4] [] ν := by
    intro wn hwn n
    induction n with
    | zero =>
      intro i m C ν w4 hi hm hf hCν hR h
      refine tt_il3 (q := 27) hc dX8_fewer_26 rfl ?_
      refine tt_bipush (v := nI 70) (q := 29) hc (by decide) dX8_fewer_27 rfl ?_
      first | (with_reducible refine chk2 ?_; refine tt_icgeN (t := 67) (q := 32) hc (by omega) (by omega) dX8_fewer_29 rfl rfl (fun c_29 => ?_) (fun c_29 => ?_)) | refine tt_icge (t := 67) (q := 32) hc dX8_fewer_29 rfl rfl (fun c_29 => ?_) (fun c_29 => ?_)
      · exact E wn ν C m _ _ hwn hR (h ν hf hCν)
      · omega
    | succ n ih =>
      intro i m C ν w4 hi hm hf hCν hR h
      rw [fwr] at h
      have hff : ff K C < 256 := fs1_lt _ 255 1 256 (by omega) (by omega)
      refine tt_il3 (q := 27) hc dX8_fewer_26 rfl ?_
      refine tt_bipush (v := nI 70) (q := 29) hc (by decide) dX8_fewer_27 rfl ?_
      first | (with_reducible refine chk2 ?_; refine tt_icgeN (t := 67) (q := 32) hc (by omega) (by omega) dX8_fewer_29 rfl rfl (fun c_29 => ?_) (fun c_29 => ?_)) | refine tt_icge (t := 67) (q := 32) hc dX8_fewer_29 rfl rfl (fun c_29 => ?_) (fun c_29 => ?_)
      · omega
      · refine tt_al0 (q := 33) hc dX8_fewer_32 rfl ?_
        refine tt_getR (q := 36) hc fl_X8_18 (by first | assumption | exact ⟨by decide, _, rfl, rfl⟩) dX8_fewer_33 rfl ?_
        refine tt_cV0 (q := 39) (d' := 3) (ci := 0) hc (by first | decide | omega) kmX0_firstFewer ml_X8_196 (by first | assumption | exact ⟨by decide, _, rfl⟩) rfl (Nat.le_of_ble_eq_true rfl) dX8_fewer_36 rfl ?_
        refine c_X0_firstFewer (j := 1) (by decide) hR ?_
        dsimp only [Option.toList, List.nil_append, List.cons_append]
        refine tt_is4 (q := 41) hc dX8_fewer_39 rfl (by decide) ?_
        refine tt_il4 (q := 43) hc dX8_fewer_41 rfl ?_
        first | (with_reducible refine chkb ?_; refine tt_ifneB (t := 49) (q := 46) hc dX8_fewer_43 rfl rfl (fun c_43 => ?_) (fun c_43 => ?_)) | (with_reducible refine chk1 ?_; refine tt_ifneN (t := 49) (q := 46) hc (by omega) dX8_fewer_43 rfl rfl (fun c_43 => ?_) (fun c_43 => ?_)) | refine tt_ifne (t := 49) (q := 46) hc dX8_fewer_43 rfl rfl (fun c_43 => ?_) (fun c_43 => ?_)
        · refine tt_al0 (q := 50) hc dX8_fewer_49 rfl ?_
          refine tt_getR (q := 53) hc fl_X8_18 (by first | assumption | exact ⟨by decide, _, rfl, rfl⟩) dX8_fewer_50 rfl ?_
          refine tt_il4 (q := 55) hc dX8_fewer_53 rfl ?_
          refine tt_cV1 (q := 58) (d' := 3) (ci := 0) hc (by first | decide | omega) kmX0_flipAt ml_X8_186 (by first | assumption | exact ⟨by decide, _, rfl⟩) rfl (Nat.le_of_ble_eq_true rfl) dX8_fewer_55 rfl ?_
          refine c_X0_flipAt (j := 1) (by decide) hR (fun ν2 hf2 hR2 => ?_)
          dsimp only [Option.toList, List.nil_append, List.cons_append]
          first | refine tt_inc2 (q := 61) hc dX8_fewer_58 rfl (by decide) (incN _) ?_ | refine tt_inc2 (q := 61) hc dX8_fewer_58 rfl (by decide) rfl ?_
          first | refine tt_inc3 (q := 64) hc dX8_fewer_61 rfl (by decide) (incN _) ?_ | refine tt_inc3 (q := 64) hc dX8_fewer_61 rfl (by decide) rfl ?_
          refine tt_goto (t := 26) hc dX8_fewer_64 rfl ?_
          rw [if_neg (show ¬ ff K C = 0 by omega)] at h
          exact ih (i + 1) (m + 1) _ ν2 _ (by omega) (by omega) (hf.tr (hf2.cl (by decide))) (hCν.wk hf2 (by decide)) hR2 h
        · refine tt_goto (t := 67) hc dX8_fewer_46 rfl ?_
          rw [if_pos c_43] at h
          exact E wn ν C m _ _ hwn hR (h ν hf hCν)
  refine tt_il1 (q := 1) hc dX8_fewer_0 rfl ?_
  refine tt_iflt (t := 9) (q := 4) hc dX8_fewer_1 rfl rfl (fun c_1 => ?_) (fun c_1 => ?_)
  · refine tt_iconst (v := -1) (q := 10) hc rfl dX8_fewer_9 rfl ?_
    refine tt_reti hX rfl dX8_fewer_10 ?_
    first
    | (rw [if_neg (by rw [inB_lo (a := nI 0) c_1]; exact Bool.false_ne_true)] at hQ; exact hQ μ frm.rf hC)
    | (rw [if_neg (by rw [inB_hi (b := nI 1) (Int32.not_le.mp c_6)]; exact Bool.false_ne_true)] at hQ; exact hQ μ frm.rf hC)
  · refine tt_il1 (q := 5) hc dX8_fewer_4 rfl ?_
    refine tt_iconst (v := nI 1) (q := 6) hc rfl dX8_fewer_5 rfl ?_
    first | (with_reducible refine chk2 ?_; refine tt_icleN (t := 11) (q := 9) hc (by omega) (by omega) dX8_fewer_6 rfl rfl (fun c_6 => ?_) (fun c_6 => ?_)) | refine tt_icle (t := 11) (q := 9) hc dX8_fewer_6 rfl rfl (fun c_6 => ?_) (fun c_6 => ?_)
    · have hin : inB w (nI 0) (nI 1) = true := inB_in c_1 (Int32.not_lt.mpr c_6)
      obtain ⟨wn, -, hw1, rfl⟩ := inB_t (by decide) (by decide) hin
      rw [if_pos hin] at hQ
      refine tt_al0 (q := 12) hc dX8_fewer_11 rfl ?_
      refine tt_getR (q := 15) hc fl_X8_18 (by first | assumption | exact ⟨by decide, _, rfl, rfl⟩) dX8_fewer_12 rfl ?_
      refine tt_al0 (q := 16) hc dX8_fewer_15 rfl ?_
      refine tt_getR (q := 19) hc fl_X8_12 (by first | assumption | exact ⟨by decide, _, rfl, rfl⟩) dX8_fewer_16 rfl ?_
      refine tt_cV1 (q := 22) (d' := 1) (ci := 0) hc (by first | decide | omega) kmX0_copyOf ml_X8_170 (by first | assumption | exact ⟨by decide, _, rfl⟩) rfl (Nat.le_of_ble_eq_true rfl) dX8_fewer_19 rfl ?_
      refine c_X0_copyOf (j := 1) (j2 := 0) (by decide) (by decide) (by decide) a1 (fun ν hf hT => ?_)
      dsimp only [Option.toList, List.nil_append, List.cons_append]
      refine tt_iconst (v := nI 0) (q := 23) hc rfl dX8_fewer_22 rfl ?_
      refine tt_is2 (q := 24) hc dX8_fewer_23 rfl (by decide) ?_
      refine tt_iconst (v := nI 0) (q := 25) hc rfl dX8_fewer_24 rfl ?_
      refine tt_is3 (q := 26) hc dX8_fewer_25 rfl (by decide) ?_
      exact L wn hw1 70 0 0 B ν _ rfl (Nat.le_refl _) (hf.cl (by decide)) (hC.wk hf (by decide)) hT hQ
    · refine tt_iconst (v := -1) (q := 10) hc rfl dX8_fewer_9 rfl ?_
      refine tt_reti hX rfl dX8_fewer_10 ?_
      first
      | (rw [if_neg (by rw [inB_lo (a := nI 0) c_1]; exact Bool.false_ne_true)] at hQ; exact hQ μ frm.rf hC)
      | (rw [if_neg (by rw [inB_hi (b := nI 1) (Int32.not_le.mp c_6)]; exact Bool.false_ne_true)] at hQ; exact hQ μ frm.rf hC)
/-- a DRAW's number -/
def drw (z : Int32) (n : Nat) : Nat := z.toBitVec.toNat % 2 ^ 31 / 65536 % n
def wlk (K : Nat) : Nat → HP → Int32 → HP
  | 0, B, _ => B
  | n + 1, B, z => if (fl K B).length = 0 then B else wlk K n (flp K B ((fl K B).getD (drw (z * 1103515245 + nI 12345) (fl K B).length) 0)) (z * 1103515245 + nI 12345)
def wkI (B : HP) (w : Int32) : Int32 := if w = nI 0 then nI (tot B) else if w = nI 1 then nI (lkP B 0) else nI 100 + euI B
def an_walk (n z w : Int32) (S : ST) : Int32 := match S with
  | (K, B, _) => if inB n (nI 0) (nI 20) = true then (if inB w (nI 0) (nI 2) = true then wkI (wlk K n.toNatClampNeg B z) w else -1) else -2
set_option maxHeartbeats 8000000 in
theorem c_X8_walk {l : Launch} {n z w : Int32} {S : ST} {μ : Mem} {Q : Option Value → Mem → Prop} (hC : CR μ S) (hQ : ∀ μ', frm cL μ μ' → CR μ' S → Q (some (.int (an_walk n z w S))) μ') : CC l 4 mX8_walk [.ref 0, .int n, .int z, .int w] μ Q := by
  refine CC.of (M := mX8_walk) (by decide +kernel) rfl (fun v h => by simp at h; rcases h with rfl | rfl | rfl | rfl <;> rfl) (Nat.le_of_ble_eq_true rfl) (fun X hX => ?_)
  have hc := hX.cx
  obtain ⟨K, B, hs, ks, im, ls, tx, pp⟩ := S
  have a1 := hC.1
  have A1 := HA1
  rw [an_walk] at hQ
  have E : ∀ (wn : Nat) (vn : Value) (ν : Mem) (C : HP) (w4 w5 w6 w7 : Value), wn ≤ 2 → RC ν 1 K C → Q (some (.int (wkI C (nI wn)))) ν → TT X 112 [.ref 0, vn, .int z, .int (nI wn), w4, w5, w6, w7] [] ν := by
    intro wn vn ν C w4 w5 w6 w7 hw hR h
    rw [wkI] at h
    refine tt_il3 (q := 113) hc dX8_walk_112 rfl ?_
    first | (with_reducible refine chkb ?_; refine tt_ifneB (t := 124) (q := 116) hc dX8_walk_113 rfl rfl (fun c_113 => ?_) (fun c_113 => ?_)) | (with_reducible refine chk1 ?_; refine tt_ifneN (t := 124) (q := 116) hc (by omega) dX8_walk_113 rfl rfl (fun c_113 => ?_) (fun c_113 => ?_)) | refine tt_ifne (t := 124) (q := 116) hc dX8_walk_113 rfl rfl (fun c_113 => ?_) (fun c_113 => ?_)
    · refine tt_il3 (q := 125) hc dX8_walk_124 rfl ?_
      refine tt_iconst (v := nI 1) (q := 126) hc rfl dX8_walk_125 rfl ?_
      first | (with_reducible refine chk2 ?_; refine tt_icneN (t := 139) (q := 129) hc (by omega) (by omega) dX8_walk_126 rfl rfl (fun c_126 => ?_) (fun c_126 => ?_)) | refine tt_icne (t := 139) (q := 129) hc dX8_walk_126 rfl rfl (fun c_126 => ?_) (fun c_126 => ?_)
      · refine tt_bipush (v := nI 100) (q := 141) hc (by decide) dX8_walk_139 rfl ?_
        refine tt_al0 (q := 142) hc dX8_walk_141 rfl ?_
        refine tt_getR (q := 145) hc fl_X8_18 (by first | assumption | exact ⟨by decide, _, rfl, rfl⟩) dX8_walk_142 rfl ?_
        refine tt_cV0 (q := 148) (d' := 2) (ci := 0) hc (by first | decide | omega) kmX0_euler ml_X8_126 (by first | assumption | exact ⟨by decide, _, rfl⟩) rfl (Nat.le_of_ble_eq_true rfl) dX8_walk_145 rfl ?_
        refine c_X0_euler (j := 1) (by decide) hR ?_
        dsimp only [Option.toList, List.nil_append, List.cons_append]
        first | (with_reducible refine chk2 ?_; refine tt_iaddN (q := 149) hc dX8_walk_148 rfl ?_) | refine tt_iadd (q := 149) hc dX8_walk_148 rfl ?_
        refine tt_reti hX rfl dX8_walk_149 ?_
        rw [if_neg (show ¬ nI wn = nI 0 from nI_ne0 c_113 (by omega))] at h
        first
          | (rw [if_pos (by rw [c_126])] at h; exact h)
          | (rw [if_neg (fun z => c_126 ((nI_eq (by omega) (by decide)).mp z))] at h; exact h)
      · refine tt_al0 (q := 130) hc dX8_walk_129 rfl ?_
        refine tt_getR (q := 133) hc fl_X8_18 (by first | assumption | exact ⟨by decide, _, rfl, rfl⟩) dX8_walk_130 rfl ?_
        refine tt_cV0 (q := 136) (d' := 1) (ci := 0) hc (by first | decide | omega) kmX0_there ml_X8_116 (by first | assumption | exact ⟨by decide, _, rfl⟩) rfl (Nat.le_of_ble_eq_true rfl) dX8_walk_133 rfl ?_
        refine c_X0_there (j := 1) (by decide) hR ?_
        dsimp only [Option.toList, List.nil_append, List.cons_append]
        refine tt_goto (t := 149) hc dX8_walk_136 rfl ?_
        refine tt_reti hX rfl dX8_walk_149 ?_
        rw [if_neg (show ¬ nI wn = nI 0 from nI_ne0 c_113 (by omega))] at h
        first
          | (rw [if_pos (by rw [c_126])] at h; exact h)
          | (rw [if_neg (fun z => c_126 ((nI_eq (by omega) (by decide)).mp z))] at h; exact h)
    · refine tt_al0 (q := 117) hc dX8_walk_116 rfl ?_
      refine tt_getR (q := 120) hc fl_X8_18 (by first | assumption | exact ⟨by decide, _, rfl, rfl⟩) dX8_walk_117 rfl ?_
      refine tt_cV0 (q := 123) (d' := 0) (ci := 0) hc (by first | decide | omega) kmX0_total ml_X8_99 (by first | assumption | exact ⟨by decide, _, rfl⟩) rfl (Nat.le_of_ble_eq_true rfl) dX8_walk_120 rfl ?_
      refine c_X0_total (j := 1) (by decide) hR ?_
      dsimp only [Option.toList, List.nil_append, List.cons_append]
      refine tt_reti hX rfl dX8_walk_123 ?_
      rw [if_pos (by rw [c_113])] at h
      exact h
  have L : ∀ (wn n : Nat), wn ≤ 2 → n ≤ 20 → ∀ (r i : Nat) (C : HP) (x : Int32) (ν : Mem) (w6 w7 : Value), i + r = n → frm cL μ ν → CR ν (K, B, hs, ks, im, ls, tx, pp) → RC ν 1 K C → (∀ μ', frm cL μ μ' → CR μ' (K, B, hs, ks, im, ls, tx, pp) → Q (some (.int (wkI (wlk K r C x) (nI wn)))) μ') → TT X 41 [.ref 0, .int (nI n), .int z, .int (nI wn), .int x, .int (nI i), w6, w7] [] ν := by
    intro wn n hwn hn r
    induction r with
    | zero =>
      intro i C x ν w6 w7 hi hf hCν hR h
      refine tt_il5 (q := 43) hc dX8_walk_41 rfl ?_
      refine tt_il1 (q := 44) hc dX8_walk_43 rfl ?_
      first | (with_reducible refine chk2 ?_; refine tt_icgeN (t := 112) (q := 47) hc (by omega) (by omega) dX8_walk_44 rfl rfl (fun c_44 => ?_) (fun c_44 => ?_)) | refine tt_icge (t := 112) (q := 47) hc dX8_walk_44 rfl rfl (fun c_44 => ?_) (fun c_44 => ?_)
      · exact E wn _ ν C _ _ _ _ hwn hR (h ν hf hCν)
      · omega
    | succ r ih =>
      intro i C x ν w6 w7 hi hf hCν hR h
      rw [wlk] at h
      have hfl := fl_len K C
      refine tt_il5 (q := 43) hc dX8_walk_41 rfl ?_
      refine tt_il1 (q := 44) hc dX8_walk_43 rfl ?_
      first | (with_reducible refine chk2 ?_; refine tt_icgeN (t := 112) (q := 47) hc (by omega) (by omega) dX8_walk_44 rfl rfl (fun c_44 => ?_) (fun c_44 => ?_)) | refine tt_icge (t := 112) (q := 47) hc dX8_walk_44 rfl rfl (fun c_44 => ?_) (fun c_44 => ?_)
      · omega
      · refine tt_al0 (q := 48) hc dX8_walk_47 rfl ?_
        refine tt_getR (q := 51) hc fl_X8_18 (by first | assumption | exact ⟨by decide, _, rfl, rfl⟩) dX8_walk_48 rfl ?_
        refine tt_al0 (q := 52) hc dX8_walk_51 rfl ?_
        refine tt_getR (q := 55) hc fl_X8_21 (by first | assumption | exact ⟨by decide, _, rfl, rfl⟩) dX8_walk_52 rfl ?_
        refine tt_cV1 (q := 58) (d' := 3) (ci := 0) hc (by first | decide | omega) kmX0_gather ml_X8_176 (by first | assumption | exact ⟨by decide, _, rfl⟩) rfl (Nat.le_of_ble_eq_true rfl) dX8_walk_55 rfl ?_
        refine c_X0_gather (j := 1) (by decide) hR A1 (by decide) (fun ν1 hf1 hv1 => ?_)
        have hC1 := hCν.wk hf1 (by decide)
        have hR1 := hR.frm hf1 (by decide) (by decide)
        dsimp only [Option.toList, List.nil_append, List.cons_append]
        refine tt_is6 (q := 60) hc dX8_walk_58 rfl (by decide) ?_
        refine tt_il6 (q := 62) hc dX8_walk_60 rfl ?_
        first | (with_reducible refine chk1 ?_; refine tt_ifgtN (t := 68) (q := 65) hc (by omega) dX8_walk_62 rfl rfl (fun c_62 => ?_) (fun c_62 => ?_)) | refine tt_ifgt (t := 68) (q := 65) hc dX8_walk_62 rfl rfl (fun c_62 => ?_) (fun c_62 => ?_)
        · rw [if_neg (by omega)] at h
          refine tt_il4 (q := 70) hc dX8_walk_68 rfl ?_
          refine tt_ldc (q := 72) hc kc_X8_199 dX8_walk_70 rfl ?_
          first | (with_reducible refine chk2 ?_; refine tt_imulN (q := 73) hc dX8_walk_72 rfl ?_) | refine tt_imul (q := 73) hc dX8_walk_72 rfl ?_
          refine tt_sipush (v := nI 12345) (q := 76) hc (by decide) dX8_walk_73 rfl ?_
          first | (with_reducible refine chk2 ?_; refine tt_iaddN (q := 77) hc dX8_walk_76 rfl ?_) | refine tt_iadd (q := 77) hc dX8_walk_76 rfl ?_
          refine tt_is4 (q := 79) hc dX8_walk_77 rfl (by decide) ?_
          refine tt_il4 (q := 81) hc dX8_walk_79 rfl ?_
          refine tt_ldc (q := 83) hc kc_X8_200 dX8_walk_81 rfl ?_
          first | (with_reducible refine chk2 ?_; refine tt_iandN (q := 84) hc dX8_walk_83 rfl ?_) | (with_reducible refine chkan ?_; refine tt_iandnN (q := 84) hc dX8_walk_83 rfl ?_) | (with_reducible refine chkna ?_; refine tt_inandN (q := 84) hc dX8_walk_83 rfl ?_) | refine tt_iand (q := 84) hc dX8_walk_83 rfl ?_
          rw [pk_and (x * 1103515245 + nI 12345) (m := 2147483647) 31 (by decide)]
          have hm31 := Nat.mod_lt (x * 1103515245 + nI 12345).toBitVec.toNat (show 2 ^ 31 > 0 by decide)
          refine tt_ldc (q := 86) hc kc_X8_201 dX8_walk_84 rfl ?_
          rw [show (65536 : Int32) = nI 65536 by decide]
          first | (with_reducible refine chk2 ?_; refine tt_idivN (q := 87) hc (by omega) (by omega) (by omega) dX8_walk_86 rfl ?_) | refine tt_idiv (q := 87) hc (by decide) dX8_walk_86 rfl ?_
          refine tt_il6 (q := 89) hc dX8_walk_87 rfl ?_
          refine tt_iremN (q := 90) hc (by omega) c_62 (by omega) dX8_walk_89 rfl ?_
          rw [← drw]
          clear hm31
          have hd := Nat.mod_lt ((x * 1103515245 + nI 12345).toBitVec.toNat % 2 ^ 31 / 65536) c_62
          rw [← drw] at hd
          have hg := getD_some (d := 0) hd
          generalize (fl K C).getD (drw (x * 1103515245 + nI 12345) (fl K C).length) 0 = a at hg h
          have hm2 := fl_mem (List.mem_of_getElem? hg)
          refine tt_is7 (q := 92) hc dX8_walk_90 rfl (by decide) ?_
          refine tt_al0 (q := 93) hc dX8_walk_92 rfl ?_
          refine tt_getR (q := 96) hc fl_X8_18 (by first | assumption | exact ⟨by decide, _, rfl, rfl⟩) dX8_walk_93 rfl ?_
          refine tt_al0 (q := 97) hc dX8_walk_96 rfl ?_
          refine tt_getR (q := 100) hc fl_X8_21 (by first | assumption | exact ⟨by decide, _, rfl, rfl⟩) dX8_walk_97 rfl ?_
          refine tt_il7 (q := 102) hc dX8_walk_100 rfl ?_
          refine tt_ialdE (q := 103) hc A1 (by omega) (hv1 _ _ hg) dX8_walk_102 rfl ?_
          refine tt_cV1 (q := 106) (d' := 3) (ci := 0) hc (by first | decide | omega) kmX0_flipAt ml_X8_186 (by first | assumption | exact ⟨by decide, _, rfl⟩) rfl (Nat.le_of_ble_eq_true rfl) dX8_walk_103 rfl ?_
          refine c_X0_flipAt (j := 1) (by decide) hR1 (fun ν2 hf2 hR2 => ?_)
          dsimp only [Option.toList, List.nil_append, List.cons_append]
          first | refine tt_inc5 (q := 109) hc dX8_walk_106 rfl (by decide) (incN _) ?_ | refine tt_inc5 (q := 109) hc dX8_walk_106 rfl (by decide) rfl ?_
          refine tt_goto (t := 41) hc dX8_walk_109 rfl ?_
          exact ih (i + 1) _ _ ν2 _ _ (by omega) (hf.tr ((hf1.cl (by decide)).tr (hf2.cl (by decide)))) (hC1.wk hf2 (by decide)) hR2 h
        · refine tt_goto (t := 112) hc dX8_walk_65 rfl ?_
          rw [if_pos c_62] at h
          exact E wn _ ν1 C _ _ _ _ hwn hR1 (h ν1 (hf.tr (hf1.cl (by decide))) hC1)
  refine tt_il1 (q := 1) hc dX8_walk_0 rfl ?_
  refine tt_iflt (t := 10) (q := 4) hc dX8_walk_1 rfl rfl (fun c_1 => ?_) (fun c_1 => ?_)
  · refine tt_bipush (v := -2) (q := 12) hc (by decide) dX8_walk_10 rfl ?_
    refine tt_reti hX rfl dX8_walk_12 ?_
    first
    | (rw [if_neg (by rw [inB_lo (a := nI 0) c_1]; exact Bool.false_ne_true)] at hQ; exact hQ μ frm.rf hC)
    | (rw [if_neg (by rw [inB_hi (b := nI 20) (Int32.not_le.mp c_7)]; exact Bool.false_ne_true)] at hQ; exact hQ μ frm.rf hC)
  · refine tt_il1 (q := 5) hc dX8_walk_4 rfl ?_
    refine tt_bipush (v := nI 20) (q := 7) hc (by decide) dX8_walk_5 rfl ?_
    first | (with_reducible refine chk2 ?_; refine tt_icleN (t := 13) (q := 10) hc (by omega) (by omega) dX8_walk_7 rfl rfl (fun c_7 => ?_) (fun c_7 => ?_)) | refine tt_icle (t := 13) (q := 10) hc dX8_walk_7 rfl rfl (fun c_7 => ?_) (fun c_7 => ?_)
    · have hin : inB n (nI 0) (nI 20) = true := inB_in c_1 (Int32.not_lt.mpr c_7)
      obtain ⟨nn, -, hn20, rfl⟩ := inB_t (by decide) (by decide) hin
      rw [if_pos hin, nI_clamp (by omega)] at hQ
      refine tt_il3 (q := 14) hc dX8_walk_13 rfl ?_
      refine tt_iflt (t := 22) (q := 17) hc dX8_walk_14 rfl rfl (fun c_14 => ?_) (fun c_14 => ?_)
      · refine tt_iconst (v := -1) (q := 23) hc rfl dX8_walk_22 rfl ?_
        refine tt_reti hX rfl dX8_walk_23 ?_
        first
        | (rw [if_neg (by rw [inB_lo (a := nI 0) c_14]; exact Bool.false_ne_true)] at hQ; exact hQ μ frm.rf hC)
        | (rw [if_neg (by rw [inB_hi (b := nI 2) (Int32.not_le.mp c_19)]; exact Bool.false_ne_true)] at hQ; exact hQ μ frm.rf hC)
      · refine tt_il3 (q := 18) hc dX8_walk_17 rfl ?_
        refine tt_iconst (v := nI 2) (q := 19) hc rfl dX8_walk_18 rfl ?_
        first | (with_reducible refine chk2 ?_; refine tt_icleN (t := 24) (q := 22) hc (by omega) (by omega) dX8_walk_19 rfl rfl (fun c_19 => ?_) (fun c_19 => ?_)) | refine tt_icle (t := 24) (q := 22) hc dX8_walk_19 rfl rfl (fun c_19 => ?_) (fun c_19 => ?_)
        · have hin2 : inB w (nI 0) (nI 2) = true := inB_in c_14 (Int32.not_lt.mpr c_19)
          obtain ⟨wn, -, hw2, rfl⟩ := inB_t (by decide) (by decide) hin2
          rw [if_pos hin2] at hQ
          refine tt_al0 (q := 25) hc dX8_walk_24 rfl ?_
          refine tt_getR (q := 28) hc fl_X8_18 (by first | assumption | exact ⟨by decide, _, rfl, rfl⟩) dX8_walk_25 rfl ?_
          refine tt_al0 (q := 29) hc dX8_walk_28 rfl ?_
          refine tt_getR (q := 32) hc fl_X8_12 (by first | assumption | exact ⟨by decide, _, rfl, rfl⟩) dX8_walk_29 rfl ?_
          refine tt_cV1 (q := 35) (d' := 1) (ci := 0) hc (by first | decide | omega) kmX0_copyOf ml_X8_170 (by first | assumption | exact ⟨by decide, _, rfl⟩) rfl (Nat.le_of_ble_eq_true rfl) dX8_walk_32 rfl ?_
          refine c_X0_copyOf (j := 1) (j2 := 0) (by decide) (by decide) (by decide) a1 (fun ν hf hT => ?_)
          dsimp only [Option.toList, List.nil_append, List.cons_append]
          refine tt_il2 (q := 36) hc dX8_walk_35 rfl ?_
          refine tt_is4 (q := 38) hc dX8_walk_36 rfl (by decide) ?_
          refine tt_iconst (v := nI 0) (q := 39) hc rfl dX8_walk_38 rfl ?_
          refine tt_is5 (q := 41) hc dX8_walk_39 rfl (by decide) ?_
          exact L wn nn hw2 hn20 nn 0 B z ν _ _ (by omega) (hf.cl (by decide)) (hC.wk hf (by decide)) hT hQ
        · refine tt_iconst (v := -1) (q := 23) hc rfl dX8_walk_22 rfl ?_
          refine tt_reti hX rfl dX8_walk_23 ?_
          first
          | (rw [if_neg (by rw [inB_lo (a := nI 0) c_14]; exact Bool.false_ne_true)] at hQ; exact hQ μ frm.rf hC)
          | (rw [if_neg (by rw [inB_hi (b := nI 2) (Int32.not_le.mp c_19)]; exact Bool.false_ne_true)] at hQ; exact hQ μ frm.rf hC)
    · refine tt_bipush (v := -2) (q := 12) hc (by decide) dX8_walk_10 rfl ?_
      refine tt_reti hX rfl dX8_walk_12 ?_
      first
      | (rw [if_neg (by rw [inB_lo (a := nI 0) c_1]; exact Bool.false_ne_true)] at hQ; exact hQ μ frm.rf hC)
      | (rw [if_neg (by rw [inB_hi (b := nI 20) (Int32.not_le.mp c_7)]; exact Bool.false_ne_true)] at hQ; exact hQ μ frm.rf hC)
