/-! THE CLASS: SHELLED, CONE, flips -/
def shl (bs : List Nat) (xs : List Int32) : Nat → Nat → Option Nat
  | 0, _ => none
  | n + 1, i => if fitB bs xs i = true then shl bs xs n (i + 1) else some i
def an_shelled (v : Int32) (S : ST) : Int32 := match S with
  | (_, B, _, _, _, ls, _, _) => if inB v (nI 0) (nI 3) = true then (match ls v.toNatClampNeg with | none => -11 | some xs => onI (shl (bl B) xs xs.length 0)) else -1
theorem lst_no {ls : Nat → Option (List Int32)} {v : Int32} (h : inB v (nI 0) (nI 3) = false) : lst ls v = -1 := by
  rw [lst, if_neg (by rw [h]; exact Bool.false_ne_true)]
theorem lst_none {ls : Nat → Option (List Int32)} {t : Nat} (ht : t < 4) (h : ls t = none) : lst ls (nI t) = -11 := by
  rw [lst, if_pos (inB_in (a := nI 0) (b := nI 3) (nI_pos (by omega)) (nI_nlt (by omega) (by omega))), nI_clamp (by omega), h]
theorem lst_some {ls : Nat → Option (List Int32)} {t : Nat} {xs : List Int32} (ht : t < 4) (h : ls t = some xs) : lst ls (nI t) = 0 := by
  rw [lst, if_pos (inB_in (a := nI 0) (b := nI 3) (nI_pos (by omega)) (nI_nlt (by omega) (by omega))), nI_clamp (by omega), h]
/-- a list's state, by cases -/
theorem lst_cases (ls : Nat → Option (List Int32)) (v : Int32) : (inB v (nI 0) (nI 3) = false ∧ lst ls v = -1) ∨ (∃ t, t < 4 ∧ v = nI t ∧ inB v (nI 0) (nI 3) = true ∧ ls t = none ∧ lst ls v = -11) ∨ (∃ t xs, t < 4 ∧ v = nI t ∧ inB v (nI 0) (nI 3) = true ∧ ls t = some xs ∧ lst ls v = 0) := by
  cases h : inB v (nI 0) (nI 3) with
  | false => exact Or.inl ⟨rfl, lst_no h⟩
  | true =>
    obtain ⟨t, -, ht, rfl⟩ := inB_t (by decide) (by decide) h
    cases hl : ls t with
    | none => exact Or.inr (Or.inl ⟨t, by omega, rfl, rfl, hl, lst_none (by omega) hl⟩)
    | some xs => exact Or.inr (Or.inr ⟨t, xs, by omega, rfl, rfl, hl, lst_some (by omega) hl⟩)
set_option maxHeartbeats 4000000 in
theorem c_X8_shelled {l : Launch} {v : Int32} {S : ST} {μ : Mem} {Q : Option Value → Mem → Prop} (hC : CR μ S) (hQ : ∀ μ', frm cL μ μ' → CR μ' S → Q (some (.int (an_shelled v S))) μ') : CC l 3 mX8_shelled [.ref 0, .int v] μ Q := by
  refine CC.of (M := mX8_shelled) (by decide +kernel) rfl (fun v h => by simp at h; rcases h with rfl | rfl <;> rfl) (Nat.le_of_ble_eq_true rfl) (fun X hX => ?_)
  have hc := hX.cx
  obtain ⟨K, B, hs, ks, im, ls, tx, pp⟩ := S
  have a1 := hC.1
  have a5 := hC.2.2.2.2.1
  have htot := tot_le a1.1
  have hbl := bl_len a1.1
  have hb : ∀ s ∈ bl B, s < 256 := fun s hs => (a1.1.2 s ((bl_mem a1.1).mp hs)).1
  rw [an_shelled] at hQ
  rcases lst_cases ls v with ⟨hin, hst⟩ | ⟨t, ht, rfl, hin, hls, hst⟩ | ⟨t, xs, ht, rfl, hin, hls, hst⟩
  · rw [if_neg (by rw [hin]; exact Bool.false_ne_true)] at hQ
    refine tt_al0 (q := 1) hc dX8_shelled_0 rfl ?_
    refine tt_getR (q := 4) hc fl_X8_66 (by first | assumption | exact ⟨by decide, _, rfl, rfl⟩) dX8_shelled_1 rfl ?_
    refine tt_il1 (q := 5) hc dX8_shelled_4 rfl ?_
    refine tt_cV1 (q := 8) (d' := 1) (ci := 3) hc (by first | decide | omega) kmX3_state ml_X8_157 (by first | assumption | exact ⟨by decide, _, rfl⟩) rfl (Nat.le_of_ble_eq_true rfl) dX8_shelled_5 rfl ?_
    refine c_X3_state a5 ?_
    rw [hst]
    dsimp only [Option.toList, List.nil_append, List.cons_append]
    refine tt_is2 (q := 9) hc dX8_shelled_8 rfl (by decide) ?_
    refine tt_il2 (q := 10) hc dX8_shelled_9 rfl ?_
    refine tt_ifge (t := 15) (q := 13) hc dX8_shelled_10 rfl rfl (fun c_10 => ?_) (fun c_10 => ?_)
    · exact absurd c_10 (by decide)
    · refine tt_il2 (q := 14) hc dX8_shelled_13 rfl ?_
      refine tt_reti hX rfl dX8_shelled_14 ?_
      exact hQ μ frm.rf hC
  · rw [if_pos hin, nI_clamp (by omega), hls] at hQ
    refine tt_al0 (q := 1) hc dX8_shelled_0 rfl ?_
    refine tt_getR (q := 4) hc fl_X8_66 (by first | assumption | exact ⟨by decide, _, rfl, rfl⟩) dX8_shelled_1 rfl ?_
    refine tt_il1 (q := 5) hc dX8_shelled_4 rfl ?_
    refine tt_cV1 (q := 8) (d' := 1) (ci := 3) hc (by first | decide | omega) kmX3_state ml_X8_157 (by first | assumption | exact ⟨by decide, _, rfl⟩) rfl (Nat.le_of_ble_eq_true rfl) dX8_shelled_5 rfl ?_
    refine c_X3_state a5 ?_
    rw [hst]
    dsimp only [Option.toList, List.nil_append, List.cons_append]
    refine tt_is2 (q := 9) hc dX8_shelled_8 rfl (by decide) ?_
    refine tt_il2 (q := 10) hc dX8_shelled_9 rfl ?_
    refine tt_ifge (t := 15) (q := 13) hc dX8_shelled_10 rfl rfl (fun c_10 => ?_) (fun c_10 => ?_)
    · exact absurd c_10 (by decide)
    · refine tt_il2 (q := 14) hc dX8_shelled_13 rfl ?_
      refine tt_reti hX rfl dX8_shelled_14 ?_
      exact hQ μ frm.rf hC
  · rw [if_pos hin, nI_clamp (by omega), hls] at hQ
    dsimp only at hQ
    have hxl := (a5.so ht hls).1
    have L : ∀ (n i : Nat) (ν : Mem), i + n = xs.length → WB ν K (bl B) → LR ν ls → Q (some (.int (onI (shl (bl B) xs n i)))) ν → TT X 28 [.ref 0, .int (nI t), .int 0, .int (nI i)] [] ν := by
      intro n
      induction n with
      | zero =>
        intro i ν hi hW hL h
        refine tt_il3 (q := 29) hc dX8_shelled_28 rfl ?_
        refine tt_al0 (q := 30) hc dX8_shelled_29 rfl ?_
        refine tt_getR (q := 33) hc fl_X8_66 (by first | assumption | exact ⟨by decide, _, rfl, rfl⟩) dX8_shelled_30 rfl ?_
        refine tt_il1 (q := 34) hc dX8_shelled_33 rfl ?_
        refine tt_cV1 (q := 37) (d' := 0) (ci := 3) hc (by first | decide | omega) kmX3_sizeOf ml_X8_163 (by first | assumption | exact ⟨by decide, _, rfl⟩) rfl (Nat.le_of_ble_eq_true rfl) dX8_shelled_34 rfl ?_
        refine c_X3_sizeOf hL ht hls ?_
        dsimp only [Option.toList, List.nil_append, List.cons_append]
        first | (with_reducible refine chk2 ?_; refine tt_icgeN (t := 64) (q := 40) hc (by omega) (by omega) dX8_shelled_37 rfl rfl (fun c_37 => ?_) (fun c_37 => ?_)) | refine tt_icge (t := 64) (q := 40) hc dX8_shelled_37 rfl rfl (fun c_37 => ?_) (fun c_37 => ?_)
        · refine tt_bipush (v := -5) (q := 66) hc (by decide) dX8_shelled_64 rfl ?_
          refine tt_reti hX rfl dX8_shelled_66 ?_
          exact h
        · omega
      | succ n ih =>
        intro i ν hi hW hL h
        rw [shl] at h
        refine tt_il3 (q := 29) hc dX8_shelled_28 rfl ?_
        refine tt_al0 (q := 30) hc dX8_shelled_29 rfl ?_
        refine tt_getR (q := 33) hc fl_X8_66 (by first | assumption | exact ⟨by decide, _, rfl, rfl⟩) dX8_shelled_30 rfl ?_
        refine tt_il1 (q := 34) hc dX8_shelled_33 rfl ?_
        refine tt_cV1 (q := 37) (d' := 0) (ci := 3) hc (by first | decide | omega) kmX3_sizeOf ml_X8_163 (by first | assumption | exact ⟨by decide, _, rfl⟩) rfl (Nat.le_of_ble_eq_true rfl) dX8_shelled_34 rfl ?_
        refine c_X3_sizeOf hL ht hls ?_
        dsimp only [Option.toList, List.nil_append, List.cons_append]
        first | (with_reducible refine chk2 ?_; refine tt_icgeN (t := 64) (q := 40) hc (by omega) (by omega) dX8_shelled_37 rfl rfl (fun c_37 => ?_) (fun c_37 => ?_)) | refine tt_icge (t := 64) (q := 40) hc dX8_shelled_37 rfl rfl (fun c_37 => ?_) (fun c_37 => ?_)
        · omega
        · refine tt_al0 (q := 41) hc dX8_shelled_40 rfl ?_
          refine tt_getR (q := 44) hc fl_X8_45 (by first | assumption | exact ⟨by decide, _, rfl, rfl⟩) dX8_shelled_41 rfl ?_
          refine tt_al0 (q := 45) hc dX8_shelled_44 rfl ?_
          refine tt_getR (q := 48) hc fl_X8_66 (by first | assumption | exact ⟨by decide, _, rfl, rfl⟩) dX8_shelled_45 rfl ?_
          refine tt_il1 (q := 49) hc dX8_shelled_48 rfl ?_
          refine tt_il3 (q := 50) hc dX8_shelled_49 rfl ?_
          refine tt_cV3 (q := 53) (d' := 1) (ci := 7) hc (by first | decide | omega) kmX7_fits ml_X8_166 (by first | assumption | exact ⟨by decide, _, rfl⟩) rfl (Nat.le_of_ble_eq_true rfl) dX8_shelled_50 rfl ?_
          refine c_X7_fits (by omega) hb hW hL ht hls (by omega) ?_
          dsimp only [Option.toList, List.nil_append, List.cons_append]
          first | (with_reducible refine chkb ?_; refine tt_ifneB (t := 58) (q := 56) hc dX8_shelled_53 rfl rfl (fun c_53 => ?_) (fun c_53 => ?_)) | (with_reducible refine chk1 ?_; refine tt_ifneN (t := 58) (q := 56) hc (by omega) dX8_shelled_53 rfl rfl (fun c_53 => ?_) (fun c_53 => ?_)) | refine tt_ifne (t := 58) (q := 56) hc dX8_shelled_53 rfl rfl (fun c_53 => ?_) (fun c_53 => ?_)
          · first | refine tt_inc3 (q := 61) hc dX8_shelled_58 rfl (by decide) (incN _) ?_ | refine tt_inc3 (q := 61) hc dX8_shelled_58 rfl (by decide) rfl ?_
            refine tt_goto (t := 28) hc dX8_shelled_61 rfl ?_
            rw [c_53, if_pos rfl] at h
            exact ih (i + 1) ν (by omega) hW hL h
          · refine tt_il3 (q := 57) hc dX8_shelled_56 rfl ?_
            refine tt_reti hX rfl dX8_shelled_57 ?_
            rw [c_53, if_neg Bool.false_ne_true] at h
            exact h
    refine tt_al0 (q := 1) hc dX8_shelled_0 rfl ?_
    refine tt_getR (q := 4) hc fl_X8_66 (by first | assumption | exact ⟨by decide, _, rfl, rfl⟩) dX8_shelled_1 rfl ?_
    refine tt_il1 (q := 5) hc dX8_shelled_4 rfl ?_
    refine tt_cV1 (q := 8) (d' := 1) (ci := 3) hc (by first | decide | omega) kmX3_state ml_X8_157 (by first | assumption | exact ⟨by decide, _, rfl⟩) rfl (Nat.le_of_ble_eq_true rfl) dX8_shelled_5 rfl ?_
    refine c_X3_state a5 ?_
    rw [hst]
    dsimp only [Option.toList, List.nil_append, List.cons_append]
    refine tt_is2 (q := 9) hc dX8_shelled_8 rfl (by decide) ?_
    refine tt_il2 (q := 10) hc dX8_shelled_9 rfl ?_
    refine tt_ifge (t := 15) (q := 13) hc dX8_shelled_10 rfl rfl (fun c_10 => ?_) (fun c_10 => ?_)
    · refine tt_al0 (q := 16) hc dX8_shelled_15 rfl ?_
      refine tt_getR (q := 19) hc fl_X8_45 (by first | assumption | exact ⟨by decide, _, rfl, rfl⟩) dX8_shelled_16 rfl ?_
      refine tt_al0 (q := 20) hc dX8_shelled_19 rfl ?_
      refine tt_getR (q := 23) hc fl_X8_12 (by first | assumption | exact ⟨by decide, _, rfl, rfl⟩) dX8_shelled_20 rfl ?_
      refine tt_cV1 (q := 26) (d' := 2) (ci := 7) hc (by first | decide | omega) kmX7_load ml_X8_160 (by first | assumption | exact ⟨by decide, _, rfl⟩) rfl (Nat.le_of_ble_eq_true rfl) dX8_shelled_23 rfl ?_
      refine c_X7_load (j := 0) (by decide) a1 (fun ν hf hW => ?_)
      dsimp only [Option.toList, List.nil_append, List.cons_append]
      refine tt_iconst (v := nI 0) (q := 27) hc rfl dX8_shelled_26 rfl ?_
      refine tt_is3 (q := 28) hc dX8_shelled_27 rfl (by decide) ?_
      exact L xs.length 0 ν (by omega) hW.b (a5.frm hf (by decide) (by decide)) (hQ ν (hf.cl (by decide)) (hC.wk hf (by decide)))
    · exact absurd (by decide) c_10
def coneB (K : Nat) (B : HP) (pt : Nat) : Nat → Nat → HP → HP
  | 0, _, C => C
  | n + 1, s, C => coneB K B pt n (s + 1) (if wal K B s = true then tog C (s ||| pt) else C)
def sp_cone (p : Int32) (S : ST) : Int32 × ST := match S with
  | (K, B, hs, ks, im, ls, tx, pp) => if inB p (nI 0) (nI 7) = true then (if 0 < cW B (2 ^ p.toNatClampNeg) then (-3, S) else (nI (tot (coneB K B (2 ^ p.toNatClampNeg) 255 1 B)), (K, coneB K B (2 ^ p.toNatClampNeg) 255 1 B, nt B hs, ks, im, ls, tx, pp))) else (-1, S)
theorem pop_two : ∀ p, p < 8 → pop (2 ^ p) = 1 := by decide +kernel
theorem pt_off {B : HP} {s p : Nat} (hs : s < 256) (h : 0 < cW B s) (hp : ¬ 0 < cW B (2 ^ p)) : s &&& 2 ^ p = 0 := by
  apply Nat.eq_of_testBit_eq
  intro i
  rw [Nat.testBit_and, Nat.testBit_two_pow, Nat.zero_testBit]
  by_cases e : p = i
  · subst e
    cases hb : s.testBit p
    · rfl
    · exact absurd (cW_sub (fun u _ h => bit_sub h hb) h) hp
  · simp [e]
set_option maxHeartbeats 4000000 in
theorem c_X8_cone {l : Launch} {p : Int32} {S : ST} {μ : Mem} {Q : Option Value → Mem → Prop} (hC : CR μ S) (hQ : ∀ μ', frm cL μ μ' → CR μ' (sp_cone p S).2 → Q (some (.int (sp_cone p S).1)) μ') : CC l 3 mX8_cone [.ref 0, .int p] μ Q := by
  refine CC.of (M := mX8_cone) (by decide +kernel) rfl (fun v h => by simp at h; rcases h with rfl | rfl <;> rfl) (Nat.le_of_ble_eq_true rfl) (fun X hX => ?_)
  have hc := hX.cx
  obtain ⟨K, B, hs, ks, im, ls, tx, pp⟩ := S
  have a1 := hC.1
  have a2 := hC.2.1
  rw [sp_cone] at hQ
  have L : ∀ (n s pt q : Nat) (C : HP) (ν : Mem), s + n = 256 → 0 < s → q < 8 → pt = 2 ^ q → ¬ 0 < cW B pt → RC ν 0 K C → RC ν 1 K B → (∀ ν', frm [40, 41] ν ν' → RC ν' 0 K (coneB K B pt n s C) → Q (some (.int (nI (tot (coneB K B pt n s C))))) ν') → TT X 54 [.ref 0, .int p, .int (nI pt), .int (nI s)] [] ν := by
    intro n
    induction n with
    | zero =>
      intro s pt q C ν hs h0 hq hpt hno hR hT h
      refine tt_il3 (q := 55) hc dX8_cone_54 rfl ?_
      refine tt_sipush (v := nI 256) (q := 58) hc (by decide) dX8_cone_55 rfl ?_
      first | (with_reducible refine chk2 ?_; refine tt_icgeN (t := 88) (q := 61) hc (by omega) (by omega) dX8_cone_58 rfl rfl (fun c_58 => ?_) (fun c_58 => ?_)) | refine tt_icge (t := 88) (q := 61) hc dX8_cone_58 rfl rfl (fun c_58 => ?_) (fun c_58 => ?_)
      · refine tt_al0 (q := 89) hc dX8_cone_88 rfl ?_
        refine tt_getR (q := 92) hc fl_X8_12 (by first | assumption | exact ⟨by decide, _, rfl, rfl⟩) dX8_cone_89 rfl ?_
        refine tt_cV0 (q := 95) (d' := 0) (ci := 0) hc (by first | decide | omega) kmX0_total ml_X8_99 (by first | assumption | exact ⟨by decide, _, rfl⟩) rfl (Nat.le_of_ble_eq_true rfl) dX8_cone_92 rfl ?_
        refine c_X0_total (j := 0) (by decide) hR ?_
        dsimp only [Option.toList, List.nil_append, List.cons_append]
        refine tt_reti hX rfl dX8_cone_95 ?_
        exact h ν frm.rf hR
      · omega
    | succ n ih =>
      intro s pt q C ν hs h0 hq hpt hno hR hT h
      have hpl : pt < 256 := by rw [hpt]; exact p2_lt hq
      have hwp : wal K B s = true → pop (s ||| pt) = K := by
        intro z
        simp only [wal, Bool.and_eq_true, decide_eq_true_eq] at z
        rw [hpt] at hno ⊢
        rw [pop_or s (by omega) (2 ^ q) (p2_lt hq) (pt_off (by omega) (by omega) hno), pop_two q hq]
        have := a1.1.1
        omega
      rw [coneB] at h
      refine tt_il3 (q := 55) hc dX8_cone_54 rfl ?_
      refine tt_sipush (v := nI 256) (q := 58) hc (by decide) dX8_cone_55 rfl ?_
      first | (with_reducible refine chk2 ?_; refine tt_icgeN (t := 88) (q := 61) hc (by omega) (by omega) dX8_cone_58 rfl rfl (fun c_58 => ?_) (fun c_58 => ?_)) | refine tt_icge (t := 88) (q := 61) hc dX8_cone_58 rfl rfl (fun c_58 => ?_) (fun c_58 => ?_)
      · omega
      · refine tt_al0 (q := 62) hc dX8_cone_61 rfl ?_
        refine tt_getR (q := 65) hc fl_X8_18 (by first | assumption | exact ⟨by decide, _, rfl, rfl⟩) dX8_cone_62 rfl ?_
        refine tt_il3 (q := 66) hc dX8_cone_65 rfl ?_
        refine tt_cV1 (q := 69) (d' := 1) (ci := 0) hc (by first | decide | omega) kmX0_isWall ml_X8_173 (by first | assumption | exact ⟨by decide, _, rfl⟩) rfl (Nat.le_of_ble_eq_true rfl) dX8_cone_66 rfl ?_
        refine c_X0_isWall (j := 1) (by decide) hT ?_
        dsimp only [Option.toList, List.nil_append, List.cons_append]
        first | (with_reducible refine chkb ?_; refine tt_ifeqB (t := 82) (q := 72) hc dX8_cone_69 rfl rfl (fun c_69 => ?_) (fun c_69 => ?_)) | (with_reducible refine chk1 ?_; refine tt_ifeqN (t := 82) (q := 72) hc (by omega) dX8_cone_69 rfl rfl (fun c_69 => ?_) (fun c_69 => ?_)) | refine tt_ifeq (t := 82) (q := 72) hc dX8_cone_69 rfl rfl (fun c_69 => ?_) (fun c_69 => ?_)
        · first | refine tt_inc3 (q := 85) hc dX8_cone_82 rfl (by decide) (incN _) ?_ | refine tt_inc3 (q := 85) hc dX8_cone_82 rfl (by decide) rfl ?_
          refine tt_goto (t := 54) hc dX8_cone_85 rfl ?_
          first
          | (rw [c_69, if_neg Bool.false_ne_true] at h; exact ih (s + 1) pt q C ν (by omega) (by omega) hq hpt hno hR hT h)
          | (rw [c_69, if_pos rfl] at h; exact ih (s + 1) pt q _ ν' (by omega) (by omega) hq hpt hno hR' (hT.frm hf (by decide) (by decide)) (fun ν'' hf' => h ν'' ((hf.mono (by simp)).tr hf')))
        · refine tt_al0 (q := 73) hc dX8_cone_72 rfl ?_
          refine tt_getR (q := 76) hc fl_X8_12 (by first | assumption | exact ⟨by decide, _, rfl, rfl⟩) dX8_cone_73 rfl ?_
          refine tt_il3 (q := 77) hc dX8_cone_76 rfl ?_
          refine tt_il2 (q := 78) hc dX8_cone_77 rfl ?_
          first | (with_reducible refine chk2 ?_; refine tt_iorN (q := 79) hc dX8_cone_78 rfl ?_) | refine tt_ior (q := 79) hc dX8_cone_78 rfl ?_
          refine tt_cV1 (q := 82) (d' := 0) (ci := 0) hc (by first | decide | omega) kmX0_toggle ml_X8_109 (by first | assumption | exact ⟨by decide, _, rfl⟩) rfl (Nat.le_of_ble_eq_true rfl) dX8_cone_79 rfl ?_
          refine c_X0_toggle (j := 0) (by decide) hR (or_lt (by omega) hpl) (hwp c_69) (fun ν' hf hR' => ?_)
          dsimp only [Option.toList, List.nil_append, List.cons_append]
          first | refine tt_inc3 (q := 85) hc dX8_cone_82 rfl (by decide) (incN _) ?_ | refine tt_inc3 (q := 85) hc dX8_cone_82 rfl (by decide) rfl ?_
          refine tt_goto (t := 54) hc dX8_cone_85 rfl ?_
          first
          | (rw [c_69, if_neg Bool.false_ne_true] at h; exact ih (s + 1) pt q C ν (by omega) (by omega) hq hpt hno hR hT h)
          | (rw [c_69, if_pos rfl] at h; exact ih (s + 1) pt q _ ν' (by omega) (by omega) hq hpt hno hR' (hT.frm hf (by decide) (by decide)) (fun ν'' hf' => h ν'' ((hf.mono (by simp)).tr hf')))
  refine tt_il1 (q := 1) hc dX8_cone_0 rfl ?_
  refine tt_iflt (t := 10) (q := 4) hc dX8_cone_1 rfl rfl (fun c_1 => ?_) (fun c_1 => ?_)
  · refine tt_iconst (v := -1) (q := 11) hc rfl dX8_cone_10 rfl ?_
    refine tt_reti hX rfl dX8_cone_11 ?_
    first
    | (rw [if_neg (by rw [inB_lo (a := nI 0) c_1]; exact Bool.false_ne_true)] at hQ; exact hQ μ frm.rf hC)
    | (rw [if_neg (by rw [inB_bf (b := 7) (by decide) (Int32.not_lt.mp c_7)]; exact Bool.false_ne_true)] at hQ; exact hQ μ frm.rf hC)
  · refine tt_il1 (q := 5) hc dX8_cone_4 rfl ?_
    refine tt_bipush (v := nI 8) (q := 7) hc (by decide) dX8_cone_5 rfl ?_
    first | (with_reducible refine chk2 ?_; refine tt_icltN (t := 12) (q := 10) hc (by omega) (by omega) dX8_cone_7 rfl rfl (fun c_7 => ?_) (fun c_7 => ?_)) | refine tt_iclt (t := 12) (q := 10) hc dX8_cone_7 rfl rfl (fun c_7 => ?_) (fun c_7 => ?_)
    · have hin : inB p (nI 0) (nI 7) = true := inB_bt (by decide) c_1 (Int32.not_le.mpr c_7)
      obtain ⟨q, -, hq7, hpq⟩ := inB_t (by decide) (by decide) hin
      rw [if_pos hin, hpq, nI_clamp (by omega)] at hQ
      have h2q := p2_lt (p := q) (by omega)
      have hcw := cW_le B (2 ^ q)
      refine tt_iconst (v := nI 1) (q := 13) hc rfl dX8_cone_12 rfl ?_
      refine tt_il1 (q := 14) hc dX8_cone_13 rfl ?_
      rw [hpq]
      first | (with_reducible refine chks ?_; refine tt_ishl1 (q := 15) hc (by omega) dX8_cone_14 rfl ?_) | (with_reducible refine chk2 ?_; refine tt_ishlN (q := 15) hc (by omega) (by omega) dX8_cone_14 rfl ?_) | refine tt_ishl (q := 15) hc dX8_cone_14 rfl ?_
      refine tt_is2 (q := 16) hc dX8_cone_15 rfl (by decide) ?_
      refine tt_al0 (q := 17) hc dX8_cone_16 rfl ?_
      refine tt_getR (q := 20) hc fl_X8_12 (by first | assumption | exact ⟨by decide, _, rfl, rfl⟩) dX8_cone_17 rfl ?_
      refine tt_il2 (q := 21) hc dX8_cone_20 rfl ?_
      refine tt_cV1 (q := 24) (d' := 0) (ci := 0) hc (by first | decide | omega) kmX0_holders ml_X8_144 (by first | assumption | exact ⟨by decide, _, rfl⟩) rfl (Nat.le_of_ble_eq_true rfl) dX8_cone_21 rfl ?_
      refine c_X0_holders (j := 0) (by decide) a1 ?_
      dsimp only [Option.toList, List.nil_append, List.cons_append]
      first | (with_reducible refine chk1 ?_; refine tt_ifleN (t := 30) (q := 27) hc (by omega) dX8_cone_24 rfl rfl (fun c_24 => ?_) (fun c_24 => ?_)) | refine tt_ifle (t := 30) (q := 27) hc dX8_cone_24 rfl rfl (fun c_24 => ?_) (fun c_24 => ?_)
      · rw [if_neg (by omega)] at hQ
        refine tt_al0 (q := 31) hc dX8_cone_30 rfl ?_
        refine tt_getR (q := 34) hc fl_X8_28 (by first | assumption | exact ⟨by decide, _, rfl, rfl⟩) dX8_cone_31 rfl ?_
        refine tt_al0 (q := 35) hc dX8_cone_34 rfl ?_
        refine tt_getR (q := 38) hc fl_X8_12 (by first | assumption | exact ⟨by decide, _, rfl, rfl⟩) dX8_cone_35 rfl ?_
        refine tt_cV1 (q := 41) (d' := 2) (ci := 2) hc (by first | decide | omega) kmX2_note ml_X8_92 (by first | assumption | exact ⟨by decide, _, rfl⟩) rfl (Nat.le_of_ble_eq_true rfl) dX8_cone_38 rfl ?_
        refine c_X2_note a1 a2 (fun ν hf hP => ?_)
        dsimp only [Option.toList, List.nil_append, List.cons_append]
        refine tt_al0 (q := 42) hc dX8_cone_41 rfl ?_
        refine tt_getR (q := 45) hc fl_X8_18 (by first | assumption | exact ⟨by decide, _, rfl, rfl⟩) dX8_cone_42 rfl ?_
        refine tt_al0 (q := 46) hc dX8_cone_45 rfl ?_
        refine tt_getR (q := 49) hc fl_X8_12 (by first | assumption | exact ⟨by decide, _, rfl, rfl⟩) dX8_cone_46 rfl ?_
        refine tt_cV1 (q := 52) (d' := 1) (ci := 0) hc (by first | decide | omega) kmX0_copyOf ml_X8_170 (by first | assumption | exact ⟨by decide, _, rfl⟩) rfl (Nat.le_of_ble_eq_true rfl) dX8_cone_49 rfl ?_
        refine c_X0_copyOf (j := 1) (j2 := 0) (by decide) (by decide) (by decide) (a1.frm hf (by decide) (by decide)) (fun ν1 hf1 hT => ?_)
        dsimp only [Option.toList, List.nil_append, List.cons_append]
        refine tt_iconst (v := nI 1) (q := 53) hc rfl dX8_cone_52 rfl ?_
        refine tt_is3 (q := 54) hc dX8_cone_53 rfl (by decide) ?_
        rw [← hpq]
        refine L 255 1 (2 ^ q) q B ν1 rfl (by decide) (by omega) rfl (by omega) ((a1.frm hf (by decide) (by decide)).frm hf1 (by decide) (by decide)) hT (fun ν2 hf2 hR2 => hQ ν2 ((hf.cl (by decide)).tr ((hf1.cl (by decide)).tr (hf2.cl (by decide)))) (hC.step hf hP ((hf1.mono (by decide)).tr (hf2.mono (by decide))) hR2))
      · refine tt_bipush (v := -3) (q := 29) hc (by decide) dX8_cone_27 rfl ?_
        refine tt_reti hX rfl dX8_cone_29 ?_
        rw [if_pos c_24] at hQ
        exact hQ μ frm.rf hC
    · refine tt_iconst (v := -1) (q := 11) hc rfl dX8_cone_10 rfl ?_
      refine tt_reti hX rfl dX8_cone_11 ?_
      first
      | (rw [if_neg (by rw [inB_lo (a := nI 0) c_1]; exact Bool.false_ne_true)] at hQ; exact hQ μ frm.rf hC)
      | (rw [if_neg (by rw [inB_bf (b := 7) (by decide) (Int32.not_lt.mp c_7)]; exact Bool.false_ne_true)] at hQ; exact hQ μ frm.rf hC)
/-- a place of a list of sets -/
def lx {α : Type} (l : List α) (v : Int32) : Option α := if v < 0 then none else l[v.toNatClampNeg]?
theorem lx_lo {α : Type} {l : List α} {v : Int32} (h : v < 0) : lx l v = none := if_pos h
theorem lx_hi {α : Type} {l : List α} {v : Int32} (hlen : l.length < 2 ^ 31) (h0 : ¬ v < 0) (h : nI l.length ≤ v) : lx l v = none := by
  obtain ⟨n, hn, rfl⟩ := nI_of h0
  rw [lx, if_neg h0, nI_clamp hn]
  exact List.getElem?_eq_none ((nI_leI hlen hn).mp h)
theorem lx_in {α : Type} {l : List α} {v : Int32} (hlen : l.length < 2 ^ 31) (h0 : ¬ v < 0) (h : v < nI l.length) : ∃ n a, v = nI n ∧ n < l.length ∧ l[n]? = some a ∧ lx l v = some a := by
  obtain ⟨n, hn, rfl⟩ := nI_of h0
  have hl : n < l.length := (nI_ltI hn hlen).mp h
  refine ⟨n, _, rfl, hl, List.getElem?_eq_getElem hl, ?_⟩
  rw [lx, if_neg h0, nI_clamp hn, List.getElem?_eq_getElem hl]
theorem flF_mem {K : Nat} {B : HP} : ∀ n i s, s ∈ flF K B n i → i ≤ s ∧ s < i + n ∧ ¬ prt K B s = 0
  | 0, _, _, h => by cases h
  | n + 1, i, s, h => by
    rw [flF] at h
    split at h
    · have := flF_mem n (i + 1) s h
      omega
    · rcases List.mem_cons.mp h with e | e
      · rw [e]
        exact ⟨Nat.le_refl _, by omega, by assumption⟩
      · have := flF_mem n (i + 1) s e
        omega
theorem fl_mem {K : Nat} {B : HP} {s : Nat} (h : s ∈ fl K B) : 0 < s ∧ s < 256 ∧ ¬ prt K B s = 0 := by
  have := flF_mem 255 1 s h
  omega
theorem HA1 : HA 1 0 256 := ⟨by decide, rfl, by decide⟩
def flc (B : HP) (n : Nat) : List Nat → Nat
  | [] => 0
  | a :: r => (if cW B a = n then 1 else 0) + flc B n r
def an_flips (s : Int32) (S : ST) : Int32 := match S with
  | (K, B, _) => if inB s (nI 0) (nI K) = true then (if s = nI 0 then nI (fl K B).length else nI (flc B s.toNatClampNeg (fl K B))) else -2
set_option maxHeartbeats 4000000 in
theorem c_X8_flips {l : Launch} {s : Int32} {S : ST} {μ : Mem} {Q : Option Value → Mem → Prop} (hC : CR μ S) (hQ : ∀ μ', frm cL μ μ' → CR μ' S → Q (some (.int (an_flips s S))) μ') : CC l 4 mX8_flips [.ref 0, .int s] μ Q := by
  refine CC.of (M := mX8_flips) (by decide +kernel) rfl (fun v h => by simp at h; rcases h with rfl | rfl <;> rfl) (Nat.le_of_ble_eq_true rfl) (fun X hX => ?_)
  have hc := hX.cx
  obtain ⟨K, B, hs, ks, im, ls, tx, pp⟩ := S
  have a1 := hC.1
  have hK := a1.1.1
  have hfl := fl_len K B
  have A1 := HA1
  rw [an_flips] at hQ
  have L : ∀ (ν : Mem) (n : Nat), n ≤ 8 → RC ν 0 K B → (∀ i s, (fl K B)[i]? = some s → ν 1 i = nI s) → ∀ (r : List Nat) (i m : Nat), (fl K B).drop i = r → i ≤ (fl K B).length → m ≤ i → Q (some (.int (nI (m + flc B n r)))) ν → TT X 41 [.ref 0, .int (nI n), .int (nI (fl K B).length), .int (nI m), .int (nI i)] [] ν := by
    intro ν n hn hR hv r
    induction r with
    | nil =>
      intro i m hr hil hm h
      have ho := drop_nil hr
      refine tt_il4 (q := 43) hc dX8_flips_41 rfl ?_
      refine tt_il2 (q := 44) hc dX8_flips_43 rfl ?_
      first | (with_reducible refine chk2 ?_; refine tt_icgeN (t := 74) (q := 47) hc (by omega) (by omega) dX8_flips_44 rfl rfl (fun c_44 => ?_) (fun c_44 => ?_)) | refine tt_icge (t := 74) (q := 47) hc dX8_flips_44 rfl rfl (fun c_44 => ?_) (fun c_44 => ?_)
      · refine tt_il3 (q := 75) hc dX8_flips_74 rfl ?_
        refine tt_reti hX rfl dX8_flips_75 ?_
        exact h
      · omega
    | cons a r ih =>
      intro i m hr hil hm h
      obtain ⟨ho, hr2⟩ := drop_cons hr
      have lo := (List.getElem?_eq_some_iff.mp ho).1
      have ha := fl_mem (List.mem_of_getElem? ho)
      have hcw := cW_le B a
      rw [flc] at h
      refine tt_il4 (q := 43) hc dX8_flips_41 rfl ?_
      refine tt_il2 (q := 44) hc dX8_flips_43 rfl ?_
      first | (with_reducible refine chk2 ?_; refine tt_icgeN (t := 74) (q := 47) hc (by omega) (by omega) dX8_flips_44 rfl rfl (fun c_44 => ?_) (fun c_44 => ?_)) | refine tt_icge (t := 74) (q := 47) hc dX8_flips_44 rfl rfl (fun c_44 => ?_) (fun c_44 => ?_)
      · omega
      · refine tt_al0 (q := 48) hc dX8_flips_47 rfl ?_
        refine tt_getR (q := 51) hc fl_X8_12 (by first | assumption | exact ⟨by decide, _, rfl, rfl⟩) dX8_flips_48 rfl ?_
        refine tt_al0 (q := 52) hc dX8_flips_51 rfl ?_
        refine tt_getR (q := 55) hc fl_X8_21 (by first | assumption | exact ⟨by decide, _, rfl, rfl⟩) dX8_flips_52 rfl ?_
        refine tt_il4 (q := 57) hc dX8_flips_55 rfl ?_
        refine tt_ialdE (q := 58) hc A1 (by omega) (hv i a ho) dX8_flips_57 rfl ?_
        refine tt_cV1 (q := 61) (d' := 0) (ci := 0) hc (by first | decide | omega) kmX0_holders ml_X8_144 (by first | assumption | exact ⟨by decide, _, rfl⟩) rfl (Nat.le_of_ble_eq_true rfl) dX8_flips_58 rfl ?_
        refine c_X0_holders (j := 0) (by decide) hR ?_
        dsimp only [Option.toList, List.nil_append, List.cons_append]
        refine tt_il1 (q := 62) hc dX8_flips_61 rfl ?_
        first | (with_reducible refine chk2 ?_; refine tt_icneN (t := 68) (q := 65) hc (by omega) (by omega) dX8_flips_62 rfl rfl (fun c_62 => ?_) (fun c_62 => ?_)) | refine tt_icne (t := 68) (q := 65) hc dX8_flips_62 rfl rfl (fun c_62 => ?_) (fun c_62 => ?_)
        · first | refine tt_inc4 (q := 71) hc dX8_flips_68 rfl (by decide) (incN _) ?_ | refine tt_inc4 (q := 71) hc dX8_flips_68 rfl (by decide) rfl ?_
          refine tt_goto (t := 41) hc dX8_flips_71 rfl ?_
          first
          | (rw [if_neg c_62, Nat.zero_add] at h; exact ih (i + 1) m hr2 (by omega) (by omega) h)
          | (rw [if_pos c_62, ← Nat.add_assoc] at h; exact ih (i + 1) (m + 1) hr2 (by omega) (by omega) h)
        · first | refine tt_inc3 (q := 68) hc dX8_flips_65 rfl (by decide) (incN _) ?_ | refine tt_inc3 (q := 68) hc dX8_flips_65 rfl (by decide) rfl ?_
          first | refine tt_inc4 (q := 71) hc dX8_flips_68 rfl (by decide) (incN _) ?_ | refine tt_inc4 (q := 71) hc dX8_flips_68 rfl (by decide) rfl ?_
          refine tt_goto (t := 41) hc dX8_flips_71 rfl ?_
          first
          | (rw [if_neg c_62, Nat.zero_add] at h; exact ih (i + 1) m hr2 (by omega) (by omega) h)
          | (rw [if_pos c_62, ← Nat.add_assoc] at h; exact ih (i + 1) (m + 1) hr2 (by omega) (by omega) h)
  refine tt_il1 (q := 1) hc dX8_flips_0 rfl ?_
  refine tt_iflt (t := 15) (q := 4) hc dX8_flips_1 rfl rfl (fun c_1 => ?_) (fun c_1 => ?_)
  · refine tt_bipush (v := -2) (q := 17) hc (by decide) dX8_flips_15 rfl ?_
    refine tt_reti hX rfl dX8_flips_17 ?_
    first
    | (rw [if_neg (by rw [inB_lo (a := nI 0) c_1]; exact Bool.false_ne_true)] at hQ; exact hQ μ frm.rf hC)
    | (rw [if_neg (by rw [inB_hi (b := nI K) (Int32.not_le.mp c_12)]; exact Bool.false_ne_true)] at hQ; exact hQ μ frm.rf hC)
  · refine tt_il1 (q := 5) hc dX8_flips_4 rfl ?_
    refine tt_al0 (q := 6) hc dX8_flips_5 rfl ?_
    refine tt_getR (q := 9) hc fl_X8_12 (by first | assumption | exact ⟨by decide, _, rfl, rfl⟩) dX8_flips_6 rfl ?_
    refine tt_getI (q := 12) hc fl_X8_81 (by first | assumption | exact ⟨by decide, _, rfl, _, rfl⟩) dX8_flips_9 rfl ?_
    rw [a1.2.1]
    first | (with_reducible refine chk2 ?_; refine tt_icleN (t := 18) (q := 15) hc (by omega) (by omega) dX8_flips_12 rfl rfl (fun c_12 => ?_) (fun c_12 => ?_)) | refine tt_icle (t := 18) (q := 15) hc dX8_flips_12 rfl rfl (fun c_12 => ?_) (fun c_12 => ?_)
    · have hin : inB s (nI 0) (nI K) = true := inB_in c_1 (Int32.not_lt.mpr c_12)
      obtain ⟨n, -, hn5, rfl⟩ := inB_t (by omega) (by decide) hin
      rw [if_pos hin, nI_clamp (by omega)] at hQ
      refine tt_al0 (q := 19) hc dX8_flips_18 rfl ?_
      refine tt_getR (q := 22) hc fl_X8_12 (by first | assumption | exact ⟨by decide, _, rfl, rfl⟩) dX8_flips_19 rfl ?_
      refine tt_al0 (q := 23) hc dX8_flips_22 rfl ?_
      refine tt_getR (q := 26) hc fl_X8_21 (by first | assumption | exact ⟨by decide, _, rfl, rfl⟩) dX8_flips_23 rfl ?_
      refine tt_cV1 (q := 29) (d' := 3) (ci := 0) hc (by first | decide | omega) kmX0_gather ml_X8_176 (by first | assumption | exact ⟨by decide, _, rfl⟩) rfl (Nat.le_of_ble_eq_true rfl) dX8_flips_26 rfl ?_
      refine c_X0_gather (j := 0) (by decide) a1 A1 (by decide) (fun ν hf hv => ?_)
      dsimp only [Option.toList, List.nil_append, List.cons_append]
      refine tt_is2 (q := 30) hc dX8_flips_29 rfl (by decide) ?_
      refine tt_il1 (q := 31) hc dX8_flips_30 rfl ?_
      first | (with_reducible refine chkb ?_; refine tt_ifneB (t := 36) (q := 34) hc dX8_flips_31 rfl rfl (fun c_31 => ?_) (fun c_31 => ?_)) | (with_reducible refine chk1 ?_; refine tt_ifneN (t := 36) (q := 34) hc (by omega) dX8_flips_31 rfl rfl (fun c_31 => ?_) (fun c_31 => ?_)) | refine tt_ifne (t := 36) (q := 34) hc dX8_flips_31 rfl rfl (fun c_31 => ?_) (fun c_31 => ?_)
      · refine tt_iconst (v := nI 0) (q := 37) hc rfl dX8_flips_36 rfl ?_
        refine tt_is3 (q := 38) hc dX8_flips_37 rfl (by decide) ?_
        refine tt_iconst (v := nI 0) (q := 39) hc rfl dX8_flips_38 rfl ?_
        refine tt_is4 (q := 41) hc dX8_flips_39 rfl (by decide) ?_
        rw [if_neg (show ¬ nI n = nI 0 from nI_ne0 c_31 (by omega))] at hQ
        exact L ν n (by omega) (a1.frm hf (by decide) (by decide)) hv (fl K B) 0 0 List.drop_zero (Nat.zero_le _) (Nat.le_refl _) (by rw [Nat.zero_add]; exact hQ ν (hf.cl (by decide)) (hC.wk hf (by decide)))
      · refine tt_il2 (q := 35) hc dX8_flips_34 rfl ?_
        refine tt_reti hX rfl dX8_flips_35 ?_
        rw [if_pos (by rw [c_31])] at hQ
        exact hQ ν (hf.cl (by decide)) (hC.wk hf (by decide))
    · refine tt_bipush (v := -2) (q := 17) hc (by decide) dX8_flips_15 rfl ?_
      refine tt_reti hX rfl dX8_flips_17 ?_
      first
      | (rw [if_neg (by rw [inB_lo (a := nI 0) c_1]; exact Bool.false_ne_true)] at hQ; exact hQ μ frm.rf hC)
      | (rw [if_neg (by rw [inB_hi (b := nI K) (Int32.not_le.mp c_12)]; exact Bool.false_ne_true)] at hQ; exact hQ μ frm.rf hC)
def an_flipOf (i w : Int32) (S : ST) : Int32 := match S with
  | (K, B, _) => match lx (fl K B) i with
    | none => -1
    | some a => if w = nI 0 then nI a else if w = nI 1 then nI (prt K B a) else if w = nI 2 then nI (cW B a) else -1
set_option maxHeartbeats 8000000 in
theorem c_X8_flipOf {l : Launch} {i w : Int32} {S : ST} {μ : Mem} {Q : Option Value → Mem → Prop} (hC : CR μ S) (hQ : ∀ μ', frm cL μ μ' → CR μ' S → Q (some (.int (an_flipOf i w S))) μ') : CC l 4 mX8_flipOf [.ref 0, .int i, .int w] μ Q := by
  refine CC.of (M := mX8_flipOf) (by decide +kernel) rfl (fun v h => by simp at h; rcases h with rfl | rfl | rfl <;> rfl) (Nat.le_of_ble_eq_true rfl) (fun X hX => ?_)
  have hc := hX.cx
  obtain ⟨K, B, hs, ks, im, ls, tx, pp⟩ := S
  have a1 := hC.1
  have hfl := fl_len K B
  have A1 := HA1
  rw [an_flipOf] at hQ
  have SW : ∀ (ν : Mem) (n a : Nat), n < (fl K B).length → (fl K B)[n]? = some a → ν 1 n = nI a → RC ν 0 K B → Q (some (.int (if w = nI 0 then nI a else if w = nI 1 then nI (prt K B a) else if w = nI 2 then nI (cW B a) else -1))) ν → TT X 24 [.ref 0, .int (nI n), .int w, .int (nI (fl K B).length)] [.int w] ν := by
    intro ν n a hn ha hv hR h
    have hm := fl_mem (List.mem_of_getElem? ha)
    rcases sw_n w 3 (by decide) with ⟨j, hj, rfl⟩ | hout
    · rcases (show j = 0 ∨ j = 1 ∨ j = 2 by omega) with rfl | rfl | rfl
      · refine tt_tswI (t := 52) hc dX8_flipOf_24 (by decide) (by decide) rfl rfl ?_
        refine tt_al0 (q := 53) hc dX8_flipOf_52 rfl ?_
        refine tt_getR (q := 56) hc fl_X8_21 (by first | assumption | exact ⟨by decide, _, rfl, rfl⟩) dX8_flipOf_53 rfl ?_
        refine tt_il1 (q := 57) hc dX8_flipOf_56 rfl ?_
        refine tt_ialdE (q := 58) hc A1 (by omega) hv dX8_flipOf_57 rfl ?_
        refine tt_reti hX rfl dX8_flipOf_58 ?_
        exact h
      · refine tt_tswI (t := 59) hc dX8_flipOf_24 (by decide) (by decide) rfl rfl ?_
        refine tt_al0 (q := 60) hc dX8_flipOf_59 rfl ?_
        refine tt_getR (q := 63) hc fl_X8_12 (by first | assumption | exact ⟨by decide, _, rfl, rfl⟩) dX8_flipOf_60 rfl ?_
        refine tt_al0 (q := 64) hc dX8_flipOf_63 rfl ?_
        refine tt_getR (q := 67) hc fl_X8_21 (by first | assumption | exact ⟨by decide, _, rfl, rfl⟩) dX8_flipOf_64 rfl ?_
        refine tt_il1 (q := 68) hc dX8_flipOf_67 rfl ?_
        refine tt_ialdE (q := 69) hc A1 (by omega) hv dX8_flipOf_68 rfl ?_
        refine tt_cV1 (q := 72) (d' := 2) (ci := 0) hc (by first | decide | omega) kmX0_partner ml_X8_180 (by first | assumption | exact ⟨by decide, _, rfl⟩) rfl (Nat.le_of_ble_eq_true rfl) dX8_flipOf_69 rfl ?_
        refine c_X0_partner (j := 0) (by decide) hR ?_
        dsimp only [Option.toList, List.nil_append, List.cons_append]
        refine tt_reti hX rfl dX8_flipOf_72 ?_
        exact h
      · refine tt_tswI (t := 73) hc dX8_flipOf_24 (by decide) (by decide) rfl rfl ?_
        refine tt_al0 (q := 74) hc dX8_flipOf_73 rfl ?_
        refine tt_getR (q := 77) hc fl_X8_12 (by first | assumption | exact ⟨by decide, _, rfl, rfl⟩) dX8_flipOf_74 rfl ?_
        refine tt_al0 (q := 78) hc dX8_flipOf_77 rfl ?_
        refine tt_getR (q := 81) hc fl_X8_21 (by first | assumption | exact ⟨by decide, _, rfl, rfl⟩) dX8_flipOf_78 rfl ?_
        refine tt_il1 (q := 82) hc dX8_flipOf_81 rfl ?_
        refine tt_ialdE (q := 83) hc A1 (by omega) hv dX8_flipOf_82 rfl ?_
        refine tt_cV1 (q := 86) (d' := 0) (ci := 0) hc (by first | decide | omega) kmX0_holders ml_X8_144 (by first | assumption | exact ⟨by decide, _, rfl⟩) rfl (Nat.le_of_ble_eq_true rfl) dX8_flipOf_83 rfl ?_
        refine c_X0_holders (j := 0) (by decide) hR ?_
        dsimp only [Option.toList, List.nil_append, List.cons_append]
        refine tt_reti hX rfl dX8_flipOf_86 ?_
        exact h
    · refine tt_tswO (t := 87) hc dX8_flipOf_24 hout rfl ?_
      refine tt_iconst (v := -1) (q := 88) hc rfl dX8_flipOf_87 rfl ?_
      refine tt_reti hX rfl dX8_flipOf_88 ?_
      rw [if_neg (nI_neq (by omega) (by decide) hout), if_neg (nI_neq (by omega) (by decide) hout), if_neg (nI_neq (by omega) (by decide) hout)] at h
      exact h
  refine tt_al0 (q := 1) hc dX8_flipOf_0 rfl ?_
  refine tt_getR (q := 4) hc fl_X8_12 (by first | assumption | exact ⟨by decide, _, rfl, rfl⟩) dX8_flipOf_1 rfl ?_
  refine tt_al0 (q := 5) hc dX8_flipOf_4 rfl ?_
  refine tt_getR (q := 8) hc fl_X8_21 (by first | assumption | exact ⟨by decide, _, rfl, rfl⟩) dX8_flipOf_5 rfl ?_
  refine tt_cV1 (q := 11) (d' := 3) (ci := 0) hc (by first | decide | omega) kmX0_gather ml_X8_176 (by first | assumption | exact ⟨by decide, _, rfl⟩) rfl (Nat.le_of_ble_eq_true rfl) dX8_flipOf_8 rfl ?_
  refine c_X0_gather (j := 0) (by decide) a1 A1 (by decide) (fun ν hf hv => ?_)
  have hq := hQ ν (hf.cl (by decide)) (hC.wk hf (by decide))
  dsimp only [Option.toList, List.nil_append, List.cons_append]
  refine tt_is3 (q := 12) hc dX8_flipOf_11 rfl (by decide) ?_
  refine tt_il1 (q := 13) hc dX8_flipOf_12 rfl ?_
  refine tt_iflt (t := 21) (q := 16) hc dX8_flipOf_13 rfl rfl (fun c_13 => ?_) (fun c_13 => ?_)
  · refine tt_iconst (v := -1) (q := 22) hc rfl dX8_flipOf_21 rfl ?_
    refine tt_reti hX rfl dX8_flipOf_22 ?_
    first
    | (rw [lx_lo c_13] at hq; exact hq)
    | (rw [lx_hi (by omega) c_13 (Int32.not_lt.mp c_18)] at hq; exact hq)
  · refine tt_il1 (q := 17) hc dX8_flipOf_16 rfl ?_
    refine tt_il3 (q := 18) hc dX8_flipOf_17 rfl ?_
    first | (with_reducible refine chk2 ?_; refine tt_icltN (t := 23) (q := 21) hc (by omega) (by omega) dX8_flipOf_18 rfl rfl (fun c_18 => ?_) (fun c_18 => ?_)) | refine tt_iclt (t := 23) (q := 21) hc dX8_flipOf_18 rfl rfl (fun c_18 => ?_) (fun c_18 => ?_)
    · refine tt_il2 (q := 24) hc dX8_flipOf_23 rfl ?_
      obtain ⟨n, a, rfl, hn, ha, hlx⟩ := lx_in (by omega) c_13 c_18
      rw [hlx] at hq
      exact SW ν n a hn ha (hv n a ha) (a1.frm hf (by decide) (by decide)) hq
    · refine tt_iconst (v := -1) (q := 22) hc rfl dX8_flipOf_21 rfl ?_
      refine tt_reti hX rfl dX8_flipOf_22 ?_
      first
      | (rw [lx_lo c_13] at hq; exact hq)
      | (rw [lx_hi (by omega) c_13 (Int32.not_lt.mp c_18)] at hq; exact hq)
def an_number (a : Int32) (S : ST) : Int32 := match S with
  | (K, B, _) => if inB a (nI 1) (nI 255) = true then onI (num K B a.toNatClampNeg) else -1
set_option maxHeartbeats 4000000 in
theorem c_X8_number {l : Launch} {a : Int32} {S : ST} {μ : Mem} {Q : Option Value → Mem → Prop} (hC : CR μ S) (hQ : ∀ μ', frm cL μ μ' → CR μ' S → Q (some (.int (an_number a S))) μ') : CC l 4 mX8_number [.ref 0, .int a] μ Q := by
  refine CC.of (M := mX8_number) (by decide +kernel) rfl (fun v h => by simp at h; rcases h with rfl | rfl <;> rfl) (Nat.le_of_ble_eq_true rfl) (fun X hX => ?_)
  have hc := hX.cx
  obtain ⟨K, B, hs, ks, im, ls, tx, pp⟩ := S
  have a1 := hC.1
  have h := hQ μ frm.rf hC
  rw [an_number] at h
  refine tt_il1 (q := 1) hc dX8_number_0 rfl ?_
  refine tt_cS1 (q := 4) (d' := 0) hc (by first | decide | omega) kmX8_isSet ml_X8_140 (Nat.le_of_ble_eq_true rfl) dX8_number_1 rfl ?_
  refine c_X8_isSet ?_
  dsimp only [Option.toList, List.nil_append, List.cons_append]
  first | (with_reducible refine chkb ?_; refine tt_ifneB (t := 9) (q := 7) hc dX8_number_4 rfl rfl (fun c_4 => ?_) (fun c_4 => ?_)) | (with_reducible refine chk1 ?_; refine tt_ifneN (t := 9) (q := 7) hc (by omega) dX8_number_4 rfl rfl (fun c_4 => ?_) (fun c_4 => ?_)) | refine tt_ifne (t := 9) (q := 7) hc dX8_number_4 rfl rfl (fun c_4 => ?_) (fun c_4 => ?_)
  · rw [if_pos c_4] at h
    obtain ⟨n, hn1, hn5, rfl⟩ := inB_t (by decide) (by decide) c_4
    rw [nI_clamp (by omega)] at h
    refine tt_al0 (q := 10) hc dX8_number_9 rfl ?_
    refine tt_getR (q := 13) hc fl_X8_12 (by first | assumption | exact ⟨by decide, _, rfl, rfl⟩) dX8_number_10 rfl ?_
    refine tt_il1 (q := 14) hc dX8_number_13 rfl ?_
    refine tt_cV1 (q := 17) (d' := 3) (ci := 0) hc (by first | decide | omega) kmX0_numberOf ml_X8_183 (by first | assumption | exact ⟨by decide, _, rfl⟩) rfl (Nat.le_of_ble_eq_true rfl) dX8_number_14 rfl ?_
    refine c_X0_numberOf (j := 0) (by decide) a1 (by omega) ?_
    dsimp only [Option.toList, List.nil_append, List.cons_append]
    refine tt_reti hX rfl dX8_number_17 ?_
    exact h
  · refine tt_iconst (v := -1) (q := 8) hc rfl dX8_number_7 rfl ?_
    refine tt_reti hX rfl dX8_number_8 ?_
    rw [if_neg (by rw [c_4]; exact Bool.false_ne_true)] at h
    exact h
def sp_flip (i : Int32) (S : ST) : Int32 × ST := match S with
  | (K, B, hs, ks, im, ls, tx, pp) => match lx (fl K B) i with
    | none => (-1, S)
    | some a => (nI (tot (flp K B a)), (K, flp K B a, nt B hs, ks, im, ls, tx, pp))
set_option maxHeartbeats 4000000 in
theorem c_X8_flip {l : Launch} {i : Int32} {S : ST} {μ : Mem} {Q : Option Value → Mem → Prop} (hC : CR μ S) (hQ : ∀ μ', frm cO μ μ' → CR μ' (sp_flip i S).2 → Q (some (.int (sp_flip i S).1)) μ') : CC l 4 mX8_flip [.ref 0, .int i] μ Q := by
  refine CC.of (M := mX8_flip) (by decide +kernel) rfl (fun v h => by simp at h; rcases h with rfl | rfl <;> rfl) (Nat.le_of_ble_eq_true rfl) (fun X hX => ?_)
  have hc := hX.cx
  obtain ⟨K, B, hs, ks, im, ls, tx, pp⟩ := S
  have a1 := hC.1
  have a2 := hC.2.1
  have hfl := fl_len K B
  have A1 := HA1
  rw [sp_flip] at hQ
  refine tt_al0 (q := 1) hc dX8_flip_0 rfl ?_
  refine tt_getR (q := 4) hc fl_X8_12 (by first | assumption | exact ⟨by decide, _, rfl, rfl⟩) dX8_flip_1 rfl ?_
  refine tt_al0 (q := 5) hc dX8_flip_4 rfl ?_
  refine tt_getR (q := 8) hc fl_X8_21 (by first | assumption | exact ⟨by decide, _, rfl, rfl⟩) dX8_flip_5 rfl ?_
  refine tt_cV1 (q := 11) (d' := 3) (ci := 0) hc (by first | decide | omega) kmX0_gather ml_X8_176 (by first | assumption | exact ⟨by decide, _, rfl⟩) rfl (Nat.le_of_ble_eq_true rfl) dX8_flip_8 rfl ?_
  refine c_X0_gather (j := 0) (by decide) a1 A1 (by decide) (fun ν hf hv => ?_)
  have hCν := hC.wk hf (by decide)
  dsimp only [Option.toList, List.nil_append, List.cons_append]
  refine tt_is2 (q := 12) hc dX8_flip_11 rfl (by decide) ?_
  refine tt_il1 (q := 13) hc dX8_flip_12 rfl ?_
  refine tt_iflt (t := 21) (q := 16) hc dX8_flip_13 rfl rfl (fun c_13 => ?_) (fun c_13 => ?_)
  · refine tt_iconst (v := -1) (q := 22) hc rfl dX8_flip_21 rfl ?_
    refine tt_reti hX rfl dX8_flip_22 ?_
    first
    | (rw [lx_lo c_13] at hQ; exact hQ ν (hf.co (by decide)) hCν)
    | (rw [lx_hi (by omega) c_13 (Int32.not_lt.mp c_18)] at hQ; exact hQ ν (hf.co (by decide)) hCν)
  · refine tt_il1 (q := 17) hc dX8_flip_16 rfl ?_
    refine tt_il2 (q := 18) hc dX8_flip_17 rfl ?_
    first | (with_reducible refine chk2 ?_; refine tt_icltN (t := 23) (q := 21) hc (by omega) (by omega) dX8_flip_18 rfl rfl (fun c_18 => ?_) (fun c_18 => ?_)) | refine tt_iclt (t := 23) (q := 21) hc dX8_flip_18 rfl rfl (fun c_18 => ?_) (fun c_18 => ?_)
    · obtain ⟨n, a, rfl, hn, ha, hlx⟩ := lx_in (by omega) c_13 c_18
      rw [hlx] at hQ
      have hm := fl_mem (List.mem_of_getElem? ha)
      refine tt_al0 (q := 24) hc dX8_flip_23 rfl ?_
      refine tt_getR (q := 27) hc fl_X8_28 (by first | assumption | exact ⟨by decide, _, rfl, rfl⟩) dX8_flip_24 rfl ?_
      refine tt_al0 (q := 28) hc dX8_flip_27 rfl ?_
      refine tt_getR (q := 31) hc fl_X8_12 (by first | assumption | exact ⟨by decide, _, rfl, rfl⟩) dX8_flip_28 rfl ?_
      refine tt_cV1 (q := 34) (d' := 2) (ci := 2) hc (by first | decide | omega) kmX2_note ml_X8_92 (by first | assumption | exact ⟨by decide, _, rfl⟩) rfl (Nat.le_of_ble_eq_true rfl) dX8_flip_31 rfl ?_
      refine c_X2_note hCν.1 hCν.2.1 (fun ν1 hf1 hP => ?_)
      have hv1 : ν1 1 n = nI a := by rw [hf1 1 (by decide)]; exact hv n a ha
      dsimp only [Option.toList, List.nil_append, List.cons_append]
      refine tt_al0 (q := 35) hc dX8_flip_34 rfl ?_
      refine tt_getR (q := 38) hc fl_X8_12 (by first | assumption | exact ⟨by decide, _, rfl, rfl⟩) dX8_flip_35 rfl ?_
      refine tt_al0 (q := 39) hc dX8_flip_38 rfl ?_
      refine tt_getR (q := 42) hc fl_X8_21 (by first | assumption | exact ⟨by decide, _, rfl, rfl⟩) dX8_flip_39 rfl ?_
      refine tt_il1 (q := 43) hc dX8_flip_42 rfl ?_
      refine tt_ialdE (q := 44) hc A1 (by omega) hv1 dX8_flip_43 rfl ?_
      refine tt_cV1 (q := 47) (d' := 3) (ci := 0) hc (by first | decide | omega) kmX0_flipAt ml_X8_186 (by first | assumption | exact ⟨by decide, _, rfl⟩) rfl (Nat.le_of_ble_eq_true rfl) dX8_flip_44 rfl ?_
      refine c_X0_flipAt (j := 0) (by decide) (hCν.1.frm hf1 (by decide) (by decide)) (fun ν2 hf2 hR2 => ?_)
      dsimp only [Option.toList, List.nil_append, List.cons_append]
      refine tt_al0 (q := 48) hc dX8_flip_47 rfl ?_
      refine tt_getR (q := 51) hc fl_X8_12 (by first | assumption | exact ⟨by decide, _, rfl, rfl⟩) dX8_flip_48 rfl ?_
      refine tt_cV0 (q := 54) (d' := 0) (ci := 0) hc (by first | decide | omega) kmX0_total ml_X8_99 (by first | assumption | exact ⟨by decide, _, rfl⟩) rfl (Nat.le_of_ble_eq_true rfl) dX8_flip_51 rfl ?_
      refine c_X0_total (j := 0) (by decide) hR2 ?_
      dsimp only [Option.toList, List.nil_append, List.cons_append]
      refine tt_reti hX rfl dX8_flip_54 ?_
      exact hQ ν2 ((hf.co (by decide)).tr ((hf1.co (by decide)).tr (hf2.co (by decide)))) (hCν.step hf1 hP (hf2.mono (by decide)) hR2)
    · refine tt_iconst (v := -1) (q := 22) hc rfl dX8_flip_21 rfl ?_
      refine tt_reti hX rfl dX8_flip_22 ?_
      first
      | (rw [lx_lo c_13] at hQ; exact hQ ν (hf.co (by decide)) hCν)
      | (rw [lx_hi (by omega) c_13 (Int32.not_lt.mp c_18)] at hQ; exact hQ ν (hf.co (by decide)) hCν)
def an_other (a : Int32) (S : ST) : Int32 := match S with
  | (K, B, _) => if inB a (nI 1) (nI 255) = true then (if prt K B a.toNatClampNeg = 0 then -5 else if prt K (flp K B a.toNatClampNeg) (prt K B a.toNatClampNeg) = a.toNatClampNeg then onI (num K (flp K B a.toNatClampNeg) (prt K B a.toNatClampNeg)) else -5) else -1
set_option maxHeartbeats 4000000 in
theorem c_X8_other {l : Launch} {a : Int32} {S : ST} {μ : Mem} {Q : Option Value → Mem → Prop} (hC : CR μ S) (hQ : ∀ μ', frm cL μ μ' → CR μ' S → Q (some (.int (an_other a S))) μ') : CC l 4 mX8_other [.ref 0, .int a] μ Q := by
  refine CC.of (M := mX8_other) (by decide +kernel) rfl (fun v h => by simp at h; rcases h with rfl | rfl <;> rfl) (Nat.le_of_ble_eq_true rfl) (fun X hX => ?_)
  have hc := hX.cx
  obtain ⟨K, B, hs, ks, im, ls, tx, pp⟩ := S
  have a1 := hC.1
  rw [an_other] at hQ
  refine tt_il1 (q := 1) hc dX8_other_0 rfl ?_
  refine tt_cS1 (q := 4) (d' := 0) hc (by first | decide | omega) kmX8_isSet ml_X8_140 (Nat.le_of_ble_eq_true rfl) dX8_other_1 rfl ?_
  refine c_X8_isSet ?_
  dsimp only [Option.toList, List.nil_append, List.cons_append]
  first | (with_reducible refine chkb ?_; refine tt_ifneB (t := 9) (q := 7) hc dX8_other_4 rfl rfl (fun c_4 => ?_) (fun c_4 => ?_)) | (with_reducible refine chk1 ?_; refine tt_ifneN (t := 9) (q := 7) hc (by omega) dX8_other_4 rfl rfl (fun c_4 => ?_) (fun c_4 => ?_)) | refine tt_ifne (t := 9) (q := 7) hc dX8_other_4 rfl rfl (fun c_4 => ?_) (fun c_4 => ?_)
  · rw [if_pos c_4] at hQ
    obtain ⟨n, hn1, hn5, rfl⟩ := inB_t (by decide) (by decide) c_4
    rw [nI_clamp (by omega)] at hQ
    have hl := prt_lt K B n
    refine tt_al0 (q := 10) hc dX8_other_9 rfl ?_
    refine tt_getR (q := 13) hc fl_X8_12 (by first | assumption | exact ⟨by decide, _, rfl, rfl⟩) dX8_other_10 rfl ?_
    refine tt_il1 (q := 14) hc dX8_other_13 rfl ?_
    refine tt_cV1 (q := 17) (d' := 2) (ci := 0) hc (by first | decide | omega) kmX0_partner ml_X8_180 (by first | assumption | exact ⟨by decide, _, rfl⟩) rfl (Nat.le_of_ble_eq_true rfl) dX8_other_14 rfl ?_
    refine c_X0_partner (j := 0) (by decide) a1 ?_
    dsimp only [Option.toList, List.nil_append, List.cons_append]
    refine tt_is2 (q := 18) hc dX8_other_17 rfl (by decide) ?_
    refine tt_il2 (q := 19) hc dX8_other_18 rfl ?_
    first | (with_reducible refine chkb ?_; refine tt_ifneB (t := 25) (q := 22) hc dX8_other_19 rfl rfl (fun c_19 => ?_) (fun c_19 => ?_)) | (with_reducible refine chk1 ?_; refine tt_ifneN (t := 25) (q := 22) hc (by omega) dX8_other_19 rfl rfl (fun c_19 => ?_) (fun c_19 => ?_)) | refine tt_ifne (t := 25) (q := 22) hc dX8_other_19 rfl rfl (fun c_19 => ?_) (fun c_19 => ?_)
    · refine tt_al0 (q := 26) hc dX8_other_25 rfl ?_
      refine tt_getR (q := 29) hc fl_X8_18 (by first | assumption | exact ⟨by decide, _, rfl, rfl⟩) dX8_other_26 rfl ?_
      refine tt_al0 (q := 30) hc dX8_other_29 rfl ?_
      refine tt_getR (q := 33) hc fl_X8_12 (by first | assumption | exact ⟨by decide, _, rfl, rfl⟩) dX8_other_30 rfl ?_
      refine tt_cV1 (q := 36) (d' := 1) (ci := 0) hc (by first | decide | omega) kmX0_copyOf ml_X8_170 (by first | assumption | exact ⟨by decide, _, rfl⟩) rfl (Nat.le_of_ble_eq_true rfl) dX8_other_33 rfl ?_
      refine c_X0_copyOf (j := 1) (j2 := 0) (by decide) (by decide) (by decide) a1 (fun ν hf hT => ?_)
      dsimp only [Option.toList, List.nil_append, List.cons_append]
      refine tt_al0 (q := 37) hc dX8_other_36 rfl ?_
      refine tt_getR (q := 40) hc fl_X8_18 (by first | assumption | exact ⟨by decide, _, rfl, rfl⟩) dX8_other_37 rfl ?_
      refine tt_il1 (q := 41) hc dX8_other_40 rfl ?_
      refine tt_cV1 (q := 44) (d' := 3) (ci := 0) hc (by first | decide | omega) kmX0_flipAt ml_X8_186 (by first | assumption | exact ⟨by decide, _, rfl⟩) rfl (Nat.le_of_ble_eq_true rfl) dX8_other_41 rfl ?_
      refine c_X0_flipAt (j := 1) (by decide) hT (fun ν1 hf1 hT1 => ?_)
      have hq := hQ ν1 ((hf.cl (by decide)).tr (hf1.cl (by decide))) ((hC.wk hf (by decide)).wk hf1 (by decide))
      rw [if_neg (by omega)] at hq
      have hl2 := prt_lt K (flp K B n) (prt K B n)
      dsimp only [Option.toList, List.nil_append, List.cons_append]
      refine tt_al0 (q := 45) hc dX8_other_44 rfl ?_
      refine tt_getR (q := 48) hc fl_X8_18 (by first | assumption | exact ⟨by decide, _, rfl, rfl⟩) dX8_other_45 rfl ?_
      refine tt_il2 (q := 49) hc dX8_other_48 rfl ?_
      refine tt_cV1 (q := 52) (d' := 2) (ci := 0) hc (by first | decide | omega) kmX0_partner ml_X8_180 (by first | assumption | exact ⟨by decide, _, rfl⟩) rfl (Nat.le_of_ble_eq_true rfl) dX8_other_49 rfl ?_
      refine c_X0_partner (j := 1) (by decide) hT1 ?_
      dsimp only [Option.toList, List.nil_append, List.cons_append]
      refine tt_il1 (q := 53) hc dX8_other_52 rfl ?_
      first | (with_reducible refine chk2 ?_; refine tt_icneN (t := 67) (q := 56) hc (by omega) (by omega) dX8_other_53 rfl rfl (fun c_53 => ?_) (fun c_53 => ?_)) | refine tt_icne (t := 67) (q := 56) hc dX8_other_53 rfl rfl (fun c_53 => ?_) (fun c_53 => ?_)
      · refine tt_bipush (v := -5) (q := 69) hc (by decide) dX8_other_67 rfl ?_
        refine tt_reti hX rfl dX8_other_69 ?_
        first
        | (rw [if_neg c_53] at hq; exact hq)
        | (rw [if_pos c_53] at hq; exact hq)
      · refine tt_al0 (q := 57) hc dX8_other_56 rfl ?_
        refine tt_getR (q := 60) hc fl_X8_18 (by first | assumption | exact ⟨by decide, _, rfl, rfl⟩) dX8_other_57 rfl ?_
        refine tt_il2 (q := 61) hc dX8_other_60 rfl ?_
        refine tt_cV1 (q := 64) (d' := 3) (ci := 0) hc (by first | decide | omega) kmX0_numberOf ml_X8_183 (by first | assumption | exact ⟨by decide, _, rfl⟩) rfl (Nat.le_of_ble_eq_true rfl) dX8_other_61 rfl ?_
        refine c_X0_numberOf (j := 1) (by decide) hT1 (by omega) ?_
        dsimp only [Option.toList, List.nil_append, List.cons_append]
        refine tt_goto (t := 69) hc dX8_other_64 rfl ?_
        refine tt_reti hX rfl dX8_other_69 ?_
        first
        | (rw [if_neg c_53] at hq; exact hq)
        | (rw [if_pos c_53] at hq; exact hq)
    · refine tt_bipush (v := -5) (q := 24) hc (by decide) dX8_other_22 rfl ?_
      refine tt_reti hX rfl dX8_other_24 ?_
      rw [if_pos c_19] at hQ
      exact hQ μ frm.rf hC
  · refine tt_iconst (v := -1) (q := 8) hc rfl dX8_other_7 rfl ?_
    refine tt_reti hX rfl dX8_other_8 ?_
    rw [if_neg (by rw [c_4]; exact Bool.false_ne_true)] at hQ
    exact hQ μ frm.rf hC
