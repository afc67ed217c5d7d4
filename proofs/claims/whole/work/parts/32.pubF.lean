/-! THE CLASS: the paper, the lists, counts -/
def wrt (pp : List Nat) (b : Nat) : List Nat := if pp.length < 349 then pp ++ [b] else pp
theorem HA23 : HA 23 2 349 := ⟨by decide, rfl, by decide⟩
theorem im_cp {μ μ' : Mem} {im : Option (Nat × HP × List (Nat × HP))} {ks : List (Nat × HP)} {l : List Nat} (h : IMc μ im ks) (hf : frm l μ μ') (h1 : 44 ∉ l) (h2 : 45 ∉ l) (e6 : μ' 0 6 = μ 0 6) (e7 : μ' 0 7 = μ 0 7) : IMc μ' im ks := by
  match im, h with
  | none, h => exact e7.trans h
  | some (K, B, k'), h => exact ⟨e7.trans h.1, h.2.1.frm hf h1 h2, e6.trans h.2.2.1, h.2.2.2⟩
theorem CR.pp {μ μ' : Mem} {K : Nat} {B : HP} {hs : List HP} {ks : List (Nat × HP)} {im : Option (Nat × HP × List (Nat × HP))} {ls : Nat → Option (List Int32)} {tx pp pp' : List Nat} (h : CR μ (K, B, hs, ks, im, ls, tx, pp)) (hf : frm [0, 23] μ μ') (e6 : μ' 0 6 = μ 0 6) (e7 : μ' 0 7 = μ 0 7) (h' : PPc μ' pp') : CR μ' (K, B, hs, ks, im, ls, tx, pp') := by
  obtain ⟨a1, a2, a3, a4, a5, a6, a7⟩ := h
  exact ⟨a1.frm hf (by decide) (by decide), a2.frm hf (by decide), a3.frm hf (by decide), im_cp a4 hf (by decide) (by decide) e6 e7, a5.frm hf (by decide) (by decide), a6.frm hf (by decide) (by decide), h'⟩
theorem wrt_len {pp : List Nat} {b : Nat} (h : pp.length ≤ 349) : (wrt pp b).length ≤ 349 := by
  unfold wrt
  split
  · rw [List.length_append, List.length_singleton]
    omega
  · exact h
theorem ppc_more {μ ν : Mem} {pp : List Nat} {b : Nat} (h : PPc μ pp) (hl : pp.length < 349) (e1 : ν 0 14 = nI (pp.length + 1)) (e2 : ν 23 = upd (μ 23) pp.length (nI b)) : PPc ν (pp ++ [b]) := by
  refine ⟨?_, ?_, fun i x hx => ?_⟩
  · rw [List.length_append, List.length_singleton]
    omega
  · rw [List.length_append, List.length_singleton]
    exact e1
  · rw [e2]
    by_cases e : i < pp.length
    · rw [List.getElem?_append_left e] at hx
      rw [pk_un (by omega)]
      exact h.2.2 i x hx
    · have hl := (List.getElem?_eq_some_iff.mp hx).1
      rw [List.length_append, List.length_singleton] at hl
      have e2 : i = pp.length := by omega
      subst e2
      rw [List.getElem?_append_right (Nat.le_refl _), Nat.sub_self] at hx
      simp only [List.getElem?_cons_zero, Option.some.injEq] at hx
      rw [pk_us, hx]
set_option maxHeartbeats 8000000 in
theorem c_X8_write {l : Launch} {b : Nat} {K : Nat} {B : HP} {hs : List HP} {ks : List (Nat × HP)} {im : Option (Nat × HP × List (Nat × HP))} {ls : Nat → Option (List Int32)} {tx pp : List Nat} {μ : Mem} {Q : Option Value → Mem → Prop} (hb : b < 128) (hC : CR μ (K, B, hs, ks, im, ls, tx, pp)) (hQ : ∀ μ', frm [0, 23] μ μ' → CR μ' (K, B, hs, ks, im, ls, tx, wrt pp b) → Q none μ') : CC l 0 mX8_write [.ref 0, .int (nI b)] μ Q := by
  refine CC.of (M := mX8_write) (by decide +kernel) rfl (fun v h => by simp at h; rcases h with rfl | rfl <;> rfl) (Nat.le_of_ble_eq_true rfl) (fun X hX => ?_)
  have hc := hX.cx
  obtain ⟨p1, p2, p3⟩ := id hC.2.2.2.2.2.2
  have a23 := HA23
  have hbb := byt b hb
  rw [wrt] at hQ
  refine tt_al0 (q := 1) hc dX8_write_0 rfl ?_
  refine tt_getI (q := 4) hc fl_X8_252 (by first | assumption | exact ⟨by decide, _, rfl, _, rfl⟩) dX8_write_1 rfl ?_
  rw [p2]
  refine tt_sipush (v := nI 349) (q := 7) hc (by decide) dX8_write_4 rfl ?_
  first | (with_reducible refine chk2 ?_; refine tt_icgeN (t := 31) (q := 10) hc (by omega) (by omega) dX8_write_7 rfl rfl (fun c_7 => ?_) (fun c_7 => ?_)) | refine tt_icge (t := 31) (q := 10) hc dX8_write_7 rfl rfl (fun c_7 => ?_) (fun c_7 => ?_)
  · refine tt_retv hX rfl dX8_write_31 ?_
    first
    | (rw [if_pos c_7] at hQ; exact hQ _ ((frm.set (i := 23)).mono (by simp) |>.tr ((frm.set (i := 0)).mono (by simp))) (hC.pp ((frm.set (i := 23)).mono (by simp) |>.tr ((frm.set (i := 0)).mono (by simp))) rfl rfl (ppc_more hC.2.2.2.2.2.2 c_7 rfl rfl)))
    | (rw [if_neg (by omega)] at hQ; exact hQ μ frm.rf hC)
  · refine tt_al0 (q := 11) hc dX8_write_10 rfl ?_
    refine tt_getR (q := 14) hc fl_X8_77 (by first | assumption | exact ⟨by decide, _, rfl, rfl⟩) dX8_write_11 rfl ?_
    refine tt_al0 (q := 15) hc dX8_write_14 rfl ?_
    refine tt_getI (q := 18) hc fl_X8_252 (by first | assumption | exact ⟨by decide, _, rfl, _, rfl⟩) dX8_write_15 rfl ?_
    rw [p2]
    refine tt_il1 (q := 19) hc dX8_write_18 rfl ?_
    refine tt_i2b (q := 20) hc hbb dX8_write_19 rfl ?_
    refine tt_bast (q := 21) hc (by first | assumption | exact ⟨by decide, rfl, by decide⟩) (by omega) (by assumption) dX8_write_20 rfl ?_
    refine tt_al0 (q := 22) hc dX8_write_21 rfl ?_
    refine tt_dup (q := 23) hc rfl dX8_write_22 rfl ?_
    refine tt_getI (q := 26) hc fl_X8_252 (by first | assumption | exact ⟨by decide, _, rfl, _, rfl⟩) dX8_write_23 rfl ?_
    rw [mset_ne (by decide), p2]
    refine tt_iconst (v := nI 1) (q := 27) hc rfl dX8_write_26 rfl ?_
    first | (with_reducible refine chk2 ?_; refine tt_iaddN (q := 28) hc dX8_write_27 rfl ?_) | refine tt_iadd (q := 28) hc dX8_write_27 rfl ?_
    refine tt_putI (q := 31) hc fp_X8_252 (by first | assumption | exact ⟨by decide, _, rfl, _, rfl⟩) dX8_write_28 rfl ?_
    refine tt_retv hX rfl dX8_write_31 ?_
    first
    | (rw [if_pos c_7] at hQ; exact hQ _ ((frm.set (i := 23)).mono (by simp) |>.tr ((frm.set (i := 0)).mono (by simp))) (hC.pp ((frm.set (i := 23)).mono (by simp) |>.tr ((frm.set (i := 0)).mono (by simp))) rfl rfl (ppc_more hC.2.2.2.2.2.2 c_7 rfl rfl)))
    | (rw [if_neg (by omega)] at hQ; exact hQ μ frm.rf hC)
theorem nI_b1 {x : Nat} : nI (x &&& 1) = nI 1 ↔ x &&& 1 = 1 := nI_eq (Nat.lt_of_le_of_lt Nat.and_le_right (by decide)) (by decide)
def wps (s : Nat) : Nat → Nat → List Nat → List Nat
  | 0, _, pp => pp
  | n + 1, p, pp => wps s n (p + 1) (if s / 2 ^ p &&& 1 = 1 then wrt pp (48 + p) else pp)
set_option maxHeartbeats 8000000 in
theorem c_X8_writePoints {l : Launch} {s : Nat} {K : Nat} {B : HP} {hs : List HP} {ks : List (Nat × HP)} {im : Option (Nat × HP × List (Nat × HP))} {ls : Nat → Option (List Int32)} {tx pp : List Nat} {μ : Mem} {Q : Option Value → Mem → Prop} (hs256 : s < 256) (hC : CR μ (K, B, hs, ks, im, ls, tx, pp)) (hQ : ∀ μ', frm [0, 23] μ μ' → CR μ' (K, B, hs, ks, im, ls, tx, wps s 8 0 pp) → Q none μ') : CC l 1 mX8_writePoints [.ref 0, .int (nI s)] μ Q := by
  refine CC.of (M := mX8_writePoints) (by decide +kernel) rfl (fun v h => by simp at h; rcases h with rfl | rfl <;> rfl) (Nat.le_of_ble_eq_true rfl) (fun X hX => ?_)
  have hc := hX.cx
  have L : ∀ (n p : Nat) (pp : List Nat) (ν : Mem), p + n = 8 → CR ν (K, B, hs, ks, im, ls, tx, pp) → (∀ μ', frm [0, 23] ν μ' → CR μ' (K, B, hs, ks, im, ls, tx, wps s n p pp) → Q none μ') → TT X 2 [.ref 0, .int (nI s), .int (nI p)] [] ν := by
    intro n
    induction n with
    | zero =>
      intro p pp ν hp hC h
      refine tt_il2 (q := 3) hc dX8_writePoints_2 rfl ?_
      refine tt_bipush (v := nI 8) (q := 5) hc (by decide) dX8_writePoints_3 rfl ?_
      first | (with_reducible refine chk2 ?_; refine tt_icgeN (t := 31) (q := 8) hc (by omega) (by omega) dX8_writePoints_5 rfl rfl (fun c_5 => ?_) (fun c_5 => ?_)) | refine tt_icge (t := 31) (q := 8) hc dX8_writePoints_5 rfl rfl (fun c_5 => ?_) (fun c_5 => ?_)
      · refine tt_retv hX rfl dX8_writePoints_31 ?_
        exact h ν frm.rf hC
      · omega
    | succ n ih =>
      intro p pp ν hp hC h
      rw [wps] at h
      refine tt_il2 (q := 3) hc dX8_writePoints_2 rfl ?_
      refine tt_bipush (v := nI 8) (q := 5) hc (by decide) dX8_writePoints_3 rfl ?_
      first | (with_reducible refine chk2 ?_; refine tt_icgeN (t := 31) (q := 8) hc (by omega) (by omega) dX8_writePoints_5 rfl rfl (fun c_5 => ?_) (fun c_5 => ?_)) | refine tt_icge (t := 31) (q := 8) hc dX8_writePoints_5 rfl rfl (fun c_5 => ?_) (fun c_5 => ?_)
      · omega
      · refine tt_il1 (q := 9) hc dX8_writePoints_8 rfl ?_
        refine tt_il2 (q := 10) hc dX8_writePoints_9 rfl ?_
        first | (with_reducible refine chk2 ?_; refine tt_ishrN (q := 11) hc (by omega) (by omega) dX8_writePoints_10 rfl ?_) | refine tt_ishr (q := 11) hc dX8_writePoints_10 rfl ?_
        refine tt_iconst (v := nI 1) (q := 12) hc rfl dX8_writePoints_11 rfl ?_
        first | (with_reducible refine chk2 ?_; refine tt_iandN (q := 13) hc dX8_writePoints_12 rfl ?_) | (with_reducible refine chkan ?_; refine tt_iandnN (q := 13) hc dX8_writePoints_12 rfl ?_) | (with_reducible refine chkna ?_; refine tt_inandN (q := 13) hc dX8_writePoints_12 rfl ?_) | refine tt_iand (q := 13) hc dX8_writePoints_12 rfl ?_
        refine tt_iconst (v := nI 1) (q := 14) hc rfl dX8_writePoints_13 rfl ?_
        first | (with_reducible refine chk2 ?_; refine tt_icneN (t := 25) (q := 17) hc (by omega) (by omega) dX8_writePoints_14 rfl rfl (fun c_14 => ?_) (fun c_14 => ?_)) | refine tt_icne (t := 25) (q := 17) hc dX8_writePoints_14 rfl rfl (fun c_14 => ?_) (fun c_14 => ?_)
        · first | refine tt_inc2 (q := 28) hc dX8_writePoints_25 rfl (by decide) (incN _) ?_ | refine tt_inc2 (q := 28) hc dX8_writePoints_25 rfl (by decide) rfl ?_
          refine tt_goto (t := 2) hc dX8_writePoints_28 rfl ?_
          first
          | (rw [if_pos (nI_b1.mp c_14)] at h; exact ih (p + 1) _ ν' (by omega) hC' (fun μ' hf' => h μ' (hf.tr hf')))
          | (rw [if_neg (fun z => c_14 (nI_b1.mpr z))] at h; exact ih (p + 1) _ ν (by omega) hC h)
        · refine tt_al0 (q := 18) hc dX8_writePoints_17 rfl ?_
          refine tt_bipush (v := nI 48) (q := 20) hc (by decide) dX8_writePoints_18 rfl ?_
          refine tt_il2 (q := 21) hc dX8_writePoints_20 rfl ?_
          first | (with_reducible refine chk2 ?_; refine tt_iaddN (q := 22) hc dX8_writePoints_21 rfl ?_) | refine tt_iadd (q := 22) hc dX8_writePoints_21 rfl ?_
          refine tt_cV1 (q := 25) (d' := 0) (ci := 8) hc (by first | decide | omega) kmX8_write ml_X8_255 (by first | assumption | exact ⟨by decide, _, rfl⟩) rfl (Nat.le_of_ble_eq_true rfl) dX8_writePoints_22 rfl ?_
          refine c_X8_write (by omega) hC (fun ν' hf hC' => ?_)
          dsimp only [Option.toList, List.nil_append, List.cons_append]
          first | refine tt_inc2 (q := 28) hc dX8_writePoints_25 rfl (by decide) (incN _) ?_ | refine tt_inc2 (q := 28) hc dX8_writePoints_25 rfl (by decide) rfl ?_
          refine tt_goto (t := 2) hc dX8_writePoints_28 rfl ?_
          first
          | (rw [if_pos (nI_b1.mp c_14)] at h; exact ih (p + 1) _ ν' (by omega) hC' (fun μ' hf' => h μ' (hf.tr hf')))
          | (rw [if_neg (fun z => c_14 (nI_b1.mpr z))] at h; exact ih (p + 1) _ ν (by omega) hC h)
  refine tt_iconst (v := nI 0) (q := 1) hc rfl dX8_writePoints_0 rfl ?_
  refine tt_is2 (q := 2) hc dX8_writePoints_1 rfl (by decide) ?_
  exact L 8 0 pp μ rfl hC hQ
def spe (B : HP) : Nat → Nat → List Nat → List Nat
  | 0, _, pp => pp
  | n + 1, s, pp => spe B n (s + 1) (if B s = true then wps s 8 0 (if 0 < pp.length then wrt pp 32 else pp) else pp)
def sp_spell (S : ST) : Int32 × ST := match S with
  | (K, B, hs, ks, im, ls, tx, _) => (nI (spe B 255 1 []).length, (K, B, hs, ks, im, ls, tx, spe B 255 1 []))
set_option maxHeartbeats 8000000 in
theorem c_X8_spell {l : Launch} {S : ST} {μ : Mem} {Q : Option Value → Mem → Prop} (hC : CR μ S) (hQ : ∀ μ', frm cL μ μ' → CR μ' (sp_spell S).2 → Q (some (.int (sp_spell S).1)) μ') : CC l 2 mX8_spell [.ref 0] μ Q := by
  refine CC.of (M := mX8_spell) (by decide +kernel) rfl (fun v h => by simp at h; subst h; rfl) (Nat.le_of_ble_eq_true rfl) (fun X hX => ?_)
  have hc := hX.cx
  obtain ⟨K, B, hs, ks, im, ls, tx, pp0⟩ := S
  dsimp only [sp_spell] at hQ
  have W : ∀ (s : Nat) (pp : List Nat) (ν : Mem), s < 256 → CR ν (K, B, hs, ks, im, ls, tx, pp) → (∀ μ', frm [0, 23] ν μ' → CR μ' (K, B, hs, ks, im, ls, tx, wps s 8 0 pp) → TT X 43 [.ref 0, .int (nI s)] [] μ') → TT X 38 [.ref 0, .int (nI s)] [] ν := by
    intro s pp ν hs6 hC h
    refine tt_al0 (q := 39) hc dX8_spell_38 rfl ?_
    refine tt_il1 (q := 40) hc dX8_spell_39 rfl ?_
    refine tt_cV1 (q := 43) (d' := 1) (ci := 8) hc (by first | decide | omega) kmX8_writePoints ml_X8_258 (by first | assumption | exact ⟨by decide, _, rfl⟩) rfl (Nat.le_of_ble_eq_true rfl) dX8_spell_40 rfl ?_
    refine c_X8_writePoints hs6 hC (fun ν' hf hC' => ?_)
    dsimp only [Option.toList, List.nil_append, List.cons_append]
    exact h ν' hf hC'
  have L : ∀ (n s : Nat) (pp : List Nat) (ν : Mem), s + n = 256 → CR ν (K, B, hs, ks, im, ls, tx, pp) → (∀ μ', frm [0, 23] ν μ' → CR μ' (K, B, hs, ks, im, ls, tx, spe B n s pp) → Q (some (.int (nI (spe B n s pp).length))) μ') → TT X 7 [.ref 0, .int (nI s)] [] ν := by
    intro n
    induction n with
    | zero =>
      intro s pp ν hs6 hC h
      have p2 := hC.2.2.2.2.2.2.2.1
      refine tt_il1 (q := 8) hc dX8_spell_7 rfl ?_
      refine tt_sipush (v := nI 256) (q := 11) hc (by decide) dX8_spell_8 rfl ?_
      first | (with_reducible refine chk2 ?_; refine tt_icgeN (t := 49) (q := 14) hc (by omega) (by omega) dX8_spell_11 rfl rfl (fun c_11 => ?_) (fun c_11 => ?_)) | refine tt_icge (t := 49) (q := 14) hc dX8_spell_11 rfl rfl (fun c_11 => ?_) (fun c_11 => ?_)
      · refine tt_al0 (q := 50) hc dX8_spell_49 rfl ?_
        refine tt_getI (q := 53) hc fl_X8_252 (by first | assumption | exact ⟨by decide, _, rfl, _, rfl⟩) dX8_spell_50 rfl ?_
        rw [p2]
        refine tt_reti hX rfl dX8_spell_53 ?_
        exact h ν frm.rf hC
      · omega
    | succ n ih =>
      intro s pp ν hs6 hC h
      have p1 := hC.2.2.2.2.2.2.1
      have p2 := hC.2.2.2.2.2.2.2.1
      rw [spe] at h
      have E : ∀ (pp' : List Nat) (ν' : Mem), frm [0, 23] ν ν' → CR ν' (K, B, hs, ks, im, ls, tx, pp') → (∀ μ', frm [0, 23] ν μ' → CR μ' (K, B, hs, ks, im, ls, tx, spe B n (s + 1) pp') → Q (some (.int (nI (spe B n (s + 1) pp').length))) μ') → TT X 43 [.ref 0, .int (nI s)] [] ν' := by
        intro pp' ν' hf hC' h
        first | refine tt_inc1 (q := 46) hc dX8_spell_43 rfl (by decide) (incN _) ?_ | refine tt_inc1 (q := 46) hc dX8_spell_43 rfl (by decide) rfl ?_
        refine tt_goto (t := 7) hc dX8_spell_46 rfl ?_
        exact ih (s + 1) pp' ν' (by omega) hC' (fun μ' hf' => h μ' (hf.tr hf'))
      refine tt_il1 (q := 8) hc dX8_spell_7 rfl ?_
      refine tt_sipush (v := nI 256) (q := 11) hc (by decide) dX8_spell_8 rfl ?_
      first | (with_reducible refine chk2 ?_; refine tt_icgeN (t := 49) (q := 14) hc (by omega) (by omega) dX8_spell_11 rfl rfl (fun c_11 => ?_) (fun c_11 => ?_)) | refine tt_icge (t := 49) (q := 14) hc dX8_spell_11 rfl rfl (fun c_11 => ?_) (fun c_11 => ?_)
      · omega
      · refine tt_al0 (q := 15) hc dX8_spell_14 rfl ?_
        refine tt_getR (q := 18) hc fl_X8_12 (by first | assumption | exact ⟨by decide, _, rfl, rfl⟩) dX8_spell_15 rfl ?_
        refine tt_il1 (q := 19) hc dX8_spell_18 rfl ?_
        refine tt_cV1 (q := 22) (d' := 1) (ci := 0) hc (by first | decide | omega) kmX0_isBody ml_X8_228 (by first | assumption | exact ⟨by decide, _, rfl⟩) rfl (Nat.le_of_ble_eq_true rfl) dX8_spell_19 rfl ?_
        refine c_X0_isBody (j := 0) (by decide) hC.1 ?_
        dsimp only [Option.toList, List.nil_append, List.cons_append]
        first | (with_reducible refine chkb ?_; refine tt_ifeqB (t := 43) (q := 25) hc dX8_spell_22 rfl rfl (fun c_22 => ?_) (fun c_22 => ?_)) | (with_reducible refine chk1 ?_; refine tt_ifeqN (t := 43) (q := 25) hc (by omega) dX8_spell_22 rfl rfl (fun c_22 => ?_) (fun c_22 => ?_)) | refine tt_ifeq (t := 43) (q := 25) hc dX8_spell_22 rfl rfl (fun c_22 => ?_) (fun c_22 => ?_)
        · rw [if_neg (by rw [c_22]; exact Bool.false_ne_true)] at h
          exact E pp ν frm.rf hC h
        · rw [if_pos c_22] at h
          refine tt_al0 (q := 26) hc dX8_spell_25 rfl ?_
          refine tt_getI (q := 29) hc fl_X8_252 (by first | assumption | exact ⟨by decide, _, rfl, _, rfl⟩) dX8_spell_26 rfl ?_
          rw [p2]
          first | (with_reducible refine chk1 ?_; refine tt_ifleN (t := 38) (q := 32) hc (by omega) dX8_spell_29 rfl rfl (fun c_29 => ?_) (fun c_29 => ?_)) | refine tt_ifle (t := 38) (q := 32) hc dX8_spell_29 rfl rfl (fun c_29 => ?_) (fun c_29 => ?_)
          · first
            | (rw [if_pos c_29] at h; exact W s _ ν' (by omega) hC' (fun μ' hf' hC2 => E _ μ' (hf.tr hf') hC2 h))
            | (rw [if_neg (by omega)] at h; exact W s _ ν (by omega) hC (fun μ' hf' hC2 => E _ μ' hf' hC2 h))
          · refine tt_al0 (q := 33) hc dX8_spell_32 rfl ?_
            refine tt_bipush (v := nI 32) (q := 35) hc (by decide) dX8_spell_33 rfl ?_
            refine tt_cV1 (q := 38) (d' := 0) (ci := 8) hc (by first | decide | omega) kmX8_write ml_X8_255 (by first | assumption | exact ⟨by decide, _, rfl⟩) rfl (Nat.le_of_ble_eq_true rfl) dX8_spell_35 rfl ?_
            refine c_X8_write (by omega) hC (fun ν' hf hC' => ?_)
            dsimp only [Option.toList, List.nil_append, List.cons_append]
            first
            | (rw [if_pos c_29] at h; exact W s _ ν' (by omega) hC' (fun μ' hf' hC2 => E _ μ' (hf.tr hf') hC2 h))
            | (rw [if_neg (by omega)] at h; exact W s _ ν (by omega) hC (fun μ' hf' hC2 => E _ μ' hf' hC2 h))
  obtain ⟨N, hN⟩ : ∃ N : Nat, N = 255 := ⟨_, rfl⟩
  rw [← hN] at hQ
  refine tt_al0 (q := 1) hc dX8_spell_0 rfl ?_
  refine tt_iconst (v := nI 0) (q := 2) hc rfl dX8_spell_1 rfl ?_
  refine tt_putI (q := 5) hc fp_X8_252 (by first | assumption | exact ⟨by decide, _, rfl, _, rfl⟩) dX8_spell_2 rfl ?_
  refine tt_iconst (v := nI 1) (q := 6) hc rfl dX8_spell_5 rfl ?_
  refine tt_is1 (q := 7) hc dX8_spell_6 rfl (by decide) ?_
  refine L N 1 [] _ (by omega) (hC.pp ((frm.set (i := 0)).mono (by simp)) rfl rfl ⟨Nat.zero_le _, rfl, fun i b hb => by cases hb⟩) (fun μ' hf hC' => hQ μ' (((frm.set (i := 0)).cl (by decide)).tr (hf.cl (by decide))) hC')
def an_paper (v : Int32) (S : ST) : Int32 := match S with
  | (_, _, _, _, _, _, _, pp) => match lx pp v with
    | none => -1
    | some b => nI b
set_option maxHeartbeats 4000000 in
theorem c_X8_paper {l : Launch} {v : Int32} {S : ST} {μ : Mem} {Q : Option Value → Mem → Prop} (hC : CR μ S) (hQ : ∀ μ', frm cL μ μ' → CR μ' S → Q (some (.int (an_paper v S))) μ') : CC l 0 mX8_paper [.ref 0, .int v] μ Q := by
  refine CC.of (M := mX8_paper) (by decide +kernel) rfl (fun v h => by simp at h; rcases h with rfl | rfl <;> rfl) (Nat.le_of_ble_eq_true rfl) (fun X hX => ?_)
  have hc := hX.cx
  obtain ⟨K, B, hs, ks, im, ls, tx, pp⟩ := S
  obtain ⟨p1, p2, p3⟩ := id hC.2.2.2.2.2.2
  have h := hQ μ frm.rf hC
  dsimp only [an_paper] at h
  have a23 := HA23
  refine tt_il1 (q := 1) hc dX8_paper_0 rfl ?_
  refine tt_iflt (t := 12) (q := 4) hc dX8_paper_1 rfl rfl (fun c_1 => ?_) (fun c_1 => ?_)
  · refine tt_iconst (v := -1) (q := 13) hc rfl dX8_paper_12 rfl ?_
    refine tt_reti hX rfl dX8_paper_13 ?_
    first
    | (rw [lx_lo c_1] at h; exact h)
    | (rw [lx_hi (by omega) c_1 (Int32.not_lt.mp c_9)] at h; exact h)
  · refine tt_il1 (q := 5) hc dX8_paper_4 rfl ?_
    refine tt_al0 (q := 6) hc dX8_paper_5 rfl ?_
    refine tt_getI (q := 9) hc fl_X8_252 (by first | assumption | exact ⟨by decide, _, rfl, _, rfl⟩) dX8_paper_6 rfl ?_
    rw [p2]
    first | (with_reducible refine chk2 ?_; refine tt_icltN (t := 14) (q := 12) hc (by omega) (by omega) dX8_paper_9 rfl rfl (fun c_9 => ?_) (fun c_9 => ?_)) | refine tt_iclt (t := 14) (q := 12) hc dX8_paper_9 rfl rfl (fun c_9 => ?_) (fun c_9 => ?_)
    · obtain ⟨n, b, rfl, hn, hb, hlx⟩ := lx_in (by omega) c_1 c_9
      rw [hlx] at h
      have hv := p3 n b hb
      refine tt_al0 (q := 15) hc dX8_paper_14 rfl ?_
      refine tt_getR (q := 18) hc fl_X8_77 (by first | assumption | exact ⟨by decide, _, rfl, rfl⟩) dX8_paper_15 rfl ?_
      refine tt_il1 (q := 19) hc dX8_paper_18 rfl ?_
      refine tt_baldE (q := 20) hc a23 (by omega) hv dX8_paper_19 rfl ?_
      refine tt_reti hX rfl dX8_paper_20 ?_
      exact h
    · refine tt_iconst (v := -1) (q := 13) hc rfl dX8_paper_12 rfl ?_
      refine tt_reti hX rfl dX8_paper_13 ?_
      first
      | (rw [lx_lo c_1] at h; exact h)
      | (rw [lx_hi (by omega) c_1 (Int32.not_lt.mp c_9)] at h; exact h)
def jdg (B : HP) (xs : List Int32) : Nat → Nat → Nat → Int32
  | 0, _, i => if i < xs.length then nI i else -5
  | n + 1, s, i => if B s = true then (if i < xs.length ∧ xs.getD i 0 = nI s then jdg B xs n (s + 1) (i + 1) else nI i) else jdg B xs n (s + 1) i
def an_judge (v : Int32) (S : ST) : Int32 := match S with
  | (_, B, _, _, _, ls, _, _) => if inB v (nI 0) (nI 3) = true then (match ls v.toNatClampNeg with | none => -11 | some xs => jdg B xs 255 1 0) else -1
set_option maxHeartbeats 4000000 in
theorem c_X8_judge {l : Launch} {v : Int32} {S : ST} {μ : Mem} {Q : Option Value → Mem → Prop} (hC : CR μ S) (hQ : ∀ μ', frm cL μ μ' → CR μ' S → Q (some (.int (an_judge v S))) μ') : CC l 2 mX8_judge [.ref 0, .int v] μ Q := by
  refine CC.of (M := mX8_judge) (by decide +kernel) rfl (fun v h => by simp at h; rcases h with rfl | rfl <;> rfl) (Nat.le_of_ble_eq_true rfl) (fun X hX => ?_)
  have hc := hX.cx
  obtain ⟨K, B, hs, ks, im, ls, tx, pp⟩ := S
  have a1 := hC.1
  have a5 := hC.2.2.2.2.1
  have hQ := hQ μ frm.rf hC
  dsimp only [an_judge] at hQ
  rcases lst_cases ls v with ⟨hin, hst⟩ | ⟨t, ht, rfl, hin, hls, hst⟩ | ⟨t, xs, ht, rfl, hin, hls, hst⟩
  · rw [if_neg (by rw [hin]; exact Bool.false_ne_true)] at hQ
    refine tt_al0 (q := 1) hc dX8_judge_0 rfl ?_
    refine tt_getR (q := 4) hc fl_X8_66 (by first | assumption | exact ⟨by decide, _, rfl, rfl⟩) dX8_judge_1 rfl ?_
    refine tt_il1 (q := 5) hc dX8_judge_4 rfl ?_
    refine tt_cV1 (q := 8) (d' := 1) (ci := 3) hc (by first | decide | omega) kmX3_state ml_X8_157 (by first | assumption | exact ⟨by decide, _, rfl⟩) rfl (Nat.le_of_ble_eq_true rfl) dX8_judge_5 rfl ?_
    refine c_X3_state a5 ?_
    rw [hst]
    dsimp only [Option.toList, List.nil_append, List.cons_append]
    refine tt_is2 (q := 9) hc dX8_judge_8 rfl (by decide) ?_
    refine tt_il2 (q := 10) hc dX8_judge_9 rfl ?_
    refine tt_ifge (t := 15) (q := 13) hc dX8_judge_10 rfl rfl (fun c_10 => ?_) (fun c_10 => ?_)
    · exact absurd c_10 (by decide)
    · refine tt_il2 (q := 14) hc dX8_judge_13 rfl ?_
      refine tt_reti hX rfl dX8_judge_14 ?_
      exact hQ
  · rw [if_pos hin, nI_clamp (by omega), hls] at hQ
    refine tt_al0 (q := 1) hc dX8_judge_0 rfl ?_
    refine tt_getR (q := 4) hc fl_X8_66 (by first | assumption | exact ⟨by decide, _, rfl, rfl⟩) dX8_judge_1 rfl ?_
    refine tt_il1 (q := 5) hc dX8_judge_4 rfl ?_
    refine tt_cV1 (q := 8) (d' := 1) (ci := 3) hc (by first | decide | omega) kmX3_state ml_X8_157 (by first | assumption | exact ⟨by decide, _, rfl⟩) rfl (Nat.le_of_ble_eq_true rfl) dX8_judge_5 rfl ?_
    refine c_X3_state a5 ?_
    rw [hst]
    dsimp only [Option.toList, List.nil_append, List.cons_append]
    refine tt_is2 (q := 9) hc dX8_judge_8 rfl (by decide) ?_
    refine tt_il2 (q := 10) hc dX8_judge_9 rfl ?_
    refine tt_ifge (t := 15) (q := 13) hc dX8_judge_10 rfl rfl (fun c_10 => ?_) (fun c_10 => ?_)
    · exact absurd c_10 (by decide)
    · refine tt_il2 (q := 14) hc dX8_judge_13 rfl ?_
      refine tt_reti hX rfl dX8_judge_14 ?_
      exact hQ
  · rw [if_pos hin, nI_clamp (by omega), hls] at hQ
    dsimp only at hQ
    have hxl := (a5.so ht hls).1
    have L : ∀ (n s i : Nat), s + n = 256 → i < s → i ≤ xs.length → Q (some (.int (jdg B xs n s i))) μ → TT X 30 [.ref 0, .int (nI t), .int 0, .int (nI xs.length), .int (nI i), .int (nI s)] [] μ := by
      intro n
      induction n with
      | zero =>
        intro s i hs his hi h
        rw [jdg] at h
        refine tt_il5 (q := 32) hc dX8_judge_30 rfl ?_
        refine tt_sipush (v := nI 256) (q := 35) hc (by decide) dX8_judge_32 rfl ?_
        first | (with_reducible refine chk2 ?_; refine tt_icgeN (t := 83) (q := 38) hc (by omega) (by omega) dX8_judge_35 rfl rfl (fun c_35 => ?_) (fun c_35 => ?_)) | refine tt_icge (t := 83) (q := 38) hc dX8_judge_35 rfl rfl (fun c_35 => ?_) (fun c_35 => ?_)
        · refine tt_il4 (q := 85) hc dX8_judge_83 rfl ?_
          refine tt_il3 (q := 86) hc dX8_judge_85 rfl ?_
          first | (with_reducible refine chk2 ?_; refine tt_icgeN (t := 94) (q := 89) hc (by omega) (by omega) dX8_judge_86 rfl rfl (fun c_86 => ?_) (fun c_86 => ?_)) | refine tt_icge (t := 94) (q := 89) hc dX8_judge_86 rfl rfl (fun c_86 => ?_) (fun c_86 => ?_)
          · refine tt_bipush (v := -5) (q := 96) hc (by decide) dX8_judge_94 rfl ?_
            refine tt_reti hX rfl dX8_judge_96 ?_
            first
            | (rw [if_pos (by omega)] at h; exact h)
            | (rw [if_neg (by omega)] at h; exact h)
          · refine tt_il4 (q := 91) hc dX8_judge_89 rfl ?_
            refine tt_goto (t := 96) hc dX8_judge_91 rfl ?_
            refine tt_reti hX rfl dX8_judge_96 ?_
            first
            | (rw [if_pos (by omega)] at h; exact h)
            | (rw [if_neg (by omega)] at h; exact h)
        · omega
      | succ n ih =>
        intro s i hs his hi h
        rw [jdg] at h
        refine tt_il5 (q := 32) hc dX8_judge_30 rfl ?_
        refine tt_sipush (v := nI 256) (q := 35) hc (by decide) dX8_judge_32 rfl ?_
        first | (with_reducible refine chk2 ?_; refine tt_icgeN (t := 83) (q := 38) hc (by omega) (by omega) dX8_judge_35 rfl rfl (fun c_35 => ?_) (fun c_35 => ?_)) | refine tt_icge (t := 83) (q := 38) hc dX8_judge_35 rfl rfl (fun c_35 => ?_) (fun c_35 => ?_)
        · omega
        · refine tt_al0 (q := 39) hc dX8_judge_38 rfl ?_
          refine tt_getR (q := 42) hc fl_X8_12 (by first | assumption | exact ⟨by decide, _, rfl, rfl⟩) dX8_judge_39 rfl ?_
          refine tt_il5 (q := 44) hc dX8_judge_42 rfl ?_
          refine tt_cV1 (q := 47) (d' := 1) (ci := 0) hc (by first | decide | omega) kmX0_isBody ml_X8_228 (by first | assumption | exact ⟨by decide, _, rfl⟩) rfl (Nat.le_of_ble_eq_true rfl) dX8_judge_44 rfl ?_
          refine c_X0_isBody (j := 0) (by decide) a1 ?_
          dsimp only [Option.toList, List.nil_append, List.cons_append]
          first | (with_reducible refine chkb ?_; refine tt_ifeqB (t := 77) (q := 50) hc dX8_judge_47 rfl rfl (fun c_47 => ?_) (fun c_47 => ?_)) | (with_reducible refine chk1 ?_; refine tt_ifeqN (t := 77) (q := 50) hc (by omega) dX8_judge_47 rfl rfl (fun c_47 => ?_) (fun c_47 => ?_)) | refine tt_ifeq (t := 77) (q := 50) hc dX8_judge_47 rfl rfl (fun c_47 => ?_) (fun c_47 => ?_)
          · first | refine tt_inc5 (q := 80) hc dX8_judge_77 rfl (by decide) (incN _) ?_ | refine tt_inc5 (q := 80) hc dX8_judge_77 rfl (by decide) rfl ?_
            refine tt_goto (t := 30) hc dX8_judge_80 rfl ?_
            first
            | (rw [if_neg (by rw [c_47]; exact Bool.false_ne_true)] at h; exact ih (s + 1) i (by omega) (by omega) hi h)
            | (rw [if_pos c_47, if_pos ⟨c_53, c_68⟩] at h; exact ih (s + 1) (i + 1) (by omega) (by omega) c_53 h)
          · refine tt_il4 (q := 52) hc dX8_judge_50 rfl ?_
            refine tt_il3 (q := 53) hc dX8_judge_52 rfl ?_
            first | (with_reducible refine chk2 ?_; refine tt_icgeN (t := 71) (q := 56) hc (by omega) (by omega) dX8_judge_53 rfl rfl (fun c_53 => ?_) (fun c_53 => ?_)) | refine tt_icge (t := 71) (q := 56) hc dX8_judge_53 rfl rfl (fun c_53 => ?_) (fun c_53 => ?_)
            · refine tt_il4 (q := 73) hc dX8_judge_71 rfl ?_
              refine tt_reti hX rfl dX8_judge_73 ?_
              first
              | (rw [if_pos c_47, if_neg (by omega)] at h; exact h)
              | (rw [if_pos c_47, if_neg (fun z => c_68 z.2)] at h; exact h)
            · refine tt_al0 (q := 57) hc dX8_judge_56 rfl ?_
              refine tt_getR (q := 60) hc fl_X8_66 (by first | assumption | exact ⟨by decide, _, rfl, rfl⟩) dX8_judge_57 rfl ?_
              refine tt_il1 (q := 61) hc dX8_judge_60 rfl ?_
              refine tt_il4 (q := 63) hc dX8_judge_61 rfl ?_
              refine tt_cV2 (q := 66) (d' := 0) (ci := 3) hc (by first | decide | omega) kmX3_at ml_X8_192 (by first | assumption | exact ⟨by decide, _, rfl⟩) rfl (Nat.le_of_ble_eq_true rfl) dX8_judge_63 rfl ?_
              refine c_X3_at a5 ht hls (getD_some (d := 0) c_53) ?_
              dsimp only [Option.toList, List.nil_append, List.cons_append]
              refine tt_il5 (q := 68) hc dX8_judge_66 rfl ?_
              first | (with_reducible refine chk2 ?_; refine tt_iceqN (t := 74) (q := 71) hc (by omega) (by omega) dX8_judge_68 rfl rfl (fun c_68 => ?_) (fun c_68 => ?_)) | refine tt_iceq (t := 74) (q := 71) hc dX8_judge_68 rfl rfl (fun c_68 => ?_) (fun c_68 => ?_)
              · first | refine tt_inc4 (q := 77) hc dX8_judge_74 rfl (by decide) (incN _) ?_ | refine tt_inc4 (q := 77) hc dX8_judge_74 rfl (by decide) rfl ?_
                first | refine tt_inc5 (q := 80) hc dX8_judge_77 rfl (by decide) (incN _) ?_ | refine tt_inc5 (q := 80) hc dX8_judge_77 rfl (by decide) rfl ?_
                refine tt_goto (t := 30) hc dX8_judge_80 rfl ?_
                first
                | (rw [if_neg (by rw [c_47]; exact Bool.false_ne_true)] at h; exact ih (s + 1) i (by omega) (by omega) hi h)
                | (rw [if_pos c_47, if_pos ⟨c_53, c_68⟩] at h; exact ih (s + 1) (i + 1) (by omega) (by omega) c_53 h)
              · refine tt_il4 (q := 73) hc dX8_judge_71 rfl ?_
                refine tt_reti hX rfl dX8_judge_73 ?_
                first
                | (rw [if_pos c_47, if_neg (by omega)] at h; exact h)
                | (rw [if_pos c_47, if_neg (fun z => c_68 z.2)] at h; exact h)
    refine tt_al0 (q := 1) hc dX8_judge_0 rfl ?_
    refine tt_getR (q := 4) hc fl_X8_66 (by first | assumption | exact ⟨by decide, _, rfl, rfl⟩) dX8_judge_1 rfl ?_
    refine tt_il1 (q := 5) hc dX8_judge_4 rfl ?_
    refine tt_cV1 (q := 8) (d' := 1) (ci := 3) hc (by first | decide | omega) kmX3_state ml_X8_157 (by first | assumption | exact ⟨by decide, _, rfl⟩) rfl (Nat.le_of_ble_eq_true rfl) dX8_judge_5 rfl ?_
    refine c_X3_state a5 ?_
    rw [hst]
    dsimp only [Option.toList, List.nil_append, List.cons_append]
    refine tt_is2 (q := 9) hc dX8_judge_8 rfl (by decide) ?_
    refine tt_il2 (q := 10) hc dX8_judge_9 rfl ?_
    refine tt_ifge (t := 15) (q := 13) hc dX8_judge_10 rfl rfl (fun c_10 => ?_) (fun c_10 => ?_)
    · refine tt_al0 (q := 16) hc dX8_judge_15 rfl ?_
      refine tt_getR (q := 19) hc fl_X8_66 (by first | assumption | exact ⟨by decide, _, rfl, rfl⟩) dX8_judge_16 rfl ?_
      refine tt_il1 (q := 20) hc dX8_judge_19 rfl ?_
      refine tt_cV1 (q := 23) (d' := 0) (ci := 3) hc (by first | decide | omega) kmX3_sizeOf ml_X8_163 (by first | assumption | exact ⟨by decide, _, rfl⟩) rfl (Nat.le_of_ble_eq_true rfl) dX8_judge_20 rfl ?_
      refine c_X3_sizeOf a5 ht hls ?_
      dsimp only [Option.toList, List.nil_append, List.cons_append]
      refine tt_is3 (q := 24) hc dX8_judge_23 rfl (by decide) ?_
      refine tt_iconst (v := nI 0) (q := 25) hc rfl dX8_judge_24 rfl ?_
      refine tt_is4 (q := 27) hc dX8_judge_25 rfl (by decide) ?_
      refine tt_iconst (v := nI 1) (q := 28) hc rfl dX8_judge_27 rfl ?_
      refine tt_is5 (q := 30) hc dX8_judge_28 rfl (by decide) ?_
      exact L 255 1 0 rfl (by decide) (Nat.zero_le _) hQ
    · exact absurd (by decide) c_10
