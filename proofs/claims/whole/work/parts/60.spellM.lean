/-! THE MODEL: spelling -/
theorem MY.mk {μ μ' : Mem} {pp : List Nat} {b : Nat} (h : MY μ pp) (hl : pp.length < 1280) (e72 : μ' 72 = upd (μ 72) pp.length (nI b)) (e25 : μ' 24 25 = nI (pp.length + 1)) : MY μ' (pp ++ [b]) := by
  refine ⟨by rw [snoc_len]; omega, by rw [snoc_len]; exact e25, fun i x hx => ?_⟩
  rw [e72]
  by_cases c : i < pp.length
  · rw [List.getElem?_append_left c] at hx
    rw [pk_un (by omega)]
    exact h.2.2 i x hx
  · have l1 := (List.getElem?_eq_some_iff.mp hx).1
    rw [snoc_len] at l1
    have e2 : i = pp.length := by omega
    subst e2
    rw [List.getElem?_append_right (Nat.le_refl _), Nat.sub_self] at hx
    simp only [List.getElem?_cons_zero, Option.some.injEq] at hx
    rw [pk_us, ← hx]
set_option maxHeartbeats 1000000 in
theorem c_X9_writes {l : Launch} {b : Nat} {pp : List Nat} {μ : Mem} {Q : Option Value → Mem → Prop} (hY : MY μ pp) (hl : pp.length < 349) (hb : b < 128) (hQ : ∀ μ', mg [72] [25] μ μ' → MY μ' (wrt pp b) → Q none μ') : CC l 0 mX9_writes [.ref 24, .int (nI b)] μ Q := by
  refine CC.of (M := mX9_writes) (by decide +kernel) rfl (fun v h => by simp at h; rcases h with rfl | rfl <;> rfl) (Nat.le_of_ble_eq_true rfl) (fun X hX => ?_)
  have hc := hX.cx
  have a72 := HA72
  have hbb := byt b hb
  have e25 := hY.2.1
  refine tt_al0 (q := 1) hc dX9_writes_0 rfl ?_
  refine tt_getR (q := 4) hc fl_X9_73 (by first | assumption | exact ⟨by decide, _, rfl, rfl⟩) dX9_writes_1 rfl ?_
  refine tt_al0 (q := 5) hc dX9_writes_4 rfl ?_
  refine tt_getI (q := 8) hc fl_X9_330 (by first | assumption | exact ⟨by decide, _, rfl, _, rfl⟩) dX9_writes_5 rfl ?_
  rw [e25]
  refine tt_il1 (q := 9) hc dX9_writes_8 rfl ?_
  refine tt_i2b (q := 10) hc hbb dX9_writes_9 rfl ?_
  refine tt_bast (q := 11) hc (by first | assumption | exact ⟨by decide, rfl, by decide⟩) (by omega) (by assumption) dX9_writes_10 rfl ?_
  refine tt_al0 (q := 12) hc dX9_writes_11 rfl ?_
  refine tt_dup (q := 13) hc rfl dX9_writes_12 rfl ?_
  refine tt_getI (q := 16) hc fl_X9_330 (by first | assumption | exact ⟨by decide, _, rfl, _, rfl⟩) dX9_writes_13 rfl ?_
  rw [mset_ne (by decide), e25]
  refine tt_iconst (v := nI 1) (q := 17) hc rfl dX9_writes_16 rfl ?_
  first | (with_reducible refine chk2 ?_; refine tt_iaddN (q := 18) hc dX9_writes_17 rfl ?_) | refine tt_iadd (q := 18) hc dX9_writes_17 rfl ?_
  refine tt_putI (q := 21) hc fp_X9_330 (by first | assumption | exact ⟨by decide, _, rfl, _, rfl⟩) dX9_writes_18 rfl ?_
  refine tt_retv hX rfl dX9_writes_21 ?_
  refine hQ _ ((mg.fr frm.set (by decide)).tr (mg.own (by decide))) ?_
  unfold wrt
  rw [if_pos hl]
  exact MY.mk hY (by omega) (by rw [mset_ne (by decide), mset_eq]) (by rw [mset_eq, pk_us])
def popr (s : Nat) : Nat → Nat → Nat
  | 0, _ => 0
  | n + 1, p => (if s / 2 ^ p &&& 1 = 1 then 1 else 0) + popr s n (p + 1)
theorem popr8 : ∀ s, s < 256 → popr s 8 0 = pop s := by decide +kernel
theorem wrt_ln {pp : List Nat} {b : Nat} (h : pp.length < 349) : (wrt pp b).length = pp.length + 1 := by
  unfold wrt
  rw [if_pos h, snoc_len]
set_option maxHeartbeats 4000000 in
theorem c_X9_spell {l : Launch} {S : ST} {μ : Mem} {Q : Option Value → Mem → Prop} (hM : MR μ S) (hQ : ∀ μ', frm mL μ μ' → MR μ' (sp_spell S).2 → Q (some (.int (sp_spell S).1)) μ') : CC l 1 mX9_spell [.ref 24] μ Q := by
  refine CC.of (M := mX9_spell) (by decide +kernel) rfl (fun v h => by simp at h; subst h; rfl) (Nat.le_of_ble_eq_true rfl) (fun X hX => ?_)
  have hc := hX.cx
  obtain ⟨K, B, hs, ks, im, ls, tx, pp0⟩ := S
  obtain ⟨⟨a0, a1, a2⟩, a3, a4, a5, a6, a7, a8⟩ := id hM
  have a77 := HA77
  have hK := a0.1
  have htot := tot_le a0
  dsimp only [sp_spell] at hQ
  have hto := tot1 a0
  have hQ : ∀ μ', mg [72] [25] μ μ' → MY μ' (spe B 255 1 []) → Q (some (.int (nI (spe B 255 1 []).length))) μ' := by
    intro μ' hf hY
    exact hQ μ' (hf.ml (by decide)) ⟨⟨a0, (hf.2 0 (by decide)).trans a1, a2.mg hf (by decide) (by decide)⟩, a3.mg hf (by decide) (by decide), a4.mg hf (by decide) (by decide), a5.mg hf (by decide) (by decide) (by decide) (by decide), a6.mg hf (by decide), a7.mg hf (by decide) (by decide), hY⟩
  generalize hR : spe B 255 1 [] = R at hQ
  have L : ∀ (n s c : Nat) (pp : List Nat) (ν : Mem) (w2 : Value), s + n = 256 → mg [72] [25] μ ν → MY ν pp → c + cnt B n s = tot B → ((pp.length = 0 ∧ c = 0) ∨ pp.length + 1 ≤ (K + 1) * c) → spe B n s pp = R → TT X 7 [.ref 24, .int (nI s), w2] [] ν := by
    intro n
    induction n with
    | zero =>
      intro s c pp ν w2 hs hf hY hc2 hJ hR
      rw [spe] at hR
      subst hR
      have e25 := hY.2.1
      refine tt_il1 (q := 8) hc dX9_spell_7 rfl ?_
      refine tt_sipush (v := nI 256) (q := 11) hc (by decide) dX9_spell_8 rfl ?_
      first | (with_reducible refine chk2 ?_; refine tt_icgeN (t := 76) (q := 14) hc (by omega) (by omega) dX9_spell_11 rfl rfl (fun c_11 => ?_) (fun c_11 => ?_)) | refine tt_icge (t := 76) (q := 14) hc dX9_spell_11 rfl rfl (fun c_11 => ?_) (fun c_11 => ?_)
      · refine tt_al0 (q := 77) hc dX9_spell_76 rfl ?_
        refine tt_getI (q := 80) hc fl_X9_330 (by first | assumption | exact ⟨by decide, _, rfl, _, rfl⟩) dX9_spell_77 rfl ?_
        rw [e25]
        refine tt_reti hX rfl dX9_spell_80 ?_
        exact hQ ν hf hY
      · omega
    | succ n ih =>
      intro s c pp ν w2 hs hf hY hc2 hJ hR
      have hBA := a2.mg hf (by decide) (by decide)
      have hYl := hY.1
      have e25 := hY.2.1
      rw [spe] at hR
      rw [cnt] at hc2
      cases hbs : B s with
      | false =>
        rw [hbs, if_neg Bool.false_ne_true] at hR hc2
        refine tt_il1 (q := 8) hc dX9_spell_7 rfl ?_
        refine tt_sipush (v := nI 256) (q := 11) hc (by decide) dX9_spell_8 rfl ?_
        first | (with_reducible refine chk2 ?_; refine tt_icgeN (t := 76) (q := 14) hc (by omega) (by omega) dX9_spell_11 rfl rfl (fun c_11 => ?_) (fun c_11 => ?_)) | refine tt_icge (t := 76) (q := 14) hc dX9_spell_11 rfl rfl (fun c_11 => ?_) (fun c_11 => ?_)
        · omega
        · refine tt_al0 (q := 15) hc dX9_spell_14 rfl ?_
          refine tt_getR (q := 18) hc fl_X9_15 (by first | assumption | exact ⟨by decide, _, rfl, rfl⟩) dX9_spell_15 rfl ?_
          refine tt_il1 (q := 19) hc dX9_spell_18 rfl ?_
          refine tt_zald (q := 20) hc (by first | assumption | exact ⟨by decide, rfl, by decide⟩) (by omega) dX9_spell_19 rfl ?_
          rw [hBA s (by omega), hbs]
          first | (with_reducible refine chkb ?_; refine tt_ifneB (t := 26) (q := 23) hc dX9_spell_20 rfl rfl (fun c_20 => ?_) (fun c_20 => ?_)) | (with_reducible refine chk1 ?_; refine tt_ifneN (t := 26) (q := 23) hc (by omega) dX9_spell_20 rfl rfl (fun c_20 => ?_) (fun c_20 => ?_)) | refine tt_ifne (t := 26) (q := 23) hc dX9_spell_20 rfl rfl (fun c_20 => ?_) (fun c_20 => ?_)
          · cases c_20
          · refine tt_goto (t := 70) hc dX9_spell_23 rfl ?_
            first | refine tt_inc1 (q := 73) hc dX9_spell_70 rfl (by decide) (incN _) ?_ | refine tt_inc1 (q := 73) hc dX9_spell_70 rfl (by decide) rfl ?_
            refine tt_goto (t := 7) hc dX9_spell_73 rfl ?_
            exact ih (s + 1) c pp ν _ (by omega) hf hY (by omega) hJ hR
      | true =>
        rw [hbs, if_pos rfl] at hR hc2
        have hps := (a0.2 s hbs).2
        have hsl := (a0.2 s hbs).1
        have hm : (K + 1) * (c + 1) = (K + 1) * c + (K + 1) := Nat.mul_succ _ _
        have hmx : (K + 1) * (c + 1) ≤ 5 * 70 := Nat.mul_le_mul (by omega) (by omega)
        have L2 : ∀ (m p : Nat) (pp1 : List Nat) (ν1 : Mem), p + m = 8 → mg [72] [25] μ ν1 → MY ν1 pp1 → pp1.length + popr s m p + 1 ≤ (K + 1) * (c + 1) → spe B n (s + 1) (wps s m p pp1) = R → TT X 41 [.ref 24, .int (nI s), .int (nI p)] [] ν1 := by
          intro m
          induction m with
          | zero =>
            intro p pp1 ν1 hp hf1 hY1 hl hR1
            rw [popr] at hl
            rw [wps] at hR1
            refine tt_il2 (q := 42) hc dX9_spell_41 rfl ?_
            refine tt_bipush (v := nI 8) (q := 44) hc (by decide) dX9_spell_42 rfl ?_
            first | (with_reducible refine chk2 ?_; refine tt_icgeN (t := 70) (q := 47) hc (by omega) (by omega) dX9_spell_44 rfl rfl (fun c_44 => ?_) (fun c_44 => ?_)) | refine tt_icge (t := 70) (q := 47) hc dX9_spell_44 rfl rfl (fun c_44 => ?_) (fun c_44 => ?_)
            · first | refine tt_inc1 (q := 73) hc dX9_spell_70 rfl (by decide) (incN _) ?_ | refine tt_inc1 (q := 73) hc dX9_spell_70 rfl (by decide) rfl ?_
              refine tt_goto (t := 7) hc dX9_spell_73 rfl ?_
              exact ih (s + 1) (c + 1) pp1 ν1 _ (by omega) hf1 hY1 (by omega) (Or.inr hl) hR1
            · omega
          | succ m ih2 =>
            intro p pp1 ν1 hp hf1 hY1 hl hR1
            have h1 : s / 2 ^ p &&& 1 ≤ 1 := Nat.and_le_right
            rw [popr] at hl
            rw [wps] at hR1
            refine tt_il2 (q := 42) hc dX9_spell_41 rfl ?_
            refine tt_bipush (v := nI 8) (q := 44) hc (by decide) dX9_spell_42 rfl ?_
            first | (with_reducible refine chk2 ?_; refine tt_icgeN (t := 70) (q := 47) hc (by omega) (by omega) dX9_spell_44 rfl rfl (fun c_44 => ?_) (fun c_44 => ?_)) | refine tt_icge (t := 70) (q := 47) hc dX9_spell_44 rfl rfl (fun c_44 => ?_) (fun c_44 => ?_)
            · omega
            · refine tt_il1 (q := 48) hc dX9_spell_47 rfl ?_
              refine tt_il2 (q := 49) hc dX9_spell_48 rfl ?_
              first | (with_reducible refine chk2 ?_; refine tt_ishrN (q := 50) hc (by omega) (by omega) dX9_spell_49 rfl ?_) | refine tt_ishr (q := 50) hc dX9_spell_49 rfl ?_
              refine tt_iconst (v := nI 1) (q := 51) hc rfl dX9_spell_50 rfl ?_
              first | (with_reducible refine chk2 ?_; refine tt_iandN (q := 52) hc dX9_spell_51 rfl ?_) | (with_reducible refine chkan ?_; refine tt_iandnN (q := 52) hc dX9_spell_51 rfl ?_) | (with_reducible refine chkna ?_; refine tt_inandN (q := 52) hc dX9_spell_51 rfl ?_) | refine tt_iand (q := 52) hc dX9_spell_51 rfl ?_
              refine tt_iconst (v := nI 1) (q := 53) hc rfl dX9_spell_52 rfl ?_
              first | (with_reducible refine chk2 ?_; refine tt_icneN (t := 64) (q := 56) hc (by omega) (by omega) dX9_spell_53 rfl rfl (fun c_53 => ?_) (fun c_53 => ?_)) | refine tt_icne (t := 64) (q := 56) hc dX9_spell_53 rfl rfl (fun c_53 => ?_) (fun c_53 => ?_)
              · first | refine tt_inc2 (q := 67) hc dX9_spell_64 rfl (by decide) (incN _) ?_ | refine tt_inc2 (q := 67) hc dX9_spell_64 rfl (by decide) rfl ?_
                refine tt_goto (t := 41) hc dX9_spell_67 rfl ?_
                first
                | (have z : ¬ (s / 2 ^ p) &&& 1 = 1 := c_53
                   rw [if_neg z] at hl hR1
                   exact ih2 (p + 1) pp1 ν1 (by omega) hf1 hY1 (by omega) hR1)
                | exact ih2 (p + 1) _ ν2 (by omega) (hf1.tr hf2) hY2 (by rw [wrt_ln hl3]; omega) hR1
              · refine tt_al0 (q := 57) hc dX9_spell_56 rfl ?_
                refine tt_bipush (v := nI 48) (q := 59) hc (by decide) dX9_spell_57 rfl ?_
                refine tt_il2 (q := 60) hc dX9_spell_59 rfl ?_
                first | (with_reducible refine chk2 ?_; refine tt_iaddN (q := 61) hc dX9_spell_60 rfl ?_) | refine tt_iadd (q := 61) hc dX9_spell_60 rfl ?_
                rw [if_pos c_53] at hl hR1
                have hl3 : pp1.length < 349 := by omega
                refine tt_cV1 (q := 64) (d' := 0) (ci := 9) hc (by first | decide | omega) kmX9_writes ml_X9_333 (by first | assumption | exact ⟨by decide, _, rfl⟩) rfl (Nat.le_of_ble_eq_true rfl) dX9_spell_61 rfl ?_
                refine c_X9_writes hY1 hl3 (by omega) (fun ν2 hf2 hY2 => ?_)
                dsimp only [Option.toList, List.nil_append, List.cons_append]
                first | refine tt_inc2 (q := 67) hc dX9_spell_64 rfl (by decide) (incN _) ?_ | refine tt_inc2 (q := 67) hc dX9_spell_64 rfl (by decide) rfl ?_
                refine tt_goto (t := 41) hc dX9_spell_67 rfl ?_
                first
                | (have z : ¬ (s / 2 ^ p) &&& 1 = 1 := c_53
                   rw [if_neg z] at hl hR1
                   exact ih2 (p + 1) pp1 ν1 (by omega) hf1 hY1 (by omega) hR1)
                | exact ih2 (p + 1) _ ν2 (by omega) (hf1.tr hf2) hY2 (by rw [wrt_ln hl3]; omega) hR1
        refine tt_il1 (q := 8) hc dX9_spell_7 rfl ?_
        refine tt_sipush (v := nI 256) (q := 11) hc (by decide) dX9_spell_8 rfl ?_
        first | (with_reducible refine chk2 ?_; refine tt_icgeN (t := 76) (q := 14) hc (by omega) (by omega) dX9_spell_11 rfl rfl (fun c_11 => ?_) (fun c_11 => ?_)) | refine tt_icge (t := 76) (q := 14) hc dX9_spell_11 rfl rfl (fun c_11 => ?_) (fun c_11 => ?_)
        · omega
        · refine tt_al0 (q := 15) hc dX9_spell_14 rfl ?_
          refine tt_getR (q := 18) hc fl_X9_15 (by first | assumption | exact ⟨by decide, _, rfl, rfl⟩) dX9_spell_15 rfl ?_
          refine tt_il1 (q := 19) hc dX9_spell_18 rfl ?_
          refine tt_zald (q := 20) hc (by first | assumption | exact ⟨by decide, rfl, by decide⟩) (by omega) dX9_spell_19 rfl ?_
          rw [hBA s (by omega), hbs]
          first | (with_reducible refine chkb ?_; refine tt_ifneB (t := 26) (q := 23) hc dX9_spell_20 rfl rfl (fun c_20 => ?_) (fun c_20 => ?_)) | (with_reducible refine chk1 ?_; refine tt_ifneN (t := 26) (q := 23) hc (by omega) dX9_spell_20 rfl rfl (fun c_20 => ?_) (fun c_20 => ?_)) | refine tt_ifne (t := 26) (q := 23) hc dX9_spell_20 rfl rfl (fun c_20 => ?_) (fun c_20 => ?_)
          · refine tt_al0 (q := 27) hc dX9_spell_26 rfl ?_
            refine tt_getI (q := 30) hc fl_X9_330 (by first | assumption | exact ⟨by decide, _, rfl, _, rfl⟩) dX9_spell_27 rfl ?_
            rw [e25]
            first | (with_reducible refine chk1 ?_; refine tt_ifleN (t := 39) (q := 33) hc (by omega) dX9_spell_30 rfl rfl (fun c_30 => ?_) (fun c_30 => ?_)) | refine tt_ifle (t := 39) (q := 33) hc dX9_spell_30 rfl rfl (fun c_30 => ?_) (fun c_30 => ?_)
            · refine tt_iconst (v := nI 0) (q := 40) hc rfl dX9_spell_39 rfl ?_
              refine tt_is2 (q := 41) hc dX9_spell_40 rfl (by decide) ?_
              first
              | (have z : pp.length = 0 := c_30
                 rw [if_neg (by omega)] at hR
                 exact L2 8 0 pp ν rfl hf hY (by rw [popr8 s hsl, hps]; omega) hR)
              | (have z : 0 < pp.length := c_30
                 rw [if_pos z] at hR
                 exact L2 8 0 _ ν2 rfl (hf.tr hf2) hY2 (by rw [popr8 s hsl, hps, wrt_ln hl3]; omega) hR)
            · refine tt_al0 (q := 34) hc dX9_spell_33 rfl ?_
              refine tt_bipush (v := nI 32) (q := 36) hc (by decide) dX9_spell_34 rfl ?_
              refine tt_cV1 (q := 39) (d' := 0) (ci := 9) hc (by first | decide | omega) kmX9_writes ml_X9_333 (by first | assumption | exact ⟨by decide, _, rfl⟩) rfl (Nat.le_of_ble_eq_true rfl) dX9_spell_36 rfl ?_
              have hl3 : pp.length < 349 := by omega
              refine c_X9_writes hY hl3 (by decide) (fun ν2 hf2 hY2 => ?_)
              dsimp only [Option.toList, List.nil_append, List.cons_append]
              refine tt_iconst (v := nI 0) (q := 40) hc rfl dX9_spell_39 rfl ?_
              refine tt_is2 (q := 41) hc dX9_spell_40 rfl (by decide) ?_
              first
              | (have z : pp.length = 0 := c_30
                 rw [if_neg (by omega)] at hR
                 exact L2 8 0 pp ν rfl hf hY (by rw [popr8 s hsl, hps]; omega) hR)
              | (have z : 0 < pp.length := c_30
                 rw [if_pos z] at hR
                 exact L2 8 0 _ ν2 rfl (hf.tr hf2) hY2 (by rw [popr8 s hsl, hps, wrt_ln hl3]; omega) hR)
          · cases c_20
  refine tt_al0 (q := 1) hc dX9_spell_0 rfl ?_
  refine tt_iconst (v := nI 0) (q := 2) hc rfl dX9_spell_1 rfl ?_
  refine tt_putI (q := 5) hc fp_X9_330 (by first | assumption | exact ⟨by decide, _, rfl, _, rfl⟩) dX9_spell_2 rfl ?_
  refine tt_iconst (v := nI 1) (q := 6) hc rfl dX9_spell_5 rfl ?_
  refine tt_is1 (q := 7) hc dX9_spell_6 rfl (by decide) ?_
  exact L 255 1 0 [] _ _ rfl (mg.own (by decide)) ⟨Nat.zero_le _, rfl, fun i b h => by simp at h⟩ (by rw [Nat.zero_add]; exact hto) (Or.inl ⟨rfl, rfl⟩) hR
