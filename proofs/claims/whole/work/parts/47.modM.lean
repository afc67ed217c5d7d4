/-! THE MODEL: copy -/
set_option maxHeartbeats 4000000 in
theorem c_X9_copy {l : Launch} {v i w j n : Int32} {S : ST} {μ : Mem} {Q : Option Value → Mem → Prop} (hM : MR μ S) (hQ : ∀ μ', frm mL μ μ' → MR μ' (sp_copy v i w j n S).2 → Q (some (.int (sp_copy v i w j n S).1)) μ') : CC l 2 mX9_copy [.ref 24, .int v, .int i, .int w, .int j, .int n] μ Q := by
  refine CC.of (M := mX9_copy) (by decide +kernel) rfl (fun v h => by simp at h; rcases h with rfl | rfl | rfl | rfl | rfl | rfl <;> rfl) (Nat.le_of_ble_eq_true rfl) (fun X hX => ?_)
  have hc := hX.cx
  obtain ⟨K, B, hs, ks, im, ls, tx, pp⟩ := S
  have a5 := hM.2.2.2.2.1
  have a73 := HA73
  have q74 := HQ74
  dsimp only [sp_copy] at hQ
  have T : ∀ t xs t2 ys, t < 4 → v = nI t → ls t = some xs → t2 < 4 → w = nI t2 → ls t2 = some ys → inB v (nI 0) (nI 3) = true → inB w (nI 0) (nI 3) = true → TT X 37 [.ref 24, .int v, .int i, .int w, .int j, .int n] [] μ := by
    intro t xs t2 ys ht e1 hls ht2 e2 hls2 hin hin2
    subst e1
    subst e2
    rw [if_pos ⟨hin, hin2⟩, nI_clamp (by omega), nI_clamp (by omega), hls, hls2] at hQ
    dsimp only at hQ
    obtain ⟨x1, x2, x3⟩ := a5.so ht hls
    obtain ⟨y1, y2, y3⟩ := a5.so ht2 hls2
    have h1 : HA (108 + t) 0 40 := ⟨by omega, sh_li, by decide⟩
    have h2 : HA (108 + t2) 0 40 := ⟨by omega, sh_li, by decide⟩
    have NO : ¬ ((¬ i < 0 ∧ ¬ n < 0 ∧ i.toNatClampNeg + n.toNatClampNeg ≤ xs.length) ∧ (¬ j < 0 ∧ ¬ n < 0 ∧ j.toNatClampNeg + n.toNatClampNeg ≤ ys.length)) → Q (some (.int (-13))) μ := by
      intro hno
      by_cases c : n < 0 ∨ i < 0 ∨ j < 0
      · rw [if_pos c] at hQ
        exact hQ μ frm.rf hM
      · rw [if_neg c, if_neg (fun z => hno ⟨⟨fun a => c (Or.inr (Or.inl a)), fun a => c (Or.inl a), z.1⟩, ⟨fun a => c (Or.inr (Or.inr a)), fun a => c (Or.inl a), z.2⟩⟩)] at hQ
        exact hQ μ frm.rf hM
    have YES : (¬ i < 0 ∧ ¬ n < 0 ∧ i.toNatClampNeg + n.toNatClampNeg ≤ xs.length) → (¬ j < 0 ∧ ¬ n < 0 ∧ j.toNatClampNeg + n.toNatClampNeg ≤ ys.length) → TT X 63 [.ref 24, .int (nI t), .int i, .int (nI t2), .int j, .int n] [] μ := by
      intro z1 z2
      rw [if_neg (fun z => z.elim z1.2.1 (fun z => z.elim z1.1 z2.1)), if_pos ⟨z1.2.2, z2.2.2⟩] at hQ
      obtain ⟨n', hn, rfl⟩ := nI_of z1.2.1
      obtain ⟨i', hi, rfl⟩ := nI_of z1.1
      obtain ⟨j', hj, rfl⟩ := nI_of z2.1
      rw [nI_clamp hn, nI_clamp hi] at z1
      rw [nI_clamp hn, nI_clamp hj] at z2
      rw [nI_clamp hn, nI_clamp hi, nI_clamp hj] at hQ
      obtain ⟨-, -, z1⟩ := z1
      obtain ⟨-, -, z2⟩ := z2
      refine tt_al0 (q := 64) hc dX9_copy_63 rfl ?_
      refine tt_getR (q := 67) hc fl_X9_79 (by first | assumption | exact ⟨by decide, _, rfl, rfl⟩) dX9_copy_64 rfl ?_
      refine tt_il1 (q := 68) hc dX9_copy_67 rfl ?_
      refine tt_aald (q := 69) hc (r := _) (by first | assumption | exact ⟨by decide, rfl, by decide⟩) (by decide) (by omega) dX9_copy_68 rfl ?_
      refine tt_il2 (q := 70) hc dX9_copy_69 rfl ?_
      refine tt_al0 (q := 71) hc dX9_copy_70 rfl ?_
      refine tt_getR (q := 74) hc fl_X9_79 (by first | assumption | exact ⟨by decide, _, rfl, rfl⟩) dX9_copy_71 rfl ?_
      refine tt_il3 (q := 75) hc dX9_copy_74 rfl ?_
      refine tt_aald (q := 76) hc (r := _) (by first | assumption | exact ⟨by decide, rfl, by decide⟩) (by decide) (by omega) dX9_copy_75 rfl ?_
      refine tt_il4 (q := 78) hc dX9_copy_76 rfl ?_
      refine tt_il5 (q := 80) hc dX9_copy_78 rfl ?_
      refine tt_acopy (q := 83) hc (by decide) ac_X9_101 h1 h2 rfl rfl (by omega) (by omega) (fun _ _ => rfl) rfl dX9_copy_80 rfl ?_
      refine tt_il5 (q := 85) hc dX9_copy_83 rfl ?_
      refine tt_reti hX rfl dX9_copy_85 ?_
      refine hQ _ ((liL ht2).ml (by decide)) (hM.ls (liL ht2) (fun u hu => ?_))
      by_cases e : u = t2
      · subst e
        rw [show lset ls u (some (cpyL xs ys i' j' n')) u = some (cpyL xs ys i' j' n') from if_pos rfl]
        have cl : (cpyL xs ys i' j' n').length = ys.length := by simp [cpyL]
        refine ⟨by rw [cl]; exact y1, by rw [cl, mset_ne (by omega)]; exact y2, fun k x hk => ?_⟩
        have hk2 := (List.getElem?_eq_some_iff.mp hk).1
        rw [cl] at hk2
        simp only [cpyL, List.getElem?_map, List.getElem?_range hk2, Option.map_some, Option.some.injEq] at hk
        rw [mset_eq, va_cpy, ← hk]
        split
        · rename_i c
          exact x3 _ _ (getD_some (by omega))
        · exact y3 _ _ (getD_some hk2)
      · rw [show lset ls t2 (some (cpyL xs ys i' j' n')) u = ls u from if_neg e]
        have := a5 u hu
        rw [mset_ne (by omega), mset_ne (by omega)]
        exact this
    refine tt_al0 (q := 38) hc dX9_copy_37 rfl ?_
    refine tt_il1 (q := 39) hc dX9_copy_38 rfl ?_
    refine tt_il2 (q := 40) hc dX9_copy_39 rfl ?_
    refine tt_il5 (q := 42) hc dX9_copy_40 rfl ?_
    refine tt_cV3 (q := 45) (d' := 0) (ci := 9) hc (by first | decide | omega) kmX9_isSpan ml_X9_350 (by first | assumption | exact ⟨by decide, _, rfl⟩) rfl (Nat.le_of_ble_eq_true rfl) dX9_copy_42 rfl ?_
    refine c_X9_isSpan a5 ht hls ?_
    dsimp only [Option.toList, List.nil_append, List.cons_append]
    first | (with_reducible refine chkb ?_; refine tt_ifeqB (t := 60) (q := 48) hc dX9_copy_45 rfl rfl (fun c_45 => ?_) (fun c_45 => ?_)) | (with_reducible refine chk1 ?_; refine tt_ifeqN (t := 60) (q := 48) hc (by omega) dX9_copy_45 rfl rfl (fun c_45 => ?_) (fun c_45 => ?_)) | refine tt_ifeq (t := 60) (q := 48) hc dX9_copy_45 rfl rfl (fun c_45 => ?_) (fun c_45 => ?_)
    · refine tt_bipush (v := -13) (q := 62) hc (by decide) dX9_copy_60 rfl ?_
      refine tt_reti hX rfl dX9_copy_62 ?_
      first
      | exact NO (fun z => of_decide_eq_false c_45 z.1)
      | exact NO (fun z => of_decide_eq_false c_57 z.2)
    · refine tt_al0 (q := 49) hc dX9_copy_48 rfl ?_
      refine tt_il3 (q := 50) hc dX9_copy_49 rfl ?_
      refine tt_il4 (q := 52) hc dX9_copy_50 rfl ?_
      refine tt_il5 (q := 54) hc dX9_copy_52 rfl ?_
      refine tt_cV3 (q := 57) (d' := 0) (ci := 9) hc (by first | decide | omega) kmX9_isSpan ml_X9_350 (by first | assumption | exact ⟨by decide, _, rfl⟩) rfl (Nat.le_of_ble_eq_true rfl) dX9_copy_54 rfl ?_
      refine c_X9_isSpan a5 ht2 hls2 ?_
      dsimp only [Option.toList, List.nil_append, List.cons_append]
      first | (with_reducible refine chkb ?_; refine tt_ifneB (t := 63) (q := 60) hc dX9_copy_57 rfl rfl (fun c_57 => ?_) (fun c_57 => ?_)) | (with_reducible refine chk1 ?_; refine tt_ifneN (t := 63) (q := 60) hc (by omega) dX9_copy_57 rfl rfl (fun c_57 => ?_) (fun c_57 => ?_)) | refine tt_ifne (t := 63) (q := 60) hc dX9_copy_57 rfl rfl (fun c_57 => ?_) (fun c_57 => ?_)
      · exact YES (of_decide_eq_true c_45) (of_decide_eq_true c_57)
      · refine tt_bipush (v := -13) (q := 62) hc (by decide) dX9_copy_60 rfl ?_
        refine tt_reti hX rfl dX9_copy_62 ?_
        first
        | exact NO (fun z => of_decide_eq_false c_45 z.1)
        | exact NO (fun z => of_decide_eq_false c_57 z.2)
  have M : inB v (nI 0) (nI 3) = true → inB w (nI 0) (nI 3) = true → TT X 16 [.ref 24, .int v, .int i, .int w, .int j, .int n] [] μ := by
    intro hin hin2
    have N : (ls v.toNatClampNeg = none ∨ ls w.toNatClampNeg = none) → Q (some (.int (-11))) μ := by
      intro h3
      rw [if_pos ⟨hin, hin2⟩] at hQ
      rcases h3 with e | e
      · rw [e] at hQ
        exact hQ μ frm.rf hM
      · rw [e] at hQ
        cases hv : ls v.toNatClampNeg with
        | none =>
          rw [hv] at hQ
          exact hQ μ frm.rf hM
        | some xs =>
          rw [hv] at hQ
          exact hQ μ frm.rf hM
    obtain ⟨t, -, ht, hv⟩ := inB_t (by decide) (by decide) hin
    obtain ⟨t2, -, ht2, hw⟩ := inB_t (by decide) (by decide) hin2
    have T := T t
    have c1 : v.toNatClampNeg = t := by rw [hv]; exact nI_clamp (by omega)
    have c2 : w.toNatClampNeg = t2 := by rw [hw]; exact nI_clamp (by omega)
    rw [c1, c2] at N
    cases hls : ls t with
    | none =>
      have e := a5.no (by omega) hls
      rw [hv]
      refine tt_al0 (q := 17) hc dX9_copy_16 rfl ?_
      refine tt_getR (q := 20) hc fl_X9_76 (by first | assumption | exact ⟨by decide, _, rfl, rfl⟩) dX9_copy_17 rfl ?_
      refine tt_il1 (q := 21) hc dX9_copy_20 rfl ?_
      refine tt_iald (q := 22) hc (by first | assumption | exact ⟨by decide, rfl, by decide⟩) (by omega) dX9_copy_21 rfl ?_
      rw [e]
      refine tt_iflt (t := 34) (q := 25) hc dX9_copy_22 rfl rfl (fun c_22 => ?_) (fun c_22 => ?_)
      · refine tt_bipush (v := -11) (q := 36) hc (by decide) dX9_copy_34 rfl ?_
        refine tt_reti hX rfl dX9_copy_36 ?_
        exact N (Or.inl hls)
      · exact absurd (by decide) c_22
    | some xs =>
      have e := (a5.so (by omega) hls).2.1
      have el := (a5.so (by omega) hls).1
      cases hls2 : ls t2 with
      | none =>
        have e2 := a5.no (by omega) hls2
        rw [hv, hw]
        refine tt_al0 (q := 17) hc dX9_copy_16 rfl ?_
        refine tt_getR (q := 20) hc fl_X9_76 (by first | assumption | exact ⟨by decide, _, rfl, rfl⟩) dX9_copy_17 rfl ?_
        refine tt_il1 (q := 21) hc dX9_copy_20 rfl ?_
        refine tt_iald (q := 22) hc (by first | assumption | exact ⟨by decide, rfl, by decide⟩) (by omega) dX9_copy_21 rfl ?_
        rw [e]
        refine tt_iflt (t := 34) (q := 25) hc dX9_copy_22 rfl rfl (fun c_22 => ?_) (fun c_22 => ?_)
        · exact absurd c_22 (nI_pos (by omega))
        · refine tt_al0 (q := 26) hc dX9_copy_25 rfl ?_
          refine tt_getR (q := 29) hc fl_X9_76 (by first | assumption | exact ⟨by decide, _, rfl, rfl⟩) dX9_copy_26 rfl ?_
          refine tt_il3 (q := 30) hc dX9_copy_29 rfl ?_
          refine tt_iald (q := 31) hc (by first | assumption | exact ⟨by decide, rfl, by decide⟩) (by omega) dX9_copy_30 rfl ?_
          rw [e2]
          refine tt_ifge (t := 37) (q := 34) hc dX9_copy_31 rfl rfl (fun c_31 => ?_) (fun c_31 => ?_)
          · exact absurd c_31 (by decide)
          · refine tt_bipush (v := -11) (q := 36) hc (by decide) dX9_copy_34 rfl ?_
            refine tt_reti hX rfl dX9_copy_36 ?_
            exact N (Or.inr hls2)
      | some ys =>
        have e2 := (a5.so (by omega) hls2).2.1
        have el2 := (a5.so (by omega) hls2).1
        have T := T xs t2 ys (by omega) hv hls (by omega) hw hls2 hin hin2
        rw [hv, hw] at T ⊢
        refine tt_al0 (q := 17) hc dX9_copy_16 rfl ?_
        refine tt_getR (q := 20) hc fl_X9_76 (by first | assumption | exact ⟨by decide, _, rfl, rfl⟩) dX9_copy_17 rfl ?_
        refine tt_il1 (q := 21) hc dX9_copy_20 rfl ?_
        refine tt_iald (q := 22) hc (by first | assumption | exact ⟨by decide, rfl, by decide⟩) (by omega) dX9_copy_21 rfl ?_
        rw [e]
        refine tt_iflt (t := 34) (q := 25) hc dX9_copy_22 rfl rfl (fun c_22 => ?_) (fun c_22 => ?_)
        · exact absurd c_22 (nI_pos (by omega))
        · refine tt_al0 (q := 26) hc dX9_copy_25 rfl ?_
          refine tt_getR (q := 29) hc fl_X9_76 (by first | assumption | exact ⟨by decide, _, rfl, rfl⟩) dX9_copy_26 rfl ?_
          refine tt_il3 (q := 30) hc dX9_copy_29 rfl ?_
          refine tt_iald (q := 31) hc (by first | assumption | exact ⟨by decide, rfl, by decide⟩) (by omega) dX9_copy_30 rfl ?_
          rw [e2]
          refine tt_ifge (t := 37) (q := 34) hc dX9_copy_31 rfl rfl (fun c_31 => ?_) (fun c_31 => ?_)
          · exact T
          · exact absurd (nI_pos (by omega)) (fun z => z (Int32.not_le.mp c_31))
  refine tt_il1 (q := 1) hc dX9_copy_0 rfl ?_
  refine tt_cS1 (q := 4) (d' := 1) hc (by first | decide | omega) kmX9_isList ml_X9_336 (Nat.le_of_ble_eq_true rfl) dX9_copy_1 rfl ?_
  refine c_X9_isList ?_
  dsimp only [Option.toList, List.nil_append, List.cons_append]
  first | (with_reducible refine chkb ?_; refine tt_ifeqB (t := 14) (q := 7) hc dX9_copy_4 rfl rfl (fun c_4 => ?_) (fun c_4 => ?_)) | (with_reducible refine chk1 ?_; refine tt_ifeqN (t := 14) (q := 7) hc (by omega) dX9_copy_4 rfl rfl (fun c_4 => ?_) (fun c_4 => ?_)) | refine tt_ifeq (t := 14) (q := 7) hc dX9_copy_4 rfl rfl (fun c_4 => ?_) (fun c_4 => ?_)
  · refine tt_iconst (v := -1) (q := 15) hc rfl dX9_copy_14 rfl ?_
    refine tt_reti hX rfl dX9_copy_15 ?_
    first
    | (rw [if_neg (nand_l c_4)] at hQ; exact hQ μ frm.rf hM)
    | (rw [if_neg (nand_r c_11)] at hQ; exact hQ μ frm.rf hM)
  · refine tt_il3 (q := 8) hc dX9_copy_7 rfl ?_
    refine tt_cS1 (q := 11) (d' := 1) hc (by first | decide | omega) kmX9_isList ml_X9_336 (Nat.le_of_ble_eq_true rfl) dX9_copy_8 rfl ?_
    refine c_X9_isList ?_
    dsimp only [Option.toList, List.nil_append, List.cons_append]
    first | (with_reducible refine chkb ?_; refine tt_ifneB (t := 16) (q := 14) hc dX9_copy_11 rfl rfl (fun c_11 => ?_) (fun c_11 => ?_)) | (with_reducible refine chk1 ?_; refine tt_ifneN (t := 16) (q := 14) hc (by omega) dX9_copy_11 rfl rfl (fun c_11 => ?_) (fun c_11 => ?_)) | refine tt_ifne (t := 16) (q := 14) hc dX9_copy_11 rfl rfl (fun c_11 => ?_) (fun c_11 => ?_)
    · exact M c_4 c_11
    · refine tt_iconst (v := -1) (q := 15) hc rfl dX9_copy_14 rfl ?_
      refine tt_reti hX rfl dX9_copy_15 ?_
      first
      | (rw [if_neg (nand_l c_4)] at hQ; exact hQ μ frm.rf hM)
      | (rw [if_neg (nand_r c_11)] at hQ; exact hQ μ frm.rf hM)
