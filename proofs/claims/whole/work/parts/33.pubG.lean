/-! THE CLASS: list, put, get, copy, count -/
theorem CR.ls {μ μ' : Mem} {K : Nat} {B : HP} {hs : List HP} {ks : List (Nat × HP)} {im : Option (Nat × HP × List (Nat × HP))} {ls ls' : Nat → Option (List Int32)} {tx pp : List Nat} (h : CR μ (K, B, hs, ks, im, ls, tx, pp)) (hf : frm [16, 17] μ μ') (h' : LR μ' ls') : CR μ' (K, B, hs, ks, im, ls', tx, pp) := by
  obtain ⟨a1, a2, a3, a4, a5, a6, a7⟩ := h
  exact ⟨a1.frm hf (by decide) (by decide), a2.frm hf (by decide), a3.frm hf (by decide), a4.frm hf (by decide) (by decide) (by decide), h', a6.frm hf (by decide) (by decide), a7.frm hf (by decide) (by decide)⟩
def sp_list (v n : Int32) (S : ST) : Int32 × ST := match S with
  | (K, B, hs, ks, im, ls, tx, pp) => if inB v (nI 0) (nI 3) = true then (if nI 40 < n then (-2, S) else if n < 0 then (-14, S) else (1, (K, B, hs, ks, im, lset ls v.toNatClampNeg (some (List.replicate n.toNatClampNeg 0)), tx, pp))) else (-1, S)
set_option maxHeartbeats 4000000 in
theorem c_X8_list {l : Launch} {v n : Int32} {S : ST} {μ : Mem} {Q : Option Value → Mem → Prop} (hC : CR μ S) (hQ : ∀ μ', frm cL μ μ' → CR μ' (sp_list v n S).2 → Q (some (.int (sp_list v n S).1)) μ') : CC l 2 mX8_list [.ref 0, .int v, .int n] μ Q := by
  refine CC.of (M := mX8_list) (by decide +kernel) rfl (fun v h => by simp at h; rcases h with rfl | rfl | rfl <;> rfl) (Nat.le_of_ble_eq_true rfl) (fun X hX => ?_)
  have hc := hX.cx
  obtain ⟨K, B, hs, ks, im, ls, tx, pp⟩ := S
  have a5 := hC.2.2.2.2.1
  dsimp only [sp_list] at hQ
  refine tt_al0 (q := 1) hc dX8_list_0 rfl ?_
  refine tt_getR (q := 4) hc fl_X8_66 (by first | assumption | exact ⟨by decide, _, rfl, rfl⟩) dX8_list_1 rfl ?_
  refine tt_il1 (q := 5) hc dX8_list_4 rfl ?_
  refine tt_cV1 (q := 8) (d' := 0) (ci := 3) hc (by first | decide | omega) kmX3_isList ml_X8_189 (by first | assumption | exact ⟨by decide, _, rfl⟩) rfl (Nat.le_of_ble_eq_true rfl) dX8_list_5 rfl ?_
  refine c_X3_isList ?_
  dsimp only [Option.toList, List.nil_append, List.cons_append]
  first | (with_reducible refine chkb ?_; refine tt_ifneB (t := 13) (q := 11) hc dX8_list_8 rfl rfl (fun c_8 => ?_) (fun c_8 => ?_)) | (with_reducible refine chk1 ?_; refine tt_ifneN (t := 13) (q := 11) hc (by omega) dX8_list_8 rfl rfl (fun c_8 => ?_) (fun c_8 => ?_)) | refine tt_ifne (t := 13) (q := 11) hc dX8_list_8 rfl rfl (fun c_8 => ?_) (fun c_8 => ?_)
  · rw [if_pos c_8] at hQ
    refine tt_il2 (q := 14) hc dX8_list_13 rfl ?_
    refine tt_bipush (v := nI 40) (q := 16) hc (by decide) dX8_list_14 rfl ?_
    first | (with_reducible refine chk2 ?_; refine tt_icleN (t := 22) (q := 19) hc (by omega) (by omega) dX8_list_16 rfl rfl (fun c_16 => ?_) (fun c_16 => ?_)) | refine tt_icle (t := 22) (q := 19) hc dX8_list_16 rfl rfl (fun c_16 => ?_) (fun c_16 => ?_)
    · rw [if_neg (Int32.not_lt.mpr c_16)] at hQ
      refine tt_il2 (q := 23) hc dX8_list_22 rfl ?_
      refine tt_ifge (t := 29) (q := 26) hc dX8_list_23 rfl rfl (fun c_23 => ?_) (fun c_23 => ?_)
      · have c23 := Int32.not_lt.mpr c_23
        rw [if_neg c23] at hQ
        obtain ⟨t, -, ht, rfl⟩ := inB_t (by decide) (by decide) c_8
        obtain ⟨m, hm31, rfl⟩ := nI_of c23
        have hm : m ≤ 40 := (nI_leI hm31 (by decide)).mp c_16
        rw [nI_clamp (by omega), nI_clamp hm31] at hQ
        refine tt_al0 (q := 30) hc dX8_list_29 rfl ?_
        refine tt_getR (q := 33) hc fl_X8_66 (by first | assumption | exact ⟨by decide, _, rfl, rfl⟩) dX8_list_30 rfl ?_
        refine tt_il1 (q := 34) hc dX8_list_33 rfl ?_
        refine tt_il2 (q := 35) hc dX8_list_34 rfl ?_
        refine tt_cV2 (q := 38) (d' := 1) (ci := 3) hc (by first | decide | omega) kmX3_start ml_X8_261 (by first | assumption | exact ⟨by decide, _, rfl⟩) rfl (Nat.le_of_ble_eq_true rfl) dX8_list_35 rfl ?_
        refine c_X3_start a5 (by omega) hm (fun ν hf hL => ?_)
        dsimp only [Option.toList, List.nil_append, List.cons_append]
        refine tt_iconst (v := nI 1) (q := 39) hc rfl dX8_list_38 rfl ?_
        refine tt_reti hX rfl dX8_list_39 ?_
        exact hQ ν (hf.cl (by decide)) (hC.ls hf hL)
      · refine tt_bipush (v := -14) (q := 28) hc (by decide) dX8_list_26 rfl ?_
        refine tt_reti hX rfl dX8_list_28 ?_
        rw [if_pos (Int32.not_le.mp c_23)] at hQ
        exact hQ μ frm.rf hC
    · refine tt_bipush (v := -2) (q := 21) hc (by decide) dX8_list_19 rfl ?_
      refine tt_reti hX rfl dX8_list_21 ?_
      rw [if_pos (Int32.not_le.mp c_16)] at hQ
      exact hQ μ frm.rf hC
  · refine tt_iconst (v := -1) (q := 12) hc rfl dX8_list_11 rfl ?_
    refine tt_reti hX rfl dX8_list_12 ?_
    rw [if_neg (by rw [c_8]; exact Bool.false_ne_true)] at hQ
    exact hQ μ frm.rf hC
/-- what a changing list op answers before it begins -/
def sp_put (v i x : Int32) (S : ST) : Int32 × ST := match S with
  | (K, B, hs, ks, im, ls, tx, pp) => if inB v (nI 0) (nI 3) = true then (match ls v.toNatClampNeg with
    | none => (-11, S)
    | some xs => match lx xs i with
      | none => (-13, S)
      | some _ => (1, (K, B, hs, ks, im, lset ls v.toNatClampNeg (some (xs.set i.toNatClampNeg x)), tx, pp))) else (-1, S)
theorem LR.put {μ : Mem} {ls : Nat → Option (List Int32)} (h : LR μ ls) {t i : Nat} {x : Int32} {xs : List Int32} (ht : t < 4) (hx : ls t = some xs) (hi : i < xs.length) : LR (mset μ 16 (upd (μ 16) (t * 40 + i) x)) (lset ls t (some (xs.set i x))) := by
  have h1 := h.so ht hx
  intro u hu
  by_cases e : u = t
  · rw [show lset ls t (some (xs.set i x)) u = some (xs.set i x) from if_pos e]
    subst e
    refine ⟨by rw [List.length_set]; exact h1.1, by rw [List.length_set]; exact h1.2.1, fun k y hk => ?_⟩
    show upd (μ 16) (u * 40 + i) x (u * 40 + k) = y
    by_cases e2 : k = i
    · subst e2
      rw [List.getElem?_set_self hi] at hk
      rw [pk_us]
      exact Option.some.inj hk
    · rw [List.getElem?_set_ne (fun z => e2 z.symm)] at hk
      rw [pk_un (by omega)]
      exact h1.2.2 k y hk
  · rw [show lset ls t (some (xs.set i x)) u = ls u from if_neg e]
    cases hu2 : ls u with
    | none => exact h.no hu hu2
    | some ys =>
      have h2 := h.so hu hu2
      have := h1.1
      refine ⟨h2.1, h2.2.1, fun k y hk => ?_⟩
      have hk2 := (List.getElem?_eq_some_iff.mp hk).1
      have := h2.1
      show upd (μ 16) (t * 40 + i) x (u * 40 + k) = y
      rw [pk_un (by omega)]
      exact h2.2.2 k y hk
set_option maxHeartbeats 4000000 in
theorem c_X8_put {l : Launch} {v i x : Int32} {S : ST} {μ : Mem} {Q : Option Value → Mem → Prop} (hC : CR μ S) (hQ : ∀ μ', frm cL μ μ' → CR μ' (sp_put v i x S).2 → Q (some (.int (sp_put v i x S).1)) μ') : CC l 2 mX8_put [.ref 0, .int v, .int i, .int x] μ Q := by
  refine CC.of (M := mX8_put) (by decide +kernel) rfl (fun v h => by simp at h; rcases h with rfl | rfl | rfl | rfl <;> rfl) (Nat.le_of_ble_eq_true rfl) (fun X hX => ?_)
  have hc := hX.cx
  obtain ⟨K, B, hs, ks, im, ls, tx, pp⟩ := S
  have a5 := hC.2.2.2.2.1
  dsimp only [sp_put] at hQ
  rcases lst_cases ls v with ⟨hin, hst⟩ | ⟨t, ht, rfl, hin, hls, hst⟩ | ⟨t, xs, ht, rfl, hin, hls, hst⟩
  · rw [if_neg (by rw [hin]; exact Bool.false_ne_true)] at hQ
    refine tt_al0 (q := 1) hc dX8_put_0 rfl ?_
    refine tt_getR (q := 4) hc fl_X8_66 (by first | assumption | exact ⟨by decide, _, rfl, rfl⟩) dX8_put_1 rfl ?_
    refine tt_il1 (q := 5) hc dX8_put_4 rfl ?_
    refine tt_cV1 (q := 8) (d' := 1) (ci := 3) hc (by first | decide | omega) kmX3_state ml_X8_157 (by first | assumption | exact ⟨by decide, _, rfl⟩) rfl (Nat.le_of_ble_eq_true rfl) dX8_put_5 rfl ?_
    refine c_X3_state a5 ?_
    rw [hst]
    dsimp only [Option.toList, List.nil_append, List.cons_append]
    refine tt_is4 (q := 10) hc dX8_put_8 rfl (by decide) ?_
    refine tt_il4 (q := 12) hc dX8_put_10 rfl ?_
    refine tt_ifge (t := 18) (q := 15) hc dX8_put_12 rfl rfl (fun c_12 => ?_) (fun c_12 => ?_)
    · exact absurd c_12 (by decide)
    · refine tt_il4 (q := 17) hc dX8_put_15 rfl ?_
      refine tt_reti hX rfl dX8_put_17 ?_
      exact hQ μ frm.rf hC
  · rw [if_pos hin, nI_clamp (by omega), hls] at hQ
    refine tt_al0 (q := 1) hc dX8_put_0 rfl ?_
    refine tt_getR (q := 4) hc fl_X8_66 (by first | assumption | exact ⟨by decide, _, rfl, rfl⟩) dX8_put_1 rfl ?_
    refine tt_il1 (q := 5) hc dX8_put_4 rfl ?_
    refine tt_cV1 (q := 8) (d' := 1) (ci := 3) hc (by first | decide | omega) kmX3_state ml_X8_157 (by first | assumption | exact ⟨by decide, _, rfl⟩) rfl (Nat.le_of_ble_eq_true rfl) dX8_put_5 rfl ?_
    refine c_X3_state a5 ?_
    rw [hst]
    dsimp only [Option.toList, List.nil_append, List.cons_append]
    refine tt_is4 (q := 10) hc dX8_put_8 rfl (by decide) ?_
    refine tt_il4 (q := 12) hc dX8_put_10 rfl ?_
    refine tt_ifge (t := 18) (q := 15) hc dX8_put_12 rfl rfl (fun c_12 => ?_) (fun c_12 => ?_)
    · exact absurd c_12 (by decide)
    · refine tt_il4 (q := 17) hc dX8_put_15 rfl ?_
      refine tt_reti hX rfl dX8_put_17 ?_
      exact hQ μ frm.rf hC
  · rw [if_pos hin, nI_clamp (by omega), hls] at hQ
    dsimp only at hQ
    have hxl := (a5.so ht hls).1
    refine tt_al0 (q := 1) hc dX8_put_0 rfl ?_
    refine tt_getR (q := 4) hc fl_X8_66 (by first | assumption | exact ⟨by decide, _, rfl, rfl⟩) dX8_put_1 rfl ?_
    refine tt_il1 (q := 5) hc dX8_put_4 rfl ?_
    refine tt_cV1 (q := 8) (d' := 1) (ci := 3) hc (by first | decide | omega) kmX3_state ml_X8_157 (by first | assumption | exact ⟨by decide, _, rfl⟩) rfl (Nat.le_of_ble_eq_true rfl) dX8_put_5 rfl ?_
    refine c_X3_state a5 ?_
    rw [hst]
    dsimp only [Option.toList, List.nil_append, List.cons_append]
    refine tt_is4 (q := 10) hc dX8_put_8 rfl (by decide) ?_
    refine tt_il4 (q := 12) hc dX8_put_10 rfl ?_
    refine tt_ifge (t := 18) (q := 15) hc dX8_put_12 rfl rfl (fun c_12 => ?_) (fun c_12 => ?_)
    · refine tt_il2 (q := 19) hc dX8_put_18 rfl ?_
      refine tt_iflt (t := 34) (q := 22) hc dX8_put_19 rfl rfl (fun c_19 => ?_) (fun c_19 => ?_)
      · refine tt_bipush (v := -13) (q := 36) hc (by decide) dX8_put_34 rfl ?_
        refine tt_reti hX rfl dX8_put_36 ?_
        first
        | (rw [lx_lo c_19] at hQ; exact hQ μ frm.rf hC)
        | (rw [lx_hi (by omega) c_19 (Int32.not_lt.mp c_31)] at hQ; exact hQ μ frm.rf hC)
      · refine tt_il2 (q := 23) hc dX8_put_22 rfl ?_
        refine tt_al0 (q := 24) hc dX8_put_23 rfl ?_
        refine tt_getR (q := 27) hc fl_X8_66 (by first | assumption | exact ⟨by decide, _, rfl, rfl⟩) dX8_put_24 rfl ?_
        refine tt_il1 (q := 28) hc dX8_put_27 rfl ?_
        refine tt_cV1 (q := 31) (d' := 0) (ci := 3) hc (by first | decide | omega) kmX3_sizeOf ml_X8_163 (by first | assumption | exact ⟨by decide, _, rfl⟩) rfl (Nat.le_of_ble_eq_true rfl) dX8_put_28 rfl ?_
        refine c_X3_sizeOf a5 ht hls ?_
        dsimp only [Option.toList, List.nil_append, List.cons_append]
        first | (with_reducible refine chk2 ?_; refine tt_icltN (t := 37) (q := 34) hc (by omega) (by omega) dX8_put_31 rfl rfl (fun c_31 => ?_) (fun c_31 => ?_)) | refine tt_iclt (t := 37) (q := 34) hc dX8_put_31 rfl rfl (fun c_31 => ?_) (fun c_31 => ?_)
        · obtain ⟨n, b, rfl, hn, hb, hlx⟩ := lx_in (by omega) c_19 c_31
          rw [hlx, nI_clamp (by omega)] at hQ
          refine tt_al0 (q := 38) hc dX8_put_37 rfl ?_
          refine tt_getR (q := 41) hc fl_X8_66 (by first | assumption | exact ⟨by decide, _, rfl, rfl⟩) dX8_put_38 rfl ?_
          refine tt_il1 (q := 42) hc dX8_put_41 rfl ?_
          refine tt_il2 (q := 43) hc dX8_put_42 rfl ?_
          refine tt_il3 (q := 44) hc dX8_put_43 rfl ?_
          refine tt_cV3 (q := 47) (d' := 0) (ci := 3) hc (by first | decide | omega) kmX3_set ml_X8_265 (by first | assumption | exact ⟨by decide, _, rfl⟩) rfl (Nat.le_of_ble_eq_true rfl) dX8_put_44 rfl ?_
          refine c_X3_set ht (by omega) ?_
          dsimp only [Option.toList, List.nil_append, List.cons_append]
          refine tt_iconst (v := nI 1) (q := 48) hc rfl dX8_put_47 rfl ?_
          refine tt_reti hX rfl dX8_put_48 ?_
          exact hQ _ ((frm.set (i := 16)).cl (by decide)) (hC.ls ((frm.set (i := 16)).mono (by simp)) (a5.put ht hls hn))
        · refine tt_bipush (v := -13) (q := 36) hc (by decide) dX8_put_34 rfl ?_
          refine tt_reti hX rfl dX8_put_36 ?_
          first
          | (rw [lx_lo c_19] at hQ; exact hQ μ frm.rf hC)
          | (rw [lx_hi (by omega) c_19 (Int32.not_lt.mp c_31)] at hQ; exact hQ μ frm.rf hC)
    · exact absurd (by decide) c_12
def an_get (v i : Int32) (S : ST) : Int64 := match S with
  | (_, _, _, _, _, ls, _, _) => if inB v (nI 0) (nI 3) = true then (match ls v.toNatClampNeg with
    | none => -9223372036854775808
    | some xs => match lx xs i with
      | none => -9223372036854775808
      | some x => x.toInt64) else -9223372036854775808
set_option maxHeartbeats 4000000 in
theorem c_X8_get {l : Launch} {v i : Int32} {S : ST} {μ : Mem} {Q : Option Value → Mem → Prop} (hC : CR μ S) (hQ : ∀ μ', frm cL μ μ' → CR μ' S → Q (some (.long (an_get v i S))) μ') : CC l 2 mX8_get [.ref 0, .int v, .int i] μ Q := by
  refine CC.of (M := mX8_get) (by decide +kernel) rfl (fun v h => by simp at h; rcases h with rfl | rfl | rfl <;> rfl) (Nat.le_of_ble_eq_true rfl) (fun X hX => ?_)
  have hc := hX.cx
  obtain ⟨K, B, hs, ks, im, ls, tx, pp⟩ := S
  have a5 := hC.2.2.2.2.1
  have h := hQ μ frm.rf hC
  dsimp only [an_get] at h
  rcases lst_cases ls v with ⟨hin, hst⟩ | ⟨t, ht, rfl, hin, hls, hst⟩ | ⟨t, xs, ht, rfl, hin, hls, hst⟩
  · rw [if_neg (by rw [hin]; exact Bool.false_ne_true)] at h
    refine tt_al0 (q := 1) hc dX8_get_0 rfl ?_
    refine tt_getR (q := 4) hc fl_X8_66 (by first | assumption | exact ⟨by decide, _, rfl, rfl⟩) dX8_get_1 rfl ?_
    refine tt_il1 (q := 5) hc dX8_get_4 rfl ?_
    refine tt_cV1 (q := 8) (d' := 1) (ci := 3) hc (by first | decide | omega) kmX3_state ml_X8_157 (by first | assumption | exact ⟨by decide, _, rfl⟩) rfl (Nat.le_of_ble_eq_true rfl) dX8_get_5 rfl ?_
    refine c_X3_state a5 ?_
    rw [hst]
    dsimp only [Option.toList, List.nil_append, List.cons_append]
    refine tt_iflt (t := 27) (q := 11) hc dX8_get_8 rfl rfl (fun c_8 => ?_) (fun c_8 => ?_)
    · refine tt_ldc2 (q := 30) hc kc_X8_269 dX8_get_27 rfl ?_
      exact tt_retl hX rfl dX8_get_30 h
    · exact absurd (by decide) c_8
  · rw [if_pos hin, nI_clamp (by omega), hls] at h
    refine tt_al0 (q := 1) hc dX8_get_0 rfl ?_
    refine tt_getR (q := 4) hc fl_X8_66 (by first | assumption | exact ⟨by decide, _, rfl, rfl⟩) dX8_get_1 rfl ?_
    refine tt_il1 (q := 5) hc dX8_get_4 rfl ?_
    refine tt_cV1 (q := 8) (d' := 1) (ci := 3) hc (by first | decide | omega) kmX3_state ml_X8_157 (by first | assumption | exact ⟨by decide, _, rfl⟩) rfl (Nat.le_of_ble_eq_true rfl) dX8_get_5 rfl ?_
    refine c_X3_state a5 ?_
    rw [hst]
    dsimp only [Option.toList, List.nil_append, List.cons_append]
    refine tt_iflt (t := 27) (q := 11) hc dX8_get_8 rfl rfl (fun c_8 => ?_) (fun c_8 => ?_)
    · refine tt_ldc2 (q := 30) hc kc_X8_269 dX8_get_27 rfl ?_
      exact tt_retl hX rfl dX8_get_30 h
    · exact absurd (by decide) c_8
  · rw [if_pos hin, nI_clamp (by omega), hls] at h
    dsimp only at h
    have hxl := (a5.so ht hls).1
    refine tt_al0 (q := 1) hc dX8_get_0 rfl ?_
    refine tt_getR (q := 4) hc fl_X8_66 (by first | assumption | exact ⟨by decide, _, rfl, rfl⟩) dX8_get_1 rfl ?_
    refine tt_il1 (q := 5) hc dX8_get_4 rfl ?_
    refine tt_cV1 (q := 8) (d' := 1) (ci := 3) hc (by first | decide | omega) kmX3_state ml_X8_157 (by first | assumption | exact ⟨by decide, _, rfl⟩) rfl (Nat.le_of_ble_eq_true rfl) dX8_get_5 rfl ?_
    refine c_X3_state a5 ?_
    rw [hst]
    dsimp only [Option.toList, List.nil_append, List.cons_append]
    refine tt_iflt (t := 27) (q := 11) hc dX8_get_8 rfl rfl (fun c_8 => ?_) (fun c_8 => ?_)
    · exact absurd c_8 (by decide)
    · refine tt_il2 (q := 12) hc dX8_get_11 rfl ?_
      refine tt_iflt (t := 27) (q := 15) hc dX8_get_12 rfl rfl (fun c_12 => ?_) (fun c_12 => ?_)
      · refine tt_ldc2 (q := 30) hc kc_X8_269 dX8_get_27 rfl ?_
        first
        | (rw [lx_lo c_12] at h; exact tt_retl hX rfl dX8_get_30 h)
        | (rw [lx_hi (by omega) c_12 (Int32.not_lt.mp c_24)] at h; exact tt_retl hX rfl dX8_get_30 h)
      · refine tt_il2 (q := 16) hc dX8_get_15 rfl ?_
        refine tt_al0 (q := 17) hc dX8_get_16 rfl ?_
        refine tt_getR (q := 20) hc fl_X8_66 (by first | assumption | exact ⟨by decide, _, rfl, rfl⟩) dX8_get_17 rfl ?_
        refine tt_il1 (q := 21) hc dX8_get_20 rfl ?_
        refine tt_cV1 (q := 24) (d' := 0) (ci := 3) hc (by first | decide | omega) kmX3_sizeOf ml_X8_163 (by first | assumption | exact ⟨by decide, _, rfl⟩) rfl (Nat.le_of_ble_eq_true rfl) dX8_get_21 rfl ?_
        refine c_X3_sizeOf a5 ht hls ?_
        dsimp only [Option.toList, List.nil_append, List.cons_append]
        first | (with_reducible refine chk2 ?_; refine tt_icltN (t := 31) (q := 27) hc (by omega) (by omega) dX8_get_24 rfl rfl (fun c_24 => ?_) (fun c_24 => ?_)) | refine tt_iclt (t := 31) (q := 27) hc dX8_get_24 rfl rfl (fun c_24 => ?_) (fun c_24 => ?_)
        · obtain ⟨n, b, rfl, hn, hb, hlx⟩ := lx_in (by omega) c_12 c_24
          rw [hlx] at h
          refine tt_al0 (q := 32) hc dX8_get_31 rfl ?_
          refine tt_getR (q := 35) hc fl_X8_66 (by first | assumption | exact ⟨by decide, _, rfl, rfl⟩) dX8_get_32 rfl ?_
          refine tt_il1 (q := 36) hc dX8_get_35 rfl ?_
          refine tt_il2 (q := 37) hc dX8_get_36 rfl ?_
          refine tt_cV2 (q := 40) (d' := 0) (ci := 3) hc (by first | decide | omega) kmX3_at ml_X8_192 (by first | assumption | exact ⟨by decide, _, rfl⟩) rfl (Nat.le_of_ble_eq_true rfl) dX8_get_37 rfl ?_
          refine c_X3_at a5 ht hls hb ?_
          dsimp only [Option.toList, List.nil_append, List.cons_append]
          refine tt_i2l (q := 41) hc rfl dX8_get_40 rfl ?_
          exact tt_retl hX rfl dX8_get_41 h
        · refine tt_ldc2 (q := 30) hc kc_X8_269 dX8_get_27 rfl ?_
          first
          | (rw [lx_lo c_12] at h; exact tt_retl hX rfl dX8_get_30 h)
          | (rw [lx_hi (by omega) c_12 (Int32.not_lt.mp c_24)] at h; exact tt_retl hX rfl dX8_get_30 h)
def an_count (v : Int32) (S : ST) : Int32 := match S with
  | (_, B, hs, ks, _, _, tx, pp) => if v = nI 0 then nI (tot B) else if v = nI 1 then nI ks.length else if v = nI 2 then nI hs.length else if v = nI 3 then nI tx.length else if v = nI 4 then nI pp.length else -2
set_option maxHeartbeats 4000000 in
theorem c_X8_count {l : Launch} {v : Int32} {S : ST} {μ : Mem} {Q : Option Value → Mem → Prop} (hC : CR μ S) (hQ : ∀ μ', frm cL μ μ' → CR μ' S → Q (some (.int (an_count v S))) μ') : CC l 4 mX8_count [.ref 0, .int v] μ Q := by
  refine CC.of (M := mX8_count) (by decide +kernel) rfl (fun v h => by simp at h; rcases h with rfl | rfl <;> rfl) (Nat.le_of_ble_eq_true rfl) (fun X hX => ?_)
  have hc := hX.cx
  obtain ⟨K, B, hs, ks, im, ls, tx, pp⟩ := S
  obtain ⟨a1, a2, a3, a4, a5, a6, a7⟩ := id hC
  have e2 := a2.2.1
  have e3 := a3.2.1
  have e6 := a6.2.1
  have e7 := a7.2.1
  have h := hQ μ frm.rf hC
  dsimp only [an_count] at h
  refine tt_il1 (q := 1) hc dX8_count_0 rfl ?_
  rcases sw_n v 5 (by decide) with ⟨j, hj, rfl⟩ | hout
  · rcases (show j = 0 ∨ j = 1 ∨ j = 2 ∨ j = 3 ∨ j = 4 by omega) with rfl | rfl | rfl | rfl | rfl
    · refine tt_tswI (t := 36) hc dX8_count_1 (by decide) (by decide) rfl rfl ?_
      refine tt_al0 (q := 37) hc dX8_count_36 rfl ?_
      refine tt_getR (q := 40) hc fl_X8_12 (by first | assumption | exact ⟨by decide, _, rfl, rfl⟩) dX8_count_37 rfl ?_
      refine tt_cV0 (q := 43) (d' := 0) (ci := 0) hc (by first | decide | omega) kmX0_total ml_X8_99 (by first | assumption | exact ⟨by decide, _, rfl⟩) rfl (Nat.le_of_ble_eq_true rfl) dX8_count_40 rfl ?_
      refine c_X0_total (j := 0) (by decide) a1 ?_
      dsimp only [Option.toList, List.nil_append, List.cons_append]
      refine tt_reti hX rfl dX8_count_43 ?_
      exact h
    · refine tt_tswI (t := 44) hc dX8_count_1 (by decide) (by decide) rfl rfl ?_
      refine tt_al0 (q := 45) hc dX8_count_44 rfl ?_
      refine tt_getR (q := 48) hc fl_X8_35 (by first | assumption | exact ⟨by decide, _, rfl, rfl⟩) dX8_count_45 rfl ?_
      refine tt_getI (q := 51) hc fl_X8_211 (by first | assumption | exact ⟨by decide, _, rfl, _, rfl⟩) dX8_count_48 rfl ?_
      rw [e3]
      refine tt_reti hX rfl dX8_count_51 ?_
      exact h
    · refine tt_tswI (t := 52) hc dX8_count_1 (by decide) (by decide) rfl rfl ?_
      refine tt_al0 (q := 53) hc dX8_count_52 rfl ?_
      refine tt_getR (q := 56) hc fl_X8_28 (by first | assumption | exact ⟨by decide, _, rfl, rfl⟩) dX8_count_53 rfl ?_
      refine tt_getI (q := 59) hc fl_X8_202 (by first | assumption | exact ⟨by decide, _, rfl, _, rfl⟩) dX8_count_56 rfl ?_
      rw [e2]
      refine tt_reti hX rfl dX8_count_59 ?_
      exact h
    · refine tt_tswI (t := 60) hc dX8_count_1 (by decide) (by decide) rfl rfl ?_
      refine tt_al0 (q := 61) hc dX8_count_60 rfl ?_
      refine tt_getR (q := 64) hc fl_X8_73 (by first | assumption | exact ⟨by decide, _, rfl, rfl⟩) dX8_count_61 rfl ?_
      refine tt_getI (q := 67) hc fl_X8_240 (by first | assumption | exact ⟨by decide, _, rfl, _, rfl⟩) dX8_count_64 rfl ?_
      rw [e6]
      refine tt_reti hX rfl dX8_count_67 ?_
      exact h
    · refine tt_tswI (t := 68) hc dX8_count_1 (by decide) (by decide) rfl rfl ?_
      refine tt_al0 (q := 69) hc dX8_count_68 rfl ?_
      refine tt_getI (q := 72) hc fl_X8_252 (by first | assumption | exact ⟨by decide, _, rfl, _, rfl⟩) dX8_count_69 rfl ?_
      rw [e7]
      refine tt_reti hX rfl dX8_count_72 ?_
      exact h
  · refine tt_tswO (t := 73) hc dX8_count_1 hout rfl ?_
    refine tt_bipush (v := -2) (q := 75) hc (by decide) dX8_count_73 rfl ?_
    refine tt_reti hX rfl dX8_count_75 ?_
    rw [if_neg (nI_neq (by omega) (by decide) hout), if_neg (nI_neq (by omega) (by decide) hout), if_neg (nI_neq (by omega) (by decide) hout), if_neg (nI_neq (by omega) (by decide) hout), if_neg (nI_neq (by omega) (by decide) hout)] at h
    exact h
theorem nI_int {n : Nat} (h : n < 2 ^ 31) : (nI n).toInt = n := by
  have := nI_clamp h
  have h0 := nI_pos h
  have h1 : ¬ (nI n).toInt < 0 := fun z => h0 (Int32.lt_iff_toInt_lt.mpr (by rw [show (0 : Int32).toInt = 0 by decide]; exact z))
  rw [Int32.toNatClampNeg] at this
  omega
theorem sub_lt {a n i : Nat} (ha : a ≤ 40) (hn : n < 2 ^ 31) (hi : i < 2 ^ 31) : (nI i ≤ nI a - nI n) ↔ i + n ≤ a := by
  have e : (nI a - nI n).toInt = (a : Int) - n := by
    rw [Int32.toInt_sub, nI_int (by omega), nI_int hn, Int.bmod_eq_of_le (by omega) (by omega)]
  rw [Int32.le_iff_toInt_le, e, nI_int hi]
  omega
def sp_copy (v i w j n : Int32) (S : ST) : Int32 × ST := match S with
  | (K, B, hs, ks, im, ls, tx, pp) => if inB v (nI 0) (nI 3) = true ∧ inB w (nI 0) (nI 3) = true then (match ls v.toNatClampNeg, ls w.toNatClampNeg with
    | some xs, some ys => if n < 0 ∨ i < 0 ∨ j < 0 then (-13, S) else if i.toNatClampNeg + n.toNatClampNeg ≤ xs.length ∧ j.toNatClampNeg + n.toNatClampNeg ≤ ys.length then (n, (K, B, hs, ks, im, lset ls w.toNatClampNeg (some (cpyL xs ys i.toNatClampNeg j.toNatClampNeg n.toNatClampNeg)), tx, pp)) else (-13, S)
    | _, _ => (-11, S)) else (-1, S)
set_option maxHeartbeats 4000000 in
theorem c_X8_copy {l : Launch} {v i w j n : Int32} {S : ST} {μ : Mem} {Q : Option Value → Mem → Prop} (hC : CR μ S) (hQ : ∀ μ', frm cL μ μ' → CR μ' (sp_copy v i w j n S).2 → Q (some (.int (sp_copy v i w j n S).1)) μ') : CC l 2 mX8_copy [.ref 0, .int v, .int i, .int w, .int j, .int n] μ Q := by
  refine CC.of (M := mX8_copy) (by decide +kernel) rfl (fun v h => by simp at h; rcases h with rfl | rfl | rfl | rfl | rfl | rfl <;> rfl) (Nat.le_of_ble_eq_true rfl) (fun X hX => ?_)
  have hc := hX.cx
  obtain ⟨K, B, hs, ks, im, ls, tx, pp⟩ := S
  have a5 := hC.2.2.2.2.1
  dsimp only [sp_copy] at hQ
  have ST3 : ∀ {u : Int32}, inB u (nI 0) (nI 3) = true → (ls u.toNatClampNeg = none ∧ lst ls u = -11) ∨ (∃ t xs, t < 4 ∧ u = nI t ∧ ls t = some xs ∧ lst ls u = 0) := by
    intro u hu
    rcases lst_cases ls u with ⟨hin, hst⟩ | ⟨t, ht, rfl, hin, hls, hst⟩ | ⟨t, xs, ht, rfl, hin, hls, hst⟩
    · rw [hin] at hu
      cases hu
    · exact Or.inl ⟨by rw [nI_clamp (by omega)]; exact hls, hst⟩
    · exact Or.inr ⟨t, xs, ht, rfl, hls, hst⟩
  have N : inB v (nI 0) (nI 3) = true → inB w (nI 0) (nI 3) = true → (ls v.toNatClampNeg = none ∨ ls w.toNatClampNeg = none) → Q (some (.int (-11))) μ := by
    intro h1 h2 h3
    rw [if_pos ⟨h1, h2⟩] at hQ
    rcases h3 with e | e
    · rw [e] at hQ
      exact hQ μ frm.rf hC
    · rw [e] at hQ
      cases hv : ls v.toNatClampNeg with
      | none =>
        rw [hv] at hQ
        exact hQ μ frm.rf hC
      | some xs =>
        rw [hv] at hQ
        exact hQ μ frm.rf hC
  have F1 : lst ls v = -11 → Q (some (.int (-11))) μ → TT X 24 [.ref 0, .int v, .int i, .int w, .int j, .int n] [] μ := by
    intro hst h
    refine tt_al0 (q := 25) hc dX8_copy_24 rfl ?_
    refine tt_getR (q := 28) hc fl_X8_66 (by first | assumption | exact ⟨by decide, _, rfl, rfl⟩) dX8_copy_25 rfl ?_
    refine tt_il1 (q := 29) hc dX8_copy_28 rfl ?_
    refine tt_cV1 (q := 32) (d' := 1) (ci := 3) hc (by first | decide | omega) kmX3_state ml_X8_157 (by first | assumption | exact ⟨by decide, _, rfl⟩) rfl (Nat.le_of_ble_eq_true rfl) dX8_copy_29 rfl ?_
    refine c_X3_state a5 ?_
    rw [hst]
    dsimp only [Option.toList, List.nil_append, List.cons_append]
    refine tt_iflt (t := 46) (q := 35) hc dX8_copy_32 rfl rfl (fun c_32 => ?_) (fun c_32 => ?_)
    · refine tt_bipush (v := -11) (q := 48) hc (by decide) dX8_copy_46 rfl ?_
      refine tt_reti hX rfl dX8_copy_48 ?_
      exact h
    · exact absurd (by decide) c_32
  have F2 : lst ls v = 0 → lst ls w = -11 → Q (some (.int (-11))) μ → TT X 24 [.ref 0, .int v, .int i, .int w, .int j, .int n] [] μ := by
    intro hst hst2 h
    refine tt_al0 (q := 25) hc dX8_copy_24 rfl ?_
    refine tt_getR (q := 28) hc fl_X8_66 (by first | assumption | exact ⟨by decide, _, rfl, rfl⟩) dX8_copy_25 rfl ?_
    refine tt_il1 (q := 29) hc dX8_copy_28 rfl ?_
    refine tt_cV1 (q := 32) (d' := 1) (ci := 3) hc (by first | decide | omega) kmX3_state ml_X8_157 (by first | assumption | exact ⟨by decide, _, rfl⟩) rfl (Nat.le_of_ble_eq_true rfl) dX8_copy_29 rfl ?_
    refine c_X3_state a5 ?_
    rw [hst]
    dsimp only [Option.toList, List.nil_append, List.cons_append]
    refine tt_iflt (t := 46) (q := 35) hc dX8_copy_32 rfl rfl (fun c_32 => ?_) (fun c_32 => ?_)
    · exact absurd c_32 (by decide)
    · refine tt_al0 (q := 36) hc dX8_copy_35 rfl ?_
      refine tt_getR (q := 39) hc fl_X8_66 (by first | assumption | exact ⟨by decide, _, rfl, rfl⟩) dX8_copy_36 rfl ?_
      refine tt_il3 (q := 40) hc dX8_copy_39 rfl ?_
      refine tt_cV1 (q := 43) (d' := 1) (ci := 3) hc (by first | decide | omega) kmX3_state ml_X8_157 (by first | assumption | exact ⟨by decide, _, rfl⟩) rfl (Nat.le_of_ble_eq_true rfl) dX8_copy_40 rfl ?_
      refine c_X3_state a5 ?_
      rw [hst2]
      dsimp only [Option.toList, List.nil_append, List.cons_append]
      refine tt_ifge (t := 49) (q := 46) hc dX8_copy_43 rfl rfl (fun c_43 => ?_) (fun c_43 => ?_)
      · exact absurd c_43 (by decide)
      · refine tt_bipush (v := -11) (q := 48) hc (by decide) dX8_copy_46 rfl ?_
        refine tt_reti hX rfl dX8_copy_48 ?_
        exact h
  have F3 : lst ls v = 0 → lst ls w = 0 → TT X 49 [.ref 0, .int v, .int i, .int w, .int j, .int n] [] μ → TT X 24 [.ref 0, .int v, .int i, .int w, .int j, .int n] [] μ := by
    intro hst hst2 h
    refine tt_al0 (q := 25) hc dX8_copy_24 rfl ?_
    refine tt_getR (q := 28) hc fl_X8_66 (by first | assumption | exact ⟨by decide, _, rfl, rfl⟩) dX8_copy_25 rfl ?_
    refine tt_il1 (q := 29) hc dX8_copy_28 rfl ?_
    refine tt_cV1 (q := 32) (d' := 1) (ci := 3) hc (by first | decide | omega) kmX3_state ml_X8_157 (by first | assumption | exact ⟨by decide, _, rfl⟩) rfl (Nat.le_of_ble_eq_true rfl) dX8_copy_29 rfl ?_
    refine c_X3_state a5 ?_
    rw [hst]
    dsimp only [Option.toList, List.nil_append, List.cons_append]
    refine tt_iflt (t := 46) (q := 35) hc dX8_copy_32 rfl rfl (fun c_32 => ?_) (fun c_32 => ?_)
    · exact absurd c_32 (by decide)
    · refine tt_al0 (q := 36) hc dX8_copy_35 rfl ?_
      refine tt_getR (q := 39) hc fl_X8_66 (by first | assumption | exact ⟨by decide, _, rfl, rfl⟩) dX8_copy_36 rfl ?_
      refine tt_il3 (q := 40) hc dX8_copy_39 rfl ?_
      refine tt_cV1 (q := 43) (d' := 1) (ci := 3) hc (by first | decide | omega) kmX3_state ml_X8_157 (by first | assumption | exact ⟨by decide, _, rfl⟩) rfl (Nat.le_of_ble_eq_true rfl) dX8_copy_40 rfl ?_
      refine c_X3_state a5 ?_
      rw [hst2]
      dsimp only [Option.toList, List.nil_append, List.cons_append]
      refine tt_ifge (t := 49) (q := 46) hc dX8_copy_43 rfl rfl (fun c_43 => ?_) (fun c_43 => ?_)
      · exact h
      · exact absurd (by decide) c_43
  have T : ∀ t xs t2 ys, t < 4 → v = nI t → ls t = some xs → t2 < 4 → w = nI t2 → ls t2 = some ys → inB v (nI 0) (nI 3) = true → inB w (nI 0) (nI 3) = true → TT X 49 [.ref 0, .int v, .int i, .int w, .int j, .int n] [] μ := by
    intro t xs t2 ys ht e1 hls ht2 e2 hls2 hin hin2
    subst e1
    subst e2
    rw [if_pos ⟨hin, hin2⟩, nI_clamp (by omega), nI_clamp (by omega), hls, hls2] at hQ
    dsimp only at hQ
    have hxl := (a5.so ht hls).1
    have hyl := (a5.so ht2 hls2).1
    refine tt_il5 (q := 51) hc dX8_copy_49 rfl ?_
    refine tt_iflt (t := 63) (q := 54) hc dX8_copy_51 rfl rfl (fun c_51 => ?_) (fun c_51 => ?_)
    · refine tt_bipush (v := -13) (q := 65) hc (by decide) dX8_copy_63 rfl ?_
      refine tt_reti hX rfl dX8_copy_65 ?_
      first
      | (rw [if_pos (Or.inl c_51)] at hQ; exact hQ μ frm.rf hC)
      | (rw [if_pos (Or.inr (Or.inl c_55))] at hQ; exact hQ μ frm.rf hC)
      | (rw [if_pos (Or.inr (Or.inr (Int32.not_le.mp c_60)))] at hQ; exact hQ μ frm.rf hC)
    · refine tt_il2 (q := 55) hc dX8_copy_54 rfl ?_
      refine tt_iflt (t := 63) (q := 58) hc dX8_copy_55 rfl rfl (fun c_55 => ?_) (fun c_55 => ?_)
      · refine tt_bipush (v := -13) (q := 65) hc (by decide) dX8_copy_63 rfl ?_
        refine tt_reti hX rfl dX8_copy_65 ?_
        first
        | (rw [if_pos (Or.inl c_51)] at hQ; exact hQ μ frm.rf hC)
        | (rw [if_pos (Or.inr (Or.inl c_55))] at hQ; exact hQ μ frm.rf hC)
        | (rw [if_pos (Or.inr (Or.inr (Int32.not_le.mp c_60)))] at hQ; exact hQ μ frm.rf hC)
      · refine tt_il4 (q := 60) hc dX8_copy_58 rfl ?_
        refine tt_ifge (t := 66) (q := 63) hc dX8_copy_60 rfl rfl (fun c_60 => ?_) (fun c_60 => ?_)
        · have c60 := Int32.not_lt.mpr c_60
          rw [if_neg (fun z => z.elim c_51 (fun z => z.elim c_55 c60))] at hQ
          obtain ⟨n', hn, rfl⟩ := nI_of c_51
          obtain ⟨i', hi, rfl⟩ := nI_of c_55
          obtain ⟨j', hj, rfl⟩ := nI_of c60
          rw [nI_clamp hn, nI_clamp hi, nI_clamp hj] at hQ
          refine tt_il2 (q := 67) hc dX8_copy_66 rfl ?_
          refine tt_al0 (q := 68) hc dX8_copy_67 rfl ?_
          refine tt_getR (q := 71) hc fl_X8_66 (by first | assumption | exact ⟨by decide, _, rfl, rfl⟩) dX8_copy_68 rfl ?_
          refine tt_il1 (q := 72) hc dX8_copy_71 rfl ?_
          refine tt_cV1 (q := 75) (d' := 0) (ci := 3) hc (by first | decide | omega) kmX3_sizeOf ml_X8_163 (by first | assumption | exact ⟨by decide, _, rfl⟩) rfl (Nat.le_of_ble_eq_true rfl) dX8_copy_72 rfl ?_
          refine c_X3_sizeOf a5 ht hls ?_
          dsimp only [Option.toList, List.nil_append, List.cons_append]
          refine tt_il5 (q := 77) hc dX8_copy_75 rfl ?_
          refine tt_isub (q := 78) hc dX8_copy_77 rfl ?_
          first | (with_reducible refine chk2 ?_; refine tt_icgtN (t := 97) (q := 81) hc (by omega) (by omega) dX8_copy_78 rfl rfl (fun c_78 => ?_) (fun c_78 => ?_)) | refine tt_icgt (t := 97) (q := 81) hc dX8_copy_78 rfl rfl (fun c_78 => ?_) (fun c_78 => ?_)
          · refine tt_bipush (v := -13) (q := 99) hc (by decide) dX8_copy_97 rfl ?_
            refine tt_reti hX rfl dX8_copy_99 ?_
            first
            | (rw [if_neg (fun z => Int32.not_le.mpr c_78 ((sub_lt hxl hn hi).mpr z.1))] at hQ; exact hQ μ frm.rf hC)
            | (rw [if_neg (fun z => c_94 ((sub_lt hyl hn hj).mpr z.2))] at hQ; exact hQ μ frm.rf hC)
          · refine tt_il4 (q := 83) hc dX8_copy_81 rfl ?_
            refine tt_al0 (q := 84) hc dX8_copy_83 rfl ?_
            refine tt_getR (q := 87) hc fl_X8_66 (by first | assumption | exact ⟨by decide, _, rfl, rfl⟩) dX8_copy_84 rfl ?_
            refine tt_il3 (q := 88) hc dX8_copy_87 rfl ?_
            refine tt_cV1 (q := 91) (d' := 0) (ci := 3) hc (by first | decide | omega) kmX3_sizeOf ml_X8_163 (by first | assumption | exact ⟨by decide, _, rfl⟩) rfl (Nat.le_of_ble_eq_true rfl) dX8_copy_88 rfl ?_
            refine c_X3_sizeOf a5 ht2 hls2 ?_
            dsimp only [Option.toList, List.nil_append, List.cons_append]
            refine tt_il5 (q := 93) hc dX8_copy_91 rfl ?_
            refine tt_isub (q := 94) hc dX8_copy_93 rfl ?_
            first | (with_reducible refine chk2 ?_; refine tt_icleN (t := 100) (q := 97) hc (by omega) (by omega) dX8_copy_94 rfl rfl (fun c_94 => ?_) (fun c_94 => ?_)) | refine tt_icle (t := 100) (q := 97) hc dX8_copy_94 rfl rfl (fun c_94 => ?_) (fun c_94 => ?_)
            · have b1 := (sub_lt hxl hn hi).mp (Int32.not_lt.mp c_78)
              have b2 := (sub_lt hyl hn hj).mp c_94
              rw [if_pos ⟨b1, b2⟩] at hQ
              refine tt_al0 (q := 101) hc dX8_copy_100 rfl ?_
              refine tt_getR (q := 104) hc fl_X8_66 (by first | assumption | exact ⟨by decide, _, rfl, rfl⟩) dX8_copy_101 rfl ?_
              refine tt_il1 (q := 105) hc dX8_copy_104 rfl ?_
              refine tt_il2 (q := 106) hc dX8_copy_105 rfl ?_
              refine tt_il3 (q := 107) hc dX8_copy_106 rfl ?_
              refine tt_il4 (q := 109) hc dX8_copy_107 rfl ?_
              refine tt_il5 (q := 111) hc dX8_copy_109 rfl ?_
              refine tt_cV5 (q := 114) (d' := 1) (ci := 3) hc (by first | decide | omega) kmX3_move ml_X8_271 (by first | assumption | exact ⟨by decide, _, rfl⟩) rfl (Nat.le_of_ble_eq_true rfl) dX8_copy_111 rfl ?_
              refine c_X3_move a5 ht ht2 hls hls2 b1 b2 (fun ν hf hL => ?_)
              dsimp only [Option.toList, List.nil_append, List.cons_append]
              refine tt_il5 (q := 116) hc dX8_copy_114 rfl ?_
              refine tt_reti hX rfl dX8_copy_116 ?_
              exact hQ ν (hf.cl (by decide)) (hC.ls (hf.mono (by simp)) hL)
            · refine tt_bipush (v := -13) (q := 99) hc (by decide) dX8_copy_97 rfl ?_
              refine tt_reti hX rfl dX8_copy_99 ?_
              first
              | (rw [if_neg (fun z => Int32.not_le.mpr c_78 ((sub_lt hxl hn hi).mpr z.1))] at hQ; exact hQ μ frm.rf hC)
              | (rw [if_neg (fun z => c_94 ((sub_lt hyl hn hj).mpr z.2))] at hQ; exact hQ μ frm.rf hC)
        · refine tt_bipush (v := -13) (q := 65) hc (by decide) dX8_copy_63 rfl ?_
          refine tt_reti hX rfl dX8_copy_65 ?_
          first
          | (rw [if_pos (Or.inl c_51)] at hQ; exact hQ μ frm.rf hC)
          | (rw [if_pos (Or.inr (Or.inl c_55))] at hQ; exact hQ μ frm.rf hC)
          | (rw [if_pos (Or.inr (Or.inr (Int32.not_le.mp c_60)))] at hQ; exact hQ μ frm.rf hC)
  refine tt_al0 (q := 1) hc dX8_copy_0 rfl ?_
  refine tt_getR (q := 4) hc fl_X8_66 (by first | assumption | exact ⟨by decide, _, rfl, rfl⟩) dX8_copy_1 rfl ?_
  refine tt_il1 (q := 5) hc dX8_copy_4 rfl ?_
  refine tt_cV1 (q := 8) (d' := 0) (ci := 3) hc (by first | decide | omega) kmX3_isList ml_X8_189 (by first | assumption | exact ⟨by decide, _, rfl⟩) rfl (Nat.le_of_ble_eq_true rfl) dX8_copy_5 rfl ?_
  refine c_X3_isList ?_
  dsimp only [Option.toList, List.nil_append, List.cons_append]
  first | (with_reducible refine chkb ?_; refine tt_ifeqB (t := 22) (q := 11) hc dX8_copy_8 rfl rfl (fun c_8 => ?_) (fun c_8 => ?_)) | (with_reducible refine chk1 ?_; refine tt_ifeqN (t := 22) (q := 11) hc (by omega) dX8_copy_8 rfl rfl (fun c_8 => ?_) (fun c_8 => ?_)) | refine tt_ifeq (t := 22) (q := 11) hc dX8_copy_8 rfl rfl (fun c_8 => ?_) (fun c_8 => ?_)
  · refine tt_iconst (v := -1) (q := 23) hc rfl dX8_copy_22 rfl ?_
    refine tt_reti hX rfl dX8_copy_23 ?_
    first
    | (rw [if_neg (nand_l c_8)] at hQ; exact hQ μ frm.rf hC)
    | (rw [if_neg (nand_r c_19)] at hQ; exact hQ μ frm.rf hC)
  · refine tt_al0 (q := 12) hc dX8_copy_11 rfl ?_
    refine tt_getR (q := 15) hc fl_X8_66 (by first | assumption | exact ⟨by decide, _, rfl, rfl⟩) dX8_copy_12 rfl ?_
    refine tt_il3 (q := 16) hc dX8_copy_15 rfl ?_
    refine tt_cV1 (q := 19) (d' := 0) (ci := 3) hc (by first | decide | omega) kmX3_isList ml_X8_189 (by first | assumption | exact ⟨by decide, _, rfl⟩) rfl (Nat.le_of_ble_eq_true rfl) dX8_copy_16 rfl ?_
    refine c_X3_isList ?_
    dsimp only [Option.toList, List.nil_append, List.cons_append]
    first | (with_reducible refine chkb ?_; refine tt_ifneB (t := 24) (q := 22) hc dX8_copy_19 rfl rfl (fun c_19 => ?_) (fun c_19 => ?_)) | (with_reducible refine chk1 ?_; refine tt_ifneN (t := 24) (q := 22) hc (by omega) dX8_copy_19 rfl rfl (fun c_19 => ?_) (fun c_19 => ?_)) | refine tt_ifne (t := 24) (q := 22) hc dX8_copy_19 rfl rfl (fun c_19 => ?_) (fun c_19 => ?_)
    · rcases ST3 c_8 with ⟨hn1, hst⟩ | ⟨t, xs, ht, e1, hls, hst⟩
      · refine F1 hst (N c_8 c_19 (Or.inl hn1))
      · rcases ST3 c_19 with ⟨hn2, hst2⟩ | ⟨t2, ys, ht2, e2, hls2, hst2⟩
        · exact F2 hst hst2 (N c_8 c_19 (Or.inr hn2))
        · exact F3 hst hst2 (T t xs t2 ys ht e1 hls ht2 e2 hls2 c_8 c_19)
    · refine tt_iconst (v := -1) (q := 23) hc rfl dX8_copy_22 rfl ?_
      refine tt_reti hX rfl dX8_copy_23 ?_
      first
      | (rw [if_neg (nand_l c_8)] at hQ; exact hQ μ frm.rf hC)
      | (rw [if_neg (nand_r c_19)] at hQ; exact hQ μ frm.rf hC)
