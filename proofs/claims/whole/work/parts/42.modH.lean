/-! THE MODEL: list, feed, common -/
set_option maxHeartbeats 4000000 in
theorem c_X9_list {l : Launch} {v n : Int32} {S : ST} {μ : Mem} {Q : Option Value → Mem → Prop} (hM : MR μ S) (hQ : ∀ μ', frm mL μ μ' → MR μ' (sp_list v n S).2 → Q (some (.int (sp_list v n S).1)) μ') : CC l 2 mX9_list [.ref 24, .int v, .int n] μ Q := by
  refine CC.of (M := mX9_list) (by decide +kernel) rfl (fun v h => by simp at h; rcases h with rfl | rfl | rfl <;> rfl) (Nat.le_of_ble_eq_true rfl) (fun X hX => ?_)
  have hc := hX.cx
  obtain ⟨K, B, hs, ks, im, ls, tx, pp⟩ := S
  have a5 := hM.2.2.2.2.1
  have a73 := HA73
  have q74 := HQ74
  dsimp only [sp_list] at hQ
  have L : ∀ (t m : Nat), t < 4 → m ≤ 40 → v = nI t → n = nI m → inB (nI t) (nI 0) (nI 3) = true → ∀ (r i : Nat) (ν : Mem), i + r = 40 → mg [73, 108, 109, 110, 111] [] μ ν → ν 73 t = nI m → (∀ u, u ≠ t → ν 73 u = μ 73 u) → (∀ u, u < 4 → u ≠ t → ν (108 + u) = μ (108 + u)) → (∀ k, k < i → ν (108 + t) k = 0) → TT X 34 [.ref 24, .int (nI t), .int (nI m), .int (nI i)] [] ν := by
    intro t m ht hm hv hn hin r
    subst hv
    subst hn
    rw [if_pos hin, if_neg (nI_nlt (by omega) (by omega)), if_neg (nI_pos (by omega)), nI_clamp (by omega), nI_clamp (by omega)] at hQ
    have a108 : HA (108 + t) 0 40 := ⟨by omega, sh_li, by decide⟩
    induction r with
    | zero =>
      intro i ν hi hf e73 h73 h108 hz
      refine tt_il3 (q := 35) hc dX9_list_34 rfl ?_
      refine tt_bipush (v := nI 40) (q := 37) hc (by decide) dX9_list_35 rfl ?_
      first | (with_reducible refine chk2 ?_; refine tt_icgeN (t := 55) (q := 40) hc (by omega) (by omega) dX9_list_37 rfl rfl (fun c_37 => ?_) (fun c_37 => ?_)) | refine tt_icge (t := 55) (q := 40) hc dX9_list_37 rfl rfl (fun c_37 => ?_) (fun c_37 => ?_)
      · refine tt_iconst (v := nI 1) (q := 56) hc rfl dX9_list_55 rfl ?_
        refine tt_reti hX rfl dX9_list_56 ?_
        refine hQ ν (hf.ml (by decide)) (hM.ls hf (fun u hu => ?_))
        by_cases e : u = t
        · subst e
          rw [show lset ls u (some (List.replicate m 0)) u = some (List.replicate m 0) from if_pos rfl]
          refine ⟨by rw [List.length_replicate]; exact hm, by rw [List.length_replicate]; exact e73, fun k x hk => ?_⟩
          have hk2 := (List.getElem?_eq_some_iff.mp hk).1
          rw [List.length_replicate] at hk2
          rw [List.getElem?_replicate, if_pos hk2] at hk
          rw [← Option.some.inj hk]
          exact hz k (by omega)
        · rw [show lset ls t (some (List.replicate m 0)) u = ls u from if_neg e, h73 u e, h108 u hu e]
          exact a5 u hu
      · omega
    | succ r ih =>
      intro i ν hi hf e73 h73 h108 hz
      refine tt_il3 (q := 35) hc dX9_list_34 rfl ?_
      refine tt_bipush (v := nI 40) (q := 37) hc (by decide) dX9_list_35 rfl ?_
      first | (with_reducible refine chk2 ?_; refine tt_icgeN (t := 55) (q := 40) hc (by omega) (by omega) dX9_list_37 rfl rfl (fun c_37 => ?_) (fun c_37 => ?_)) | refine tt_icge (t := 55) (q := 40) hc dX9_list_37 rfl rfl (fun c_37 => ?_) (fun c_37 => ?_)
      · omega
      · refine tt_al0 (q := 41) hc dX9_list_40 rfl ?_
        refine tt_getR (q := 44) hc fl_X9_79 (by first | assumption | exact ⟨by decide, _, rfl, rfl⟩) dX9_list_41 rfl ?_
        refine tt_il1 (q := 45) hc dX9_list_44 rfl ?_
        refine tt_aald (q := 46) hc (r := _) (by first | assumption | exact ⟨by decide, rfl, by decide⟩) (by decide) (by omega) dX9_list_45 rfl ?_
        refine tt_il3 (q := 47) hc dX9_list_46 rfl ?_
        refine tt_iconst (v := nI 0) (q := 48) hc rfl dX9_list_47 rfl ?_
        refine tt_iast (q := 49) hc (by first | assumption | exact ⟨by decide, rfl, by decide⟩) (by omega) dX9_list_48 rfl ?_
        first | refine tt_inc3 (q := 52) hc dX9_list_49 rfl (by decide) (incN _) ?_ | refine tt_inc3 (q := 52) hc dX9_list_49 rfl (by decide) rfl ?_
        refine tt_goto (t := 34) hc dX9_list_52 rfl ?_
        refine ih (i + 1) _ (by omega) (hf.tr (liL ht)) (by rw [mset_ne (by omega)]; exact e73) (fun u hu => by rw [mset_ne (by omega)]; exact h73 u hu) (fun u hu hne => by rw [mset_ne (by omega)]; exact h108 u hu hne) (fun k hk => ?_)
        rw [mset_eq]
        by_cases e : k = i
        · subst e
          exact pk_us
        · rw [pk_un e]
          exact hz k (by omega)
  refine tt_il1 (q := 1) hc dX9_list_0 rfl ?_
  refine tt_cS1 (q := 4) (d' := 1) hc (by first | decide | omega) kmX9_isList ml_X9_336 (Nat.le_of_ble_eq_true rfl) dX9_list_1 rfl ?_
  refine c_X9_isList ?_
  dsimp only [Option.toList, List.nil_append, List.cons_append]
  first | (with_reducible refine chkb ?_; refine tt_ifneB (t := 9) (q := 7) hc dX9_list_4 rfl rfl (fun c_4 => ?_) (fun c_4 => ?_)) | (with_reducible refine chk1 ?_; refine tt_ifneN (t := 9) (q := 7) hc (by omega) dX9_list_4 rfl rfl (fun c_4 => ?_) (fun c_4 => ?_)) | refine tt_ifne (t := 9) (q := 7) hc dX9_list_4 rfl rfl (fun c_4 => ?_) (fun c_4 => ?_)
  · refine tt_il2 (q := 10) hc dX9_list_9 rfl ?_
    refine tt_bipush (v := nI 40) (q := 12) hc (by decide) dX9_list_10 rfl ?_
    first | (with_reducible refine chk2 ?_; refine tt_icleN (t := 18) (q := 15) hc (by omega) (by omega) dX9_list_12 rfl rfl (fun c_12 => ?_) (fun c_12 => ?_)) | refine tt_icle (t := 18) (q := 15) hc dX9_list_12 rfl rfl (fun c_12 => ?_) (fun c_12 => ?_)
    · refine tt_il2 (q := 19) hc dX9_list_18 rfl ?_
      refine tt_ifge (t := 25) (q := 22) hc dX9_list_19 rfl rfl (fun c_19 => ?_) (fun c_19 => ?_)
      · obtain ⟨t, -, ht, hv⟩ := inB_t (by decide) (by decide) c_4
        obtain ⟨m, hm31, hm0⟩ := nI_of (Int32.not_lt.mpr c_19)
        have hm : m ≤ 40 := (nI_leI hm31 (by decide)).mp (by rw [← hm0]; exact c_12)
        have hin := c_4
        rw [hv] at hin
        rw [show v = nI t from hv, show n = nI m from hm0]
        refine tt_al0 (q := 26) hc dX9_list_25 rfl ?_
        refine tt_getR (q := 29) hc fl_X9_76 (by first | assumption | exact ⟨by decide, _, rfl, rfl⟩) dX9_list_26 rfl ?_
        refine tt_il1 (q := 30) hc dX9_list_29 rfl ?_
        refine tt_il2 (q := 31) hc dX9_list_30 rfl ?_
        refine tt_iast (q := 32) hc (by first | assumption | exact ⟨by decide, rfl, by decide⟩) (by omega) dX9_list_31 rfl ?_
        refine tt_iconst (v := nI 0) (q := 33) hc rfl dX9_list_32 rfl ?_
        refine tt_is3 (q := 34) hc dX9_list_33 rfl (by decide) ?_
        refine L t m (by omega) hm hv hm0 hin 40 0 _ rfl (mg.fr (frm.set.mono (by simp)) (by decide)) ?_ (fun u hu => ?_) (fun u _ _ => mset_ne (by omega)) (fun k hk => absurd hk (Nat.not_lt_zero _))
        · rw [mset_eq, pk_us]
        · rw [mset_eq, pk_un hu]
      · refine tt_bipush (v := -14) (q := 24) hc (by decide) dX9_list_22 rfl ?_
        refine tt_reti hX rfl dX9_list_24 ?_
        rw [if_pos c_4, if_neg (Int32.not_lt.mpr c_12), if_pos (Int32.not_le.mp c_19)] at hQ
        exact hQ μ frm.rf hM
    · refine tt_bipush (v := -2) (q := 17) hc (by decide) dX9_list_15 rfl ?_
      refine tt_reti hX rfl dX9_list_17 ?_
      rw [if_pos c_4, if_pos (Int32.not_le.mp c_12)] at hQ
      exact hQ μ frm.rf hM
  · refine tt_iconst (v := -1) (q := 8) hc rfl dX9_list_7 rfl ?_
    refine tt_reti hX rfl dX9_list_8 ?_
    rw [if_neg (by rw [c_4]; exact Bool.false_ne_true)] at hQ
    exact hQ μ frm.rf hM
set_option maxHeartbeats 4000000 in
theorem c_X9_feed {l : Launch} {v : Int32} {S : ST} {μ : Mem} {Q : Option Value → Mem → Prop} (hM : MR μ S) (hQ : ∀ μ', frm mL μ μ' → MR μ' (sp_feed v S).2 → Q (some (.int (sp_feed v S).1)) μ') : CC l 1 mX9_feed [.ref 24, .int v] μ Q := by
  refine CC.of (M := mX9_feed) (by decide +kernel) rfl (fun v h => by simp at h; rcases h with rfl | rfl <;> rfl) (Nat.le_of_ble_eq_true rfl) (fun X hX => ?_)
  have hc := hX.cx
  obtain ⟨K, B, hs, ks, im, ls, tx, pp⟩ := S
  obtain ⟨⟨a0, a1, a2⟩, a3, a4, a5, a6, a7, a8⟩ := id hM
  obtain ⟨b1, b2, b3, b4⟩ := id a7
  have a38 : HA 38 2 120 := ⟨by decide, rfl, by decide⟩
  dsimp only [sp_feed] at hQ
  refine tt_il1 (q := 1) hc dX9_feed_0 rfl ?_
  refine tt_iconst (v := nI 0) (q := 2) hc rfl dX9_feed_1 rfl ?_
  refine tt_bipush (v := nI 127) (q := 4) hc (by decide) dX9_feed_2 rfl ?_
  refine tt_cS3 (q := 7) (d' := 0) hc (by first | decide | omega) kmX9_in ml_X9_91 (Nat.le_of_ble_eq_true rfl) dX9_feed_4 rfl ?_
  refine c_X9_in ?_
  dsimp only [Option.toList, List.nil_append, List.cons_append]
  first | (with_reducible refine chkb ?_; refine tt_ifneB (t := 13) (q := 10) hc dX9_feed_7 rfl rfl (fun c_7 => ?_) (fun c_7 => ?_)) | (with_reducible refine chk1 ?_; refine tt_ifneN (t := 13) (q := 10) hc (by omega) dX9_feed_7 rfl rfl (fun c_7 => ?_) (fun c_7 => ?_)) | refine tt_ifne (t := 13) (q := 10) hc dX9_feed_7 rfl rfl (fun c_7 => ?_) (fun c_7 => ?_)
  · rw [if_pos c_7] at hQ
    obtain ⟨b, -, hb, rfl⟩ := inB_t (by decide) (by decide) c_7
    rw [nI_clamp (by omega)] at hQ
    have hbb := byt b (by omega)
    refine tt_al0 (q := 14) hc dX9_feed_13 rfl ?_
    refine tt_getI (q := 17) hc fl_X9_243 (by first | assumption | exact ⟨by decide, _, rfl, _, rfl⟩) dX9_feed_14 rfl ?_
    rw [b2]
    refine tt_bipush (v := nI 120) (q := 19) hc (by decide) dX9_feed_17 rfl ?_
    first | (with_reducible refine chk2 ?_; refine tt_icneN (t := 25) (q := 22) hc (by omega) (by omega) dX9_feed_19 rfl rfl (fun c_19 => ?_) (fun c_19 => ?_)) | refine tt_icne (t := 25) (q := 22) hc dX9_feed_19 rfl rfl (fun c_19 => ?_) (fun c_19 => ?_)
    · refine tt_al0 (q := 26) hc dX9_feed_25 rfl ?_
      refine tt_getR (q := 29) hc fl_X9_63 (by first | assumption | exact ⟨by decide, _, rfl, rfl⟩) dX9_feed_26 rfl ?_
      refine tt_al0 (q := 30) hc dX9_feed_29 rfl ?_
      refine tt_getI (q := 33) hc fl_X9_243 (by first | assumption | exact ⟨by decide, _, rfl, _, rfl⟩) dX9_feed_30 rfl ?_
      rw [b2]
      refine tt_il1 (q := 34) hc dX9_feed_33 rfl ?_
      refine tt_i2b (q := 35) hc hbb dX9_feed_34 rfl ?_
      refine tt_bast (q := 36) hc (by first | assumption | exact ⟨by decide, rfl, by decide⟩) (by omega) (by assumption) dX9_feed_35 rfl ?_
      refine tt_al0 (q := 37) hc dX9_feed_36 rfl ?_
      refine tt_dup (q := 38) hc rfl dX9_feed_37 rfl ?_
      refine tt_getI (q := 41) hc fl_X9_243 (by first | assumption | exact ⟨by decide, _, rfl, _, rfl⟩) dX9_feed_38 rfl ?_
      rw [mset_ne (by decide), b2]
      refine tt_iconst (v := nI 1) (q := 42) hc rfl dX9_feed_41 rfl ?_
      first | (with_reducible refine chk2 ?_; refine tt_iaddN (q := 43) hc dX9_feed_42 rfl ?_) | refine tt_iadd (q := 43) hc dX9_feed_42 rfl ?_
      refine tt_putI (q := 46) hc fp_X9_243 (by first | assumption | exact ⟨by decide, _, rfl, _, rfl⟩) dX9_feed_43 rfl ?_
      refine tt_al0 (q := 47) hc dX9_feed_46 rfl ?_
      refine tt_getI (q := 50) hc fl_X9_243 (by first | assumption | exact ⟨by decide, _, rfl, _, rfl⟩) dX9_feed_47 rfl ?_
      rw [mset_eq, pk_us]
      refine tt_reti hX rfl dX9_feed_50 ?_
      rw [if_pos (show tx.length < 120 by omega)] at hQ
      have hf : mg [38] [19] μ (mset (mset μ 38 (upd (μ 38) tx.length (nI b))) 24 (upd (mset μ 38 (upd (μ 38) tx.length (nI b)) 24) 19 (nI (tx.length + 1)))) := (mg.fr frm.set (by decide)).tr (mg.own (by decide))
      refine hQ _ (hf.ml (by decide)) ⟨⟨a0, (hf.2 0 (by decide)).trans a1, a2.mg hf (by decide) (by decide)⟩, a3.mg hf (by decide) (by decide), a4.mg hf (by decide) (by decide), a5.mg hf (by decide) (by decide) (by decide) (by decide), a6.mg hf (by decide), ⟨?_, ?_, fun i x hx => ?_, fun x hx => ?_⟩, a8.mg hf (by decide) (by decide)⟩
      · rw [List.length_append, List.length_singleton]
        omega
      · rw [List.length_append, List.length_singleton]
        rfl
      · show upd (μ 38) tx.length (nI b) i = nI x
        by_cases e : i < tx.length
        · rw [List.getElem?_append_left e] at hx
          rw [pk_un (by omega)]
          exact b3 i x hx
        · have hl := (List.getElem?_eq_some_iff.mp hx).1
          rw [List.length_append, List.length_singleton] at hl
          have e2 : i = tx.length := by omega
          subst e2
          rw [List.getElem?_append_right (Nat.le_refl _), Nat.sub_self] at hx
          simp only [List.getElem?_cons_zero, Option.some.injEq] at hx
          rw [pk_us, hx]
      · rcases List.mem_append.mp hx with z | z
        · exact b4 x z
        · rw [List.mem_singleton.mp z]
          omega
    · refine tt_bipush (v := -4) (q := 24) hc (by decide) dX9_feed_22 rfl ?_
      refine tt_reti hX rfl dX9_feed_24 ?_
      rw [if_neg (by omega)] at hQ
      exact hQ μ frm.rf hM
  · refine tt_bipush (v := -2) (q := 12) hc (by decide) dX9_feed_10 rfl ?_
    refine tt_reti hX rfl dX9_feed_12 ?_
    rw [if_neg (by rw [c_7]; exact Bool.false_ne_true)] at hQ
    exact hQ μ frm.rf hM
