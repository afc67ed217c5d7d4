/-! THE MODEL: paper, feed, common, lists -/
theorem lx_iff {α : Type} {l : List α} {v : Int32} (hl : l.length < 2 ^ 31) : (∃ n a, v = nI n ∧ n < l.length ∧ l[n]? = some a ∧ lx l v = some a ∧ inB v (nI 0) (nI l.length - nI 1) = true) ∨ (lx l v = none ∧ inB v (nI 0) (nI l.length - nI 1) = false) := by
  by_cases h0 : v < 0
  · exact Or.inr ⟨lx_lo h0, inB_lo (a := nI 0) h0⟩
  · by_cases h1 : v < nI l.length
    · obtain ⟨n, a, rfl, h2, h3, h4⟩ := lx_in hl h0 h1
      refine Or.inl ⟨n, a, rfl, h2, h3, h4, ?_⟩
      rw [pk_sub (by omega)]
      exact inB_in h0 (nI_nlt (by omega) (by omega))
    · refine Or.inr ⟨lx_hi hl h0 (Int32.not_lt.mp h1), ?_⟩
      rcases Nat.eq_zero_or_pos l.length with z | z
      · rw [z]
        cases e : inB v (nI 0) (nI 0 - nI 1)
        · rfl
        · simp only [inB, Bool.and_eq_true, decide_eq_true_eq] at e
          exact absurd (Int32.le_trans e.1 e.2) (by decide)
      · rw [pk_sub (by omega)]
        exact inB_hi (Int32.lt_of_lt_of_le (nI_lt (by omega) (by omega)) (Int32.not_lt.mp h1))
set_option maxHeartbeats 4000000 in
theorem c_X9_paper {l : Launch} {v : Int32} {S : ST} {μ : Mem} {Q : Option Value → Mem → Prop} (hM : MR μ S) (hQ : ∀ μ', frm mL μ μ' → MR μ' S → Q (some (.int (an_paper v S))) μ') : CC l 1 mX9_paper [.ref 24, .int v] μ Q := by
  refine CC.of (M := mX9_paper) (by decide +kernel) rfl (fun v h => by simp at h; rcases h with rfl | rfl <;> rfl) (Nat.le_of_ble_eq_true rfl) (fun X hX => ?_)
  have hc := hX.cx
  obtain ⟨K, B, hs, ks, im, ls, tx, pp⟩ := S
  obtain ⟨p1, p2, p3⟩ := id hM.2.2.2.2.2.2
  have h := hQ μ frm.rf hM
  dsimp only [an_paper] at h
  have a72 : HA 72 2 1280 := ⟨by decide, rfl, by decide⟩
  rcases lx_iff (l := pp) (v := v) (by omega) with ⟨n, b, rfl, hn, hb, hlx, hin⟩ | ⟨hlx, hin⟩
  · rw [hlx] at h
    have hv := p3 n b hb
    refine tt_il1 (q := 1) hc dX9_paper_0 rfl ?_
    refine tt_iconst (v := nI 0) (q := 2) hc rfl dX9_paper_1 rfl ?_
    refine tt_al0 (q := 3) hc dX9_paper_2 rfl ?_
    refine tt_getI (q := 6) hc fl_X9_330 (by first | assumption | exact ⟨by decide, _, rfl, _, rfl⟩) dX9_paper_3 rfl ?_
    rw [p2]
    refine tt_iconst (v := nI 1) (q := 7) hc rfl dX9_paper_6 rfl ?_
    refine tt_isub (q := 8) hc dX9_paper_7 rfl ?_
    refine tt_cS3 (q := 11) (d' := 0) hc (by first | decide | omega) kmX9_in ml_X9_91 (Nat.le_of_ble_eq_true rfl) dX9_paper_8 rfl ?_
    refine c_X9_in ?_
    rw [hin]
    dsimp only [Option.toList, List.nil_append, List.cons_append]
    first | (with_reducible refine chkb ?_; refine tt_ifeqB (t := 23) (q := 14) hc dX9_paper_11 rfl rfl (fun c_11 => ?_) (fun c_11 => ?_)) | (with_reducible refine chk1 ?_; refine tt_ifeqN (t := 23) (q := 14) hc (by omega) dX9_paper_11 rfl rfl (fun c_11 => ?_) (fun c_11 => ?_)) | refine tt_ifeq (t := 23) (q := 14) hc dX9_paper_11 rfl rfl (fun c_11 => ?_) (fun c_11 => ?_)
    · exact absurd c_11 (by decide)
    · refine tt_al0 (q := 15) hc dX9_paper_14 rfl ?_
      refine tt_getR (q := 18) hc fl_X9_73 (by first | assumption | exact ⟨by decide, _, rfl, rfl⟩) dX9_paper_15 rfl ?_
      refine tt_il1 (q := 19) hc dX9_paper_18 rfl ?_
      refine tt_baldE (q := 20) hc a72 (by omega) hv dX9_paper_19 rfl ?_
      refine tt_goto (t := 24) hc dX9_paper_20 rfl ?_
      refine tt_reti hX rfl dX9_paper_24 ?_
      exact h
  · rw [hlx] at h
    refine tt_il1 (q := 1) hc dX9_paper_0 rfl ?_
    refine tt_iconst (v := nI 0) (q := 2) hc rfl dX9_paper_1 rfl ?_
    refine tt_al0 (q := 3) hc dX9_paper_2 rfl ?_
    refine tt_getI (q := 6) hc fl_X9_330 (by first | assumption | exact ⟨by decide, _, rfl, _, rfl⟩) dX9_paper_3 rfl ?_
    rw [p2]
    refine tt_iconst (v := nI 1) (q := 7) hc rfl dX9_paper_6 rfl ?_
    refine tt_isub (q := 8) hc dX9_paper_7 rfl ?_
    refine tt_cS3 (q := 11) (d' := 0) hc (by first | decide | omega) kmX9_in ml_X9_91 (Nat.le_of_ble_eq_true rfl) dX9_paper_8 rfl ?_
    refine c_X9_in ?_
    rw [hin]
    dsimp only [Option.toList, List.nil_append, List.cons_append]
    first | (with_reducible refine chkb ?_; refine tt_ifeqB (t := 23) (q := 14) hc dX9_paper_11 rfl rfl (fun c_11 => ?_) (fun c_11 => ?_)) | (with_reducible refine chk1 ?_; refine tt_ifeqN (t := 23) (q := 14) hc (by omega) dX9_paper_11 rfl rfl (fun c_11 => ?_) (fun c_11 => ?_)) | refine tt_ifeq (t := 23) (q := 14) hc dX9_paper_11 rfl rfl (fun c_11 => ?_) (fun c_11 => ?_)
    · refine tt_iconst (v := -1) (q := 24) hc rfl dX9_paper_23 rfl ?_
      refine tt_reti hX rfl dX9_paper_24 ?_
      exact h
    · exact absurd c_11 (by decide)
theorem c_X9_isList {l : Launch} {v : Int32} {μ : Mem} {Q : Option Value → Mem → Prop} (hQ : Q (some (.int (bI (inB v (nI 0) (nI 3))))) μ) : CC l 1 mX9_isList [.int v] μ Q := by
  refine CC.of (M := mX9_isList) (by decide +kernel) rfl (fun v h => by simp at h; subst h; rfl) (Nat.le_of_ble_eq_true rfl) (fun X hX => ?_)
  have hc := hX.cx
  refine tt_il0 (q := 1) hc dX9_isList_0 rfl ?_
  refine tt_iconst (v := nI 0) (q := 2) hc rfl dX9_isList_1 rfl ?_
  refine tt_iconst (v := nI 3) (q := 3) hc rfl dX9_isList_2 rfl ?_
  refine tt_cS3 (q := 6) (d' := 0) hc (by first | decide | omega) kmX9_in ml_X9_91 (Nat.le_of_ble_eq_true rfl) dX9_isList_3 rfl ?_
  refine c_X9_in ?_
  dsimp only [Option.toList, List.nil_append, List.cons_append]
  refine tt_retz hX rfl (by first | decide | exact bI_01 _) dX9_isList_6 ?_
  exact hQ
theorem HA73 : HA 73 0 4 := ⟨by decide, rfl, by decide⟩
theorem HQ74 : HQ 74 5 4 (fun i => 108 + i) := ⟨by decide, rfl, by decide⟩
theorem ML.so {μ : Mem} {ls : Nat → Option (List Int32)} (h : ML μ ls) {t : Nat} (ht : t < 4) {xs : List Int32} (hn : ls t = some xs) : xs.length ≤ 40 ∧ μ 73 t = nI xs.length ∧ ∀ i x, xs[i]? = some x → μ (108 + t) i = x := by
  have := h t ht
  rw [hn] at this
  exact this
theorem ML.no {μ : Mem} {ls : Nat → Option (List Int32)} (h : ML μ ls) {t : Nat} (ht : t < 4) (hn : ls t = none) : μ 73 t = -1 := by
  have := h t ht
  rw [hn] at this
  exact this
set_option maxHeartbeats 4000000 in
theorem c_X9_isPlace {l : Launch} {t : Nat} {v : Int32} {xs : List Int32} {ls : Nat → Option (List Int32)} {μ : Mem} {Q : Option Value → Mem → Prop} (hL : ML μ ls) (ht : t < 4) (hx : ls t = some xs) (hQ : Q (some (.int (bI (inB v (nI 0) (nI xs.length - nI 1))))) μ) : CC l 1 mX9_isPlace [.ref 24, .int (nI t), .int v] μ Q := by
  refine CC.of (M := mX9_isPlace) (by decide +kernel) rfl (fun v h => by simp at h; rcases h with rfl | rfl | rfl <;> rfl) (Nat.le_of_ble_eq_true rfl) (fun X hX => ?_)
  have hc := hX.cx
  have a73 := HA73
  have e := (hL.so ht hx).2.1
  refine tt_il2 (q := 1) hc dX9_isPlace_0 rfl ?_
  refine tt_iconst (v := nI 0) (q := 2) hc rfl dX9_isPlace_1 rfl ?_
  refine tt_al0 (q := 3) hc dX9_isPlace_2 rfl ?_
  refine tt_getR (q := 6) hc fl_X9_76 (by first | assumption | exact ⟨by decide, _, rfl, rfl⟩) dX9_isPlace_3 rfl ?_
  refine tt_il1 (q := 7) hc dX9_isPlace_6 rfl ?_
  refine tt_iald (q := 8) hc (by first | assumption | exact ⟨by decide, rfl, by decide⟩) (by omega) dX9_isPlace_7 rfl ?_
  rw [e]
  refine tt_iconst (v := nI 1) (q := 9) hc rfl dX9_isPlace_8 rfl ?_
  refine tt_isub (q := 10) hc dX9_isPlace_9 rfl ?_
  refine tt_cS3 (q := 13) (d' := 0) hc (by first | decide | omega) kmX9_in ml_X9_91 (Nat.le_of_ble_eq_true rfl) dX9_isPlace_10 rfl ?_
  refine c_X9_in ?_
  dsimp only [Option.toList, List.nil_append, List.cons_append]
  refine tt_retz hX rfl (by first | decide | exact bI_01 _) dX9_isPlace_13 ?_
  exact hQ
set_option maxHeartbeats 4000000 in
theorem c_X9_get {l : Launch} {v i : Int32} {S : ST} {μ : Mem} {Q : Option Value → Mem → Prop} (hM : MR μ S) (hQ : ∀ μ', frm mL μ μ' → MR μ' S → Q (some (.long (an_get v i S))) μ') : CC l 2 mX9_get [.ref 24, .int v, .int i] μ Q := by
  refine CC.of (M := mX9_get) (by decide +kernel) rfl (fun v h => by simp at h; rcases h with rfl | rfl | rfl <;> rfl) (Nat.le_of_ble_eq_true rfl) (fun X hX => ?_)
  have hc := hX.cx
  obtain ⟨K, B, hs, ks, im, ls, tx, pp⟩ := S
  have a5 := hM.2.2.2.2.1
  have a73 := HA73
  have q74 := HQ74
  have h := hQ μ frm.rf hM
  dsimp only [an_get] at h
  rcases lst_cases ls v with ⟨hin, -⟩ | ⟨t, ht, rfl, hin, hls, -⟩ | ⟨t, xs, ht, rfl, hin, hls, -⟩
  · rw [if_neg (by rw [hin]; exact Bool.false_ne_true)] at h
    refine tt_il1 (q := 1) hc dX9_get_0 rfl ?_
    refine tt_cS1 (q := 4) (d' := 1) hc (by first | decide | omega) kmX9_isList ml_X9_336 (Nat.le_of_ble_eq_true rfl) dX9_get_1 rfl ?_
    refine c_X9_isList ?_
    rw [hin]
    dsimp only [Option.toList, List.nil_append, List.cons_append]
    first | (with_reducible refine chkb ?_; refine tt_ifeqB (t := 37) (q := 7) hc dX9_get_4 rfl rfl (fun c_4 => ?_) (fun c_4 => ?_)) | (with_reducible refine chk1 ?_; refine tt_ifeqN (t := 37) (q := 7) hc (by omega) dX9_get_4 rfl rfl (fun c_4 => ?_) (fun c_4 => ?_)) | refine tt_ifeq (t := 37) (q := 7) hc dX9_get_4 rfl rfl (fun c_4 => ?_) (fun c_4 => ?_)
    · refine tt_ldc2 (q := 40) hc kc_X9_348 dX9_get_37 rfl ?_
      exact tt_retl hX rfl dX9_get_40 h
    · exact absurd c_4 (by decide)
  · rw [if_pos hin, nI_clamp (by omega), hls] at h
    have e := a5.no ht hls
    refine tt_il1 (q := 1) hc dX9_get_0 rfl ?_
    refine tt_cS1 (q := 4) (d' := 1) hc (by first | decide | omega) kmX9_isList ml_X9_336 (Nat.le_of_ble_eq_true rfl) dX9_get_1 rfl ?_
    refine c_X9_isList ?_
    rw [hin]
    dsimp only [Option.toList, List.nil_append, List.cons_append]
    first | (with_reducible refine chkb ?_; refine tt_ifeqB (t := 37) (q := 7) hc dX9_get_4 rfl rfl (fun c_4 => ?_) (fun c_4 => ?_)) | (with_reducible refine chk1 ?_; refine tt_ifeqN (t := 37) (q := 7) hc (by omega) dX9_get_4 rfl rfl (fun c_4 => ?_) (fun c_4 => ?_)) | refine tt_ifeq (t := 37) (q := 7) hc dX9_get_4 rfl rfl (fun c_4 => ?_) (fun c_4 => ?_)
    · exact absurd c_4 (by decide)
    · refine tt_al0 (q := 8) hc dX9_get_7 rfl ?_
      refine tt_getR (q := 11) hc fl_X9_76 (by first | assumption | exact ⟨by decide, _, rfl, rfl⟩) dX9_get_8 rfl ?_
      refine tt_il1 (q := 12) hc dX9_get_11 rfl ?_
      refine tt_iald (q := 13) hc (by first | assumption | exact ⟨by decide, rfl, by decide⟩) (by omega) dX9_get_12 rfl ?_
      rw [e]
      refine tt_iflt (t := 37) (q := 16) hc dX9_get_13 rfl rfl (fun c_13 => ?_) (fun c_13 => ?_)
      · refine tt_ldc2 (q := 40) hc kc_X9_348 dX9_get_37 rfl ?_
        exact tt_retl hX rfl dX9_get_40 h
      · exact absurd (by decide) c_13
  · rw [if_pos hin, nI_clamp (by omega), hls] at h
    dsimp only at h
    obtain ⟨x1, x2, x3⟩ := a5.so ht hls
    have a108 : HA (108 + t) 0 40 := ⟨by omega, sh_li, by decide⟩
    rcases lx_iff (l := xs) (v := i) (by omega) with ⟨n, b, rfl, hn, hb, hlx, hin2⟩ | ⟨hlx, hin2⟩
    · rw [hlx] at h
      have hv := x3 n b hb
      refine tt_il1 (q := 1) hc dX9_get_0 rfl ?_
      refine tt_cS1 (q := 4) (d' := 1) hc (by first | decide | omega) kmX9_isList ml_X9_336 (Nat.le_of_ble_eq_true rfl) dX9_get_1 rfl ?_
      refine c_X9_isList ?_
      rw [hin]
      dsimp only [Option.toList, List.nil_append, List.cons_append]
      first | (with_reducible refine chkb ?_; refine tt_ifeqB (t := 37) (q := 7) hc dX9_get_4 rfl rfl (fun c_4 => ?_) (fun c_4 => ?_)) | (with_reducible refine chk1 ?_; refine tt_ifeqN (t := 37) (q := 7) hc (by omega) dX9_get_4 rfl rfl (fun c_4 => ?_) (fun c_4 => ?_)) | refine tt_ifeq (t := 37) (q := 7) hc dX9_get_4 rfl rfl (fun c_4 => ?_) (fun c_4 => ?_)
      · exact absurd c_4 (by decide)
      · refine tt_al0 (q := 8) hc dX9_get_7 rfl ?_
        refine tt_getR (q := 11) hc fl_X9_76 (by first | assumption | exact ⟨by decide, _, rfl, rfl⟩) dX9_get_8 rfl ?_
        refine tt_il1 (q := 12) hc dX9_get_11 rfl ?_
        refine tt_iald (q := 13) hc (by first | assumption | exact ⟨by decide, rfl, by decide⟩) (by omega) dX9_get_12 rfl ?_
        rw [x2]
        refine tt_iflt (t := 37) (q := 16) hc dX9_get_13 rfl rfl (fun c_13 => ?_) (fun c_13 => ?_)
        · exact absurd c_13 (nI_pos (by omega))
        · refine tt_al0 (q := 17) hc dX9_get_16 rfl ?_
          refine tt_il1 (q := 18) hc dX9_get_17 rfl ?_
          refine tt_il2 (q := 19) hc dX9_get_18 rfl ?_
          refine tt_cV2 (q := 22) (d' := 1) (ci := 9) hc (by first | decide | omega) kmX9_isPlace ml_X9_345 (by first | assumption | exact ⟨by decide, _, rfl⟩) rfl (Nat.le_of_ble_eq_true rfl) dX9_get_19 rfl ?_
          refine c_X9_isPlace a5 ht hls ?_
          rw [hin2]
          dsimp only [Option.toList, List.nil_append, List.cons_append]
          first | (with_reducible refine chkb ?_; refine tt_ifeqB (t := 37) (q := 25) hc dX9_get_22 rfl rfl (fun c_22 => ?_) (fun c_22 => ?_)) | (with_reducible refine chk1 ?_; refine tt_ifeqN (t := 37) (q := 25) hc (by omega) dX9_get_22 rfl rfl (fun c_22 => ?_) (fun c_22 => ?_)) | refine tt_ifeq (t := 37) (q := 25) hc dX9_get_22 rfl rfl (fun c_22 => ?_) (fun c_22 => ?_)
          · exact absurd c_22 (by decide)
          · refine tt_al0 (q := 26) hc dX9_get_25 rfl ?_
            refine tt_getR (q := 29) hc fl_X9_79 (by first | assumption | exact ⟨by decide, _, rfl, rfl⟩) dX9_get_26 rfl ?_
            refine tt_il1 (q := 30) hc dX9_get_29 rfl ?_
            refine tt_aald (q := 31) hc (r := _) (by first | assumption | exact ⟨by decide, rfl, by decide⟩) (by decide) (by omega) dX9_get_30 rfl ?_
            refine tt_il2 (q := 32) hc dX9_get_31 rfl ?_
            refine tt_ialdE (q := 33) hc a108 (by omega) hv dX9_get_32 rfl ?_
            refine tt_i2l (q := 34) hc rfl dX9_get_33 rfl ?_
            refine tt_goto (t := 40) hc dX9_get_34 rfl ?_
            exact tt_retl hX rfl dX9_get_40 h
    · rw [hlx] at h
      refine tt_il1 (q := 1) hc dX9_get_0 rfl ?_
      refine tt_cS1 (q := 4) (d' := 1) hc (by first | decide | omega) kmX9_isList ml_X9_336 (Nat.le_of_ble_eq_true rfl) dX9_get_1 rfl ?_
      refine c_X9_isList ?_
      rw [hin]
      dsimp only [Option.toList, List.nil_append, List.cons_append]
      first | (with_reducible refine chkb ?_; refine tt_ifeqB (t := 37) (q := 7) hc dX9_get_4 rfl rfl (fun c_4 => ?_) (fun c_4 => ?_)) | (with_reducible refine chk1 ?_; refine tt_ifeqN (t := 37) (q := 7) hc (by omega) dX9_get_4 rfl rfl (fun c_4 => ?_) (fun c_4 => ?_)) | refine tt_ifeq (t := 37) (q := 7) hc dX9_get_4 rfl rfl (fun c_4 => ?_) (fun c_4 => ?_)
      · exact absurd c_4 (by decide)
      · refine tt_al0 (q := 8) hc dX9_get_7 rfl ?_
        refine tt_getR (q := 11) hc fl_X9_76 (by first | assumption | exact ⟨by decide, _, rfl, rfl⟩) dX9_get_8 rfl ?_
        refine tt_il1 (q := 12) hc dX9_get_11 rfl ?_
        refine tt_iald (q := 13) hc (by first | assumption | exact ⟨by decide, rfl, by decide⟩) (by omega) dX9_get_12 rfl ?_
        rw [x2]
        refine tt_iflt (t := 37) (q := 16) hc dX9_get_13 rfl rfl (fun c_13 => ?_) (fun c_13 => ?_)
        · exact absurd c_13 (nI_pos (by omega))
        · refine tt_al0 (q := 17) hc dX9_get_16 rfl ?_
          refine tt_il1 (q := 18) hc dX9_get_17 rfl ?_
          refine tt_il2 (q := 19) hc dX9_get_18 rfl ?_
          refine tt_cV2 (q := 22) (d' := 1) (ci := 9) hc (by first | decide | omega) kmX9_isPlace ml_X9_345 (by first | assumption | exact ⟨by decide, _, rfl⟩) rfl (Nat.le_of_ble_eq_true rfl) dX9_get_19 rfl ?_
          refine c_X9_isPlace a5 ht hls ?_
          rw [hin2]
          dsimp only [Option.toList, List.nil_append, List.cons_append]
          first | (with_reducible refine chkb ?_; refine tt_ifeqB (t := 37) (q := 25) hc dX9_get_22 rfl rfl (fun c_22 => ?_) (fun c_22 => ?_)) | (with_reducible refine chk1 ?_; refine tt_ifeqN (t := 37) (q := 25) hc (by omega) dX9_get_22 rfl rfl (fun c_22 => ?_) (fun c_22 => ?_)) | refine tt_ifeq (t := 37) (q := 25) hc dX9_get_22 rfl rfl (fun c_22 => ?_) (fun c_22 => ?_)
          · refine tt_ldc2 (q := 40) hc kc_X9_348 dX9_get_37 rfl ?_
            exact tt_retl hX rfl dX9_get_40 h
          · exact absurd c_22 (by decide)
theorem ML.put {μ : Mem} {ls : Nat → Option (List Int32)} (h : ML μ ls) {t i : Nat} {x : Int32} {xs : List Int32} (ht : t < 4) (hx : ls t = some xs) (hi : i < xs.length) : ML (mset μ (108 + t) (upd (μ (108 + t)) i x)) (lset ls t (some (xs.set i x))) := by
  have h1 := h.so ht hx
  intro u hu
  by_cases e : u = t
  · rw [show lset ls t (some (xs.set i x)) u = some (xs.set i x) from if_pos e]
    subst e
    refine ⟨by rw [List.length_set]; exact h1.1, by rw [List.length_set, mset_ne (by omega)]; exact h1.2.1, fun k y hk => ?_⟩
    rw [mset_eq]
    by_cases e2 : k = i
    · subst e2
      rw [List.getElem?_set_self hi] at hk
      rw [pk_us]
      exact Option.some.inj hk
    · rw [List.getElem?_set_ne (fun z => e2 z.symm)] at hk
      rw [pk_un e2]
      exact h1.2.2 k y hk
  · rw [show lset ls t (some (xs.set i x)) u = ls u from if_neg e]
    have := h u hu
    rw [mset_ne (by omega), mset_ne (by omega)]
    exact this
theorem MR.ls {μ ν : Mem} {K : Nat} {B : HP} {hs : List HP} {ks : List (Nat × HP)} {im : Option (Nat × HP × List (Nat × HP))} {ls ls' : Nat → Option (List Int32)} {tx pp : List Nat} (h : MR μ (K, B, hs, ks, im, ls, tx, pp)) (hf : mg [73, 108, 109, 110, 111] [] μ ν) (hL : ML ν ls') : MR ν (K, B, hs, ks, im, ls', tx, pp) := by
  obtain ⟨⟨a0, a1, a2⟩, a3, a4, a5, a6, a7, a8⟩ := h
  exact ⟨⟨a0, (hf.2 0 (by decide)).trans a1, a2.mg hf (by decide) (by decide)⟩, a3.mg hf (by decide) (by decide), a4.mg hf (by decide) (by decide), a5.mg hf (by decide) (by decide) (by decide) (by decide), hL, a7.mg hf (by decide) (by decide), a8.mg hf (by decide) (by decide)⟩
theorem liL {t : Nat} (ht : t < 4) {μ : Mem} {f : Nat → Int32} : mg [73, 108, 109, 110, 111] [] μ (mset μ (108 + t) f) := mg.fr (frm.set.mono (fun i hi => by
  rw [List.mem_singleton.mp hi]
  rcases (show t = 0 ∨ t = 1 ∨ t = 2 ∨ t = 3 by omega) with rfl | rfl | rfl | rfl <;> decide)) (by decide)
set_option maxHeartbeats 4000000 in
theorem c_X9_put {l : Launch} {v i x : Int32} {S : ST} {μ : Mem} {Q : Option Value → Mem → Prop} (hM : MR μ S) (hQ : ∀ μ', frm mL μ μ' → MR μ' (sp_put v i x S).2 → Q (some (.int (sp_put v i x S).1)) μ') : CC l 2 mX9_put [.ref 24, .int v, .int i, .int x] μ Q := by
  refine CC.of (M := mX9_put) (by decide +kernel) rfl (fun v h => by simp at h; rcases h with rfl | rfl | rfl | rfl <;> rfl) (Nat.le_of_ble_eq_true rfl) (fun X hX => ?_)
  have hc := hX.cx
  obtain ⟨K, B, hs, ks, im, ls, tx, pp⟩ := S
  have a5 := hM.2.2.2.2.1
  have a73 := HA73
  have q74 := HQ74
  dsimp only [sp_put] at hQ
  rcases lst_cases ls v with ⟨hin, -⟩ | ⟨t, ht, rfl, hin, hls, -⟩ | ⟨t, xs, ht, rfl, hin, hls, -⟩
  · rw [if_neg (by rw [hin]; exact Bool.false_ne_true)] at hQ
    refine tt_il1 (q := 1) hc dX9_put_0 rfl ?_
    refine tt_cS1 (q := 4) (d' := 1) hc (by first | decide | omega) kmX9_isList ml_X9_336 (Nat.le_of_ble_eq_true rfl) dX9_put_1 rfl ?_
    refine c_X9_isList ?_
    rw [hin]
    dsimp only [Option.toList, List.nil_append, List.cons_append]
    first | (with_reducible refine chkb ?_; refine tt_ifneB (t := 9) (q := 7) hc dX9_put_4 rfl rfl (fun c_4 => ?_) (fun c_4 => ?_)) | (with_reducible refine chk1 ?_; refine tt_ifneN (t := 9) (q := 7) hc (by omega) dX9_put_4 rfl rfl (fun c_4 => ?_) (fun c_4 => ?_)) | refine tt_ifne (t := 9) (q := 7) hc dX9_put_4 rfl rfl (fun c_4 => ?_) (fun c_4 => ?_)
    · exact absurd c_4 (by decide)
    · refine tt_iconst (v := -1) (q := 8) hc rfl dX9_put_7 rfl ?_
      refine tt_reti hX rfl dX9_put_8 ?_
      exact hQ μ frm.rf hM
  · rw [if_pos hin, nI_clamp (by omega), hls] at hQ
    have e := a5.no ht hls
    refine tt_il1 (q := 1) hc dX9_put_0 rfl ?_
    refine tt_cS1 (q := 4) (d' := 1) hc (by first | decide | omega) kmX9_isList ml_X9_336 (Nat.le_of_ble_eq_true rfl) dX9_put_1 rfl ?_
    refine c_X9_isList ?_
    rw [hin]
    dsimp only [Option.toList, List.nil_append, List.cons_append]
    first | (with_reducible refine chkb ?_; refine tt_ifneB (t := 9) (q := 7) hc dX9_put_4 rfl rfl (fun c_4 => ?_) (fun c_4 => ?_)) | (with_reducible refine chk1 ?_; refine tt_ifneN (t := 9) (q := 7) hc (by omega) dX9_put_4 rfl rfl (fun c_4 => ?_) (fun c_4 => ?_)) | refine tt_ifne (t := 9) (q := 7) hc dX9_put_4 rfl rfl (fun c_4 => ?_) (fun c_4 => ?_)
    · refine tt_al0 (q := 10) hc dX9_put_9 rfl ?_
      refine tt_getR (q := 13) hc fl_X9_76 (by first | assumption | exact ⟨by decide, _, rfl, rfl⟩) dX9_put_10 rfl ?_
      refine tt_il1 (q := 14) hc dX9_put_13 rfl ?_
      refine tt_iald (q := 15) hc (by first | assumption | exact ⟨by decide, rfl, by decide⟩) (by omega) dX9_put_14 rfl ?_
      rw [e]
      refine tt_ifge (t := 21) (q := 18) hc dX9_put_15 rfl rfl (fun c_15 => ?_) (fun c_15 => ?_)
      · exact absurd c_15 (by decide)
      · refine tt_bipush (v := -11) (q := 20) hc (by decide) dX9_put_18 rfl ?_
        refine tt_reti hX rfl dX9_put_20 ?_
        exact hQ μ frm.rf hM
    · exact absurd c_4 (by decide)
  · rw [if_pos hin, nI_clamp (by omega), hls] at hQ
    dsimp only at hQ
    obtain ⟨x1, x2, x3⟩ := a5.so ht hls
    have a108 : HA (108 + t) 0 40 := ⟨by omega, sh_li, by decide⟩
    rcases lx_iff (l := xs) (v := i) (by omega) with ⟨n, b, rfl, hn, hb, hlx, hin2⟩ | ⟨hlx, hin2⟩
    · rw [hlx, nI_clamp (by omega)] at hQ
      refine tt_il1 (q := 1) hc dX9_put_0 rfl ?_
      refine tt_cS1 (q := 4) (d' := 1) hc (by first | decide | omega) kmX9_isList ml_X9_336 (Nat.le_of_ble_eq_true rfl) dX9_put_1 rfl ?_
      refine c_X9_isList ?_
      rw [hin]
      dsimp only [Option.toList, List.nil_append, List.cons_append]
      first | (with_reducible refine chkb ?_; refine tt_ifneB (t := 9) (q := 7) hc dX9_put_4 rfl rfl (fun c_4 => ?_) (fun c_4 => ?_)) | (with_reducible refine chk1 ?_; refine tt_ifneN (t := 9) (q := 7) hc (by omega) dX9_put_4 rfl rfl (fun c_4 => ?_) (fun c_4 => ?_)) | refine tt_ifne (t := 9) (q := 7) hc dX9_put_4 rfl rfl (fun c_4 => ?_) (fun c_4 => ?_)
      · refine tt_al0 (q := 10) hc dX9_put_9 rfl ?_
        refine tt_getR (q := 13) hc fl_X9_76 (by first | assumption | exact ⟨by decide, _, rfl, rfl⟩) dX9_put_10 rfl ?_
        refine tt_il1 (q := 14) hc dX9_put_13 rfl ?_
        refine tt_iald (q := 15) hc (by first | assumption | exact ⟨by decide, rfl, by decide⟩) (by omega) dX9_put_14 rfl ?_
        rw [x2]
        refine tt_ifge (t := 21) (q := 18) hc dX9_put_15 rfl rfl (fun c_15 => ?_) (fun c_15 => ?_)
        · refine tt_al0 (q := 22) hc dX9_put_21 rfl ?_
          refine tt_il1 (q := 23) hc dX9_put_22 rfl ?_
          refine tt_il2 (q := 24) hc dX9_put_23 rfl ?_
          refine tt_cV2 (q := 27) (d' := 1) (ci := 9) hc (by first | decide | omega) kmX9_isPlace ml_X9_345 (by first | assumption | exact ⟨by decide, _, rfl⟩) rfl (Nat.le_of_ble_eq_true rfl) dX9_put_24 rfl ?_
          refine c_X9_isPlace a5 ht hls ?_
          rw [hin2]
          dsimp only [Option.toList, List.nil_append, List.cons_append]
          first | (with_reducible refine chkb ?_; refine tt_ifneB (t := 33) (q := 30) hc dX9_put_27 rfl rfl (fun c_27 => ?_) (fun c_27 => ?_)) | (with_reducible refine chk1 ?_; refine tt_ifneN (t := 33) (q := 30) hc (by omega) dX9_put_27 rfl rfl (fun c_27 => ?_) (fun c_27 => ?_)) | refine tt_ifne (t := 33) (q := 30) hc dX9_put_27 rfl rfl (fun c_27 => ?_) (fun c_27 => ?_)
          · refine tt_al0 (q := 34) hc dX9_put_33 rfl ?_
            refine tt_getR (q := 37) hc fl_X9_79 (by first | assumption | exact ⟨by decide, _, rfl, rfl⟩) dX9_put_34 rfl ?_
            refine tt_il1 (q := 38) hc dX9_put_37 rfl ?_
            refine tt_aald (q := 39) hc (r := _) (by first | assumption | exact ⟨by decide, rfl, by decide⟩) (by decide) (by omega) dX9_put_38 rfl ?_
            refine tt_il2 (q := 40) hc dX9_put_39 rfl ?_
            refine tt_il3 (q := 41) hc dX9_put_40 rfl ?_
            refine tt_iast (q := 42) hc (by first | assumption | exact ⟨by decide, rfl, by decide⟩) (by omega) dX9_put_41 rfl ?_
            refine tt_iconst (v := nI 1) (q := 43) hc rfl dX9_put_42 rfl ?_
            refine tt_reti hX rfl dX9_put_43 ?_
            exact hQ _ ((liL ht).ml (by decide)) (hM.ls (liL ht) (a5.put ht hls hn))
          · exact absurd c_27 (by decide)
        · exact absurd (nI_pos (by omega)) (fun z => z (Int32.not_le.mp c_15))
      · exact absurd c_4 (by decide)
    · rw [hlx] at hQ
      refine tt_il1 (q := 1) hc dX9_put_0 rfl ?_
      refine tt_cS1 (q := 4) (d' := 1) hc (by first | decide | omega) kmX9_isList ml_X9_336 (Nat.le_of_ble_eq_true rfl) dX9_put_1 rfl ?_
      refine c_X9_isList ?_
      rw [hin]
      dsimp only [Option.toList, List.nil_append, List.cons_append]
      first | (with_reducible refine chkb ?_; refine tt_ifneB (t := 9) (q := 7) hc dX9_put_4 rfl rfl (fun c_4 => ?_) (fun c_4 => ?_)) | (with_reducible refine chk1 ?_; refine tt_ifneN (t := 9) (q := 7) hc (by omega) dX9_put_4 rfl rfl (fun c_4 => ?_) (fun c_4 => ?_)) | refine tt_ifne (t := 9) (q := 7) hc dX9_put_4 rfl rfl (fun c_4 => ?_) (fun c_4 => ?_)
      · refine tt_al0 (q := 10) hc dX9_put_9 rfl ?_
        refine tt_getR (q := 13) hc fl_X9_76 (by first | assumption | exact ⟨by decide, _, rfl, rfl⟩) dX9_put_10 rfl ?_
        refine tt_il1 (q := 14) hc dX9_put_13 rfl ?_
        refine tt_iald (q := 15) hc (by first | assumption | exact ⟨by decide, rfl, by decide⟩) (by omega) dX9_put_14 rfl ?_
        rw [x2]
        refine tt_ifge (t := 21) (q := 18) hc dX9_put_15 rfl rfl (fun c_15 => ?_) (fun c_15 => ?_)
        · refine tt_al0 (q := 22) hc dX9_put_21 rfl ?_
          refine tt_il1 (q := 23) hc dX9_put_22 rfl ?_
          refine tt_il2 (q := 24) hc dX9_put_23 rfl ?_
          refine tt_cV2 (q := 27) (d' := 1) (ci := 9) hc (by first | decide | omega) kmX9_isPlace ml_X9_345 (by first | assumption | exact ⟨by decide, _, rfl⟩) rfl (Nat.le_of_ble_eq_true rfl) dX9_put_24 rfl ?_
          refine c_X9_isPlace a5 ht hls ?_
          rw [hin2]
          dsimp only [Option.toList, List.nil_append, List.cons_append]
          first | (with_reducible refine chkb ?_; refine tt_ifneB (t := 33) (q := 30) hc dX9_put_27 rfl rfl (fun c_27 => ?_) (fun c_27 => ?_)) | (with_reducible refine chk1 ?_; refine tt_ifneN (t := 33) (q := 30) hc (by omega) dX9_put_27 rfl rfl (fun c_27 => ?_) (fun c_27 => ?_)) | refine tt_ifne (t := 33) (q := 30) hc dX9_put_27 rfl rfl (fun c_27 => ?_) (fun c_27 => ?_)
          · exact absurd c_27 (by decide)
          · refine tt_bipush (v := -13) (q := 32) hc (by decide) dX9_put_30 rfl ?_
            refine tt_reti hX rfl dX9_put_32 ?_
            exact hQ μ frm.rf hM
        · exact absurd (nI_pos (by omega)) (fun z => z (Int32.not_le.mp c_15))
      · exact absurd c_4 (by decide)
