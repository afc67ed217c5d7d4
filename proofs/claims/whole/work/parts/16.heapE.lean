/-! HEAP: flips -/
theorem cW_popK {K : Nat} {B : Nat → Bool} (h : HOK K B) {s : Nat} (hs : s < 256) (hp : 0 < cW B s) : pop s ≤ K := by
  obtain ⟨t, h1, h2, h3⟩ := cW_pos.mp hp
  have := pop_mono t h1 s hs h3
  rw [(h.2 t h2).2] at this
  exact this
def lowb (f : Nat) : Nat := f &&& (256 - f)
theorem low_eq : ∀ f, f < 256 → nI f &&& -(nI f) = nI (lowb f) := by decide +kernel
theorem lkp_lt {B : Nat → Bool} {s : Nat} : ∀ n p r, p + n = 8 → r < 256 → lkp B s n p r < 256
  | 0, _, r, _, h => h
  | n + 1, p, r, hp, h => by
    rw [lkp]
    refine lkp_lt n (p + 1) _ (by omega) ?_
    split
    · exact or_lt h (p2_lt (by omega))
    · exact h
theorem lkP_lt (B : Nat → Bool) (s : Nat) : lkP B s < 256 := lkp_lt 8 0 0 rfl (by decide)
/-- b of the FLIP of a; 0: none -/
def prt (K : Nat) (B : Nat → Bool) (a : Nat) : Nat :=
  if a = 0 ∨ cW B a = 0 ∨ ¬ cW B a + pop a = K + 1 then 0
  else if pop a = K then lowb (255 ^^^ (255 &&& lkP B 0))
  else if pop (lkP B a) + pop a = K + 1 ∧ cW B (lkP B a) = 0 then lkP B a else 0
theorem lowb_lt {f : Nat} (h : f < 256) : lowb f < 256 := and_lt h
theorem cmp_lt : ∀ f, f < 256 → 255 ^^^ (255 &&& f) < 256 := by decide +kernel
theorem prt_lt (K : Nat) (B : Nat → Bool) (a : Nat) : prt K B a < 256 := by
  unfold prt
  split
  · decide
  · split
    · exact lowb_lt (cmp_lt _ (lkP_lt B 0))
    · split
      · exact lkP_lt B a
      · decide
set_option maxHeartbeats 4000000 in
theorem c_X0_partner {l : Launch} {j K a : Nat} (hj : j < 16) {B : Nat → Bool} {μ : Mem} {Q : Option Value → Mem → Prop} (hR : RC μ j K B) (hQ : Q (some (.int (nI (prt K B a)))) μ) (ha : a < 256 := by omega) : CC l 2 mX0_partner [.ref (40 + 2 * j), .int (nI a)] μ Q := by
  refine CC.of (M := mX0_partner) (by decide +kernel) rfl (fun v h => by simp at h; rcases h with rfl | rfl <;> rfl) (Nat.le_of_ble_eq_true rfl) (fun X hX => ?_)
  have hc := hX.cx
  have ho : HO (40 + 2 * j) 0 := ⟨by omega, _, sh_ho hj⟩
  have hw : HR (40 + 2 * j) 0 1 (40 + 2 * j + 1) := ⟨by omega, _, sh_ho hj, rfl⟩
  have hk : HI (40 + 2 * j) 0 0 := ⟨by omega, _, sh_ho hj, _, rfl⟩
  have hA : HA (40 + 2 * j + 1) 0 256 := ⟨by omega, sh_hw hj, by decide⟩
  have hK := hR.1.1
  have h3 := cW_le B a
  have h4 := pop_le a ha
  have h5 := lkP_lt B a
  have h6 := cW_le B (lkP B a)
  have h7 := pop_le (lkP B a) h5
  have hle := fun z => cW_popK hR.1 ha z
  have h8 := cmp_lt _ (lkP_lt B 0)
  rw [prt] at hQ
  refine tt_al0 (q := 1) hc dX0_partner_0 rfl ?_
  refine tt_getI (q := 4) hc fl_X0_9 (by first | assumption | exact ⟨by decide, _, rfl, _, rfl⟩) dX0_partner_1 rfl ?_
  rw [hR.2.1]
  refine tt_iconst (v := nI 1) (q := 5) hc rfl dX0_partner_4 rfl ?_
  first | (with_reducible refine chk2 ?_; refine tt_iaddN (q := 6) hc dX0_partner_5 rfl ?_) | refine tt_iadd (q := 6) hc dX0_partner_5 rfl ?_
  refine tt_il1 (q := 7) hc dX0_partner_6 rfl ?_
  refine tt_cS1 (q := 10) (d' := 0) hc (by decide) kmJ6_bitCount_0f7a4 ml_X0_25 (Nat.le_of_ble_eq_true rfl) dX0_partner_7 rfl ?_
  refine c_J6_bitCount_0f7a4 ?_
  dsimp only [Option.toList, List.nil_append, List.cons_append]
  refine tt_isub (q := 11) hc dX0_partner_10 rfl ?_
  refine tt_is2 (q := 12) hc dX0_partner_11 rfl (by decide) ?_
  refine tt_il1 (q := 13) hc dX0_partner_12 rfl ?_
  first | (with_reducible refine chkb ?_; refine tt_ifeqB (t := 35) (q := 16) hc dX0_partner_13 rfl rfl (fun c_13 => ?_) (fun c_13 => ?_)) | (with_reducible refine chk1 ?_; refine tt_ifeqN (t := 35) (q := 16) hc (by omega) dX0_partner_13 rfl rfl (fun c_13 => ?_) (fun c_13 => ?_)) | refine tt_ifeq (t := 35) (q := 16) hc dX0_partner_13 rfl rfl (fun c_13 => ?_) (fun c_13 => ?_)
  · refine tt_iconst (v := nI 0) (q := 36) hc rfl dX0_partner_35 rfl ?_
    refine tt_reti hX rfl dX0_partner_36 ?_
    first
    | (rw [if_pos (Or.inl c_13)] at hQ; exact hQ)
    | (rw [if_pos (Or.inr (Or.inl c_22))] at hQ; exact hQ)
    | (rw [if_pos (Or.inr (Or.inr (by omega)))] at hQ; exact hQ)
  · refine tt_al0 (q := 17) hc dX0_partner_16 rfl ?_
    refine tt_getR (q := 20) hc fl_X0_15 (by first | assumption | exact ⟨by decide, _, rfl, rfl⟩) dX0_partner_17 rfl ?_
    refine tt_il1 (q := 21) hc dX0_partner_20 rfl ?_
    refine tt_iald (q := 22) hc (by first | assumption | exact ⟨by decide, rfl, by decide⟩) (by omega) dX0_partner_21 rfl ?_
    rw [hR.2.2 a ha]
    first | (with_reducible refine chkb ?_; refine tt_ifeqB (t := 35) (q := 25) hc dX0_partner_22 rfl rfl (fun c_22 => ?_) (fun c_22 => ?_)) | (with_reducible refine chk1 ?_; refine tt_ifeqN (t := 35) (q := 25) hc (by omega) dX0_partner_22 rfl rfl (fun c_22 => ?_) (fun c_22 => ?_)) | refine tt_ifeq (t := 35) (q := 25) hc dX0_partner_22 rfl rfl (fun c_22 => ?_) (fun c_22 => ?_)
    · refine tt_iconst (v := nI 0) (q := 36) hc rfl dX0_partner_35 rfl ?_
      refine tt_reti hX rfl dX0_partner_36 ?_
      first
      | (rw [if_pos (Or.inl c_13)] at hQ; exact hQ)
      | (rw [if_pos (Or.inr (Or.inl c_22))] at hQ; exact hQ)
      | (rw [if_pos (Or.inr (Or.inr (by omega)))] at hQ; exact hQ)
    · rw [pk_sub (by have := hle c_22; omega)]
      refine tt_al0 (q := 26) hc dX0_partner_25 rfl ?_
      refine tt_getR (q := 29) hc fl_X0_15 (by first | assumption | exact ⟨by decide, _, rfl, rfl⟩) dX0_partner_26 rfl ?_
      refine tt_il1 (q := 30) hc dX0_partner_29 rfl ?_
      refine tt_iald (q := 31) hc (by first | assumption | exact ⟨by decide, rfl, by decide⟩) (by omega) dX0_partner_30 rfl ?_
      rw [hR.2.2 a ha]
      refine tt_il2 (q := 32) hc dX0_partner_31 rfl ?_
      first | (with_reducible refine chk2 ?_; refine tt_iceqN (t := 37) (q := 35) hc (by omega) (by omega) dX0_partner_32 rfl rfl (fun c_32 => ?_) (fun c_32 => ?_)) | refine tt_iceq (t := 37) (q := 35) hc dX0_partner_32 rfl rfl (fun c_32 => ?_) (fun c_32 => ?_)
      · refine tt_il2 (q := 38) hc dX0_partner_37 rfl ?_
        refine tt_iconst (v := nI 1) (q := 39) hc rfl dX0_partner_38 rfl ?_
        first | (with_reducible refine chk2 ?_; refine tt_icneN (t := 58) (q := 42) hc (by omega) (by omega) dX0_partner_39 rfl rfl (fun c_39 => ?_) (fun c_39 => ?_)) | refine tt_icne (t := 58) (q := 42) hc dX0_partner_39 rfl rfl (fun c_39 => ?_) (fun c_39 => ?_)
        · refine tt_al0 (q := 59) hc dX0_partner_58 rfl ?_
          refine tt_il1 (q := 60) hc dX0_partner_59 rfl ?_
          refine tt_cV1 (q := 63) (d' := 0) (ci := 0) hc (by decide) kmX0_linkPoints ml_X0_50 (by first | assumption | exact ⟨by decide, _, rfl⟩) rfl (Nat.le_of_ble_eq_true rfl) dX0_partner_60 rfl ?_
          refine c_X0_linkPoints hj hR ?_
          dsimp only [Option.toList, List.nil_append, List.cons_append]
          refine tt_is3 (q := 64) hc dX0_partner_63 rfl (by decide) ?_
          refine tt_il3 (q := 65) hc dX0_partner_64 rfl ?_
          refine tt_cS1 (q := 68) (d' := 0) hc (by decide) kmJ6_bitCount_0f7a4 ml_X0_25 (Nat.le_of_ble_eq_true rfl) dX0_partner_65 rfl ?_
          refine c_J6_bitCount_0f7a4 ?_
          dsimp only [Option.toList, List.nil_append, List.cons_append]
          refine tt_il2 (q := 69) hc dX0_partner_68 rfl ?_
          first | (with_reducible refine chk2 ?_; refine tt_icneN (t := 85) (q := 72) hc (by omega) (by omega) dX0_partner_69 rfl rfl (fun c_69 => ?_) (fun c_69 => ?_)) | refine tt_icne (t := 85) (q := 72) hc dX0_partner_69 rfl rfl (fun c_69 => ?_) (fun c_69 => ?_)
          · refine tt_iconst (v := nI 0) (q := 86) hc rfl dX0_partner_85 rfl ?_
            refine tt_reti hX rfl dX0_partner_86 ?_
            have := hle c_22
            rw [if_neg (by omega), if_neg (by omega)] at hQ
            first
              | (rw [if_neg (by omega)] at hQ; exact hQ)
              | (rw [if_pos (by omega)] at hQ; exact hQ)
          · refine tt_al0 (q := 73) hc dX0_partner_72 rfl ?_
            refine tt_getR (q := 76) hc fl_X0_15 (by first | assumption | exact ⟨by decide, _, rfl, rfl⟩) dX0_partner_73 rfl ?_
            refine tt_il3 (q := 77) hc dX0_partner_76 rfl ?_
            refine tt_iald (q := 78) hc (by first | assumption | exact ⟨by decide, rfl, by decide⟩) (by omega) dX0_partner_77 rfl ?_
            rw [hR.2.2 _ h5]
            first | (with_reducible refine chkb ?_; refine tt_ifneB (t := 85) (q := 81) hc dX0_partner_78 rfl rfl (fun c_78 => ?_) (fun c_78 => ?_)) | (with_reducible refine chk1 ?_; refine tt_ifneN (t := 85) (q := 81) hc (by omega) dX0_partner_78 rfl rfl (fun c_78 => ?_) (fun c_78 => ?_)) | refine tt_ifne (t := 85) (q := 81) hc dX0_partner_78 rfl rfl (fun c_78 => ?_) (fun c_78 => ?_)
            · refine tt_iconst (v := nI 0) (q := 86) hc rfl dX0_partner_85 rfl ?_
              refine tt_reti hX rfl dX0_partner_86 ?_
              have := hle c_22
              rw [if_neg (by omega), if_neg (by omega)] at hQ
              first
                | (rw [if_neg (by omega)] at hQ; exact hQ)
                | (rw [if_pos (by omega)] at hQ; exact hQ)
            · refine tt_il3 (q := 82) hc dX0_partner_81 rfl ?_
              refine tt_goto (t := 86) hc dX0_partner_82 rfl ?_
              refine tt_reti hX rfl dX0_partner_86 ?_
              have := hle c_22
              rw [if_neg (by omega), if_neg (by omega)] at hQ
              first
                | (rw [if_neg (by omega)] at hQ; exact hQ)
                | (rw [if_pos (by omega)] at hQ; exact hQ)
        · refine tt_al0 (q := 43) hc dX0_partner_42 rfl ?_
          refine tt_cV0 (q := 46) (d' := 1) (ci := 0) hc (by decide) kmX0_there ml_X0_60 (by first | assumption | exact ⟨by decide, _, rfl⟩) rfl (Nat.le_of_ble_eq_true rfl) dX0_partner_43 rfl ?_
          refine c_X0_there hj hR ?_
          dsimp only [Option.toList, List.nil_append, List.cons_append]
          refine tt_iconst (v := -1) (q := 47) hc rfl dX0_partner_46 rfl ?_
          first | (with_reducible refine chk2 ?_; refine tt_ixorN (q := 48) hc dX0_partner_47 rfl ?_) | refine tt_ixor (q := 48) hc dX0_partner_47 rfl ?_
          refine tt_sipush (v := nI 255) (q := 51) hc (by decide) dX0_partner_48 rfl ?_
          first | (with_reducible refine chk2 ?_; refine tt_iandN (q := 52) hc dX0_partner_51 rfl ?_) | (with_reducible refine chkan ?_; refine tt_iandnN (q := 52) hc dX0_partner_51 rfl ?_) | (with_reducible refine chkna ?_; refine tt_inandN (q := 52) hc dX0_partner_51 rfl ?_) | refine tt_iand (q := 52) hc dX0_partner_51 rfl ?_
          refine tt_is3 (q := 53) hc dX0_partner_52 rfl (by decide) ?_
          refine tt_il3 (q := 54) hc dX0_partner_53 rfl ?_
          refine tt_il3 (q := 55) hc dX0_partner_54 rfl ?_
          refine tt_ineg (q := 56) hc dX0_partner_55 rfl ?_
          first | (with_reducible refine chk2 ?_; refine tt_iandN (q := 57) hc dX0_partner_56 rfl ?_) | (with_reducible refine chkan ?_; refine tt_iandnN (q := 57) hc dX0_partner_56 rfl ?_) | (with_reducible refine chkna ?_; refine tt_inandN (q := 57) hc dX0_partner_56 rfl ?_) | refine tt_iand (q := 57) hc dX0_partner_56 rfl ?_
          rw [low_eq _ h8]
          refine tt_reti hX rfl dX0_partner_57 ?_
          have := hle c_22
          rw [if_neg (by omega), if_pos (by omega)] at hQ
          exact hQ
      · refine tt_iconst (v := nI 0) (q := 36) hc rfl dX0_partner_35 rfl ?_
        refine tt_reti hX rfl dX0_partner_36 ?_
        first
        | (rw [if_pos (Or.inl c_13)] at hQ; exact hQ)
        | (rw [if_pos (Or.inr (Or.inl c_22))] at hQ; exact hQ)
        | (rw [if_pos (Or.inr (Or.inr (by omega)))] at hQ; exact hQ)
/-- the sets a of FLIPS, n sets from s on -/
def flF (K : Nat) (B : Nat → Bool) : Nat → Nat → List Nat
  | 0, _ => []
  | n + 1, s => if prt K B s = 0 then flF K B n (s + 1) else s :: flF K B n (s + 1)
def fl (K : Nat) (B : Nat → Bool) : List Nat := flF K B 255 1
theorem flF_len (K : Nat) (B : Nat → Bool) : ∀ n s, (flF K B n s).length ≤ n
  | 0, _ => Nat.le_refl 0
  | n + 1, s => by
    have := flF_len K B n (s + 1)
    rw [flF]
    split
    · omega
    · rw [List.length_cons]
      omega
theorem fl_len (K : Nat) (B : Nat → Bool) : (fl K B).length ≤ 255 := flF_len K B 255 1
set_option maxHeartbeats 4000000 in
theorem c_X0_gather {l : Launch} {j K a : Nat} (hj : j < 16) {B : Nat → Bool} {μ : Mem} {Q : Option Value → Mem → Prop} (hR : RC μ j K B) (hAa : HA a 0 256) (hne : a ≠ 40 + 2 * j ∧ a ≠ 40 + 2 * j + 1) (hQ : ∀ μ', frm [a] μ μ' → (∀ i s, (fl K B)[i]? = some s → μ' a i = nI s) → Q (some (.int (nI (fl K B).length))) μ') : CC l 3 mX0_gather [.ref (40 + 2 * j), .ref a] μ Q := by
  refine CC.of (M := mX0_gather) (by decide +kernel) rfl (fun v h => by simp at h; rcases h with rfl | rfl <;> rfl) (Nat.le_of_ble_eq_true rfl) (fun X hX => ?_)
  have hc := hX.cx
  have ho : HO (40 + 2 * j) 0 := ⟨by omega, _, sh_ho hj⟩
  have L : ∀ (n s m : Nat) (ν : Mem), s + n = 256 → m < s → RC ν j K B → (∀ ν', frm [a] ν ν' → (∀ i s', (flF K B n s)[i]? = some s' → ν' a (m + i) = nI s') → (∀ t, t < m → ν' a t = ν a t) → Q (some (.int (nI (m + (flF K B n s).length)))) ν') → TT X 4 [.ref (40 + 2 * j), .ref a, .int (nI m), .int (nI s)] [] ν := by
    intro n
    induction n with
    | zero =>
      intro s m ν hs hm hR h
      refine tt_il3 (q := 5) hc dX0_gather_4 rfl ?_
      refine tt_sipush (v := nI 256) (q := 8) hc (by decide) dX0_gather_5 rfl ?_
      first | (with_reducible refine chk2 ?_; refine tt_icgeN (t := 38) (q := 11) hc (by omega) (by omega) dX0_gather_8 rfl rfl (fun c_8 => ?_) (fun c_8 => ?_)) | refine tt_icge (t := 38) (q := 11) hc dX0_gather_8 rfl rfl (fun c_8 => ?_) (fun c_8 => ?_)
      · refine tt_il2 (q := 39) hc dX0_gather_38 rfl ?_
        refine tt_reti hX rfl dX0_gather_39 ?_
        exact h ν frm.rf (fun i s' h => by simp [flF] at h) (fun _ _ => rfl)
      · omega
    | succ n ih =>
      intro s m ν hs hm hR h
      have hl := prt_lt K B s
      rw [flF] at h
      refine tt_il3 (q := 5) hc dX0_gather_4 rfl ?_
      refine tt_sipush (v := nI 256) (q := 8) hc (by decide) dX0_gather_5 rfl ?_
      first | (with_reducible refine chk2 ?_; refine tt_icgeN (t := 38) (q := 11) hc (by omega) (by omega) dX0_gather_8 rfl rfl (fun c_8 => ?_) (fun c_8 => ?_)) | refine tt_icge (t := 38) (q := 11) hc dX0_gather_8 rfl rfl (fun c_8 => ?_) (fun c_8 => ?_)
      · omega
      · refine tt_al0 (q := 12) hc dX0_gather_11 rfl ?_
        refine tt_il3 (q := 13) hc dX0_gather_12 rfl ?_
        refine tt_cV1 (q := 16) (d' := 2) (ci := 0) hc (by decide) kmX0_partner ml_X0_64 (by first | assumption | exact ⟨by decide, _, rfl⟩) rfl (Nat.le_of_ble_eq_true rfl) dX0_gather_13 rfl ?_
        refine c_X0_partner hj hR ?_
        dsimp only [Option.toList, List.nil_append, List.cons_append]
        first | (with_reducible refine chkb ?_; refine tt_ifeqB (t := 32) (q := 19) hc dX0_gather_16 rfl rfl (fun c_16 => ?_) (fun c_16 => ?_)) | (with_reducible refine chk1 ?_; refine tt_ifeqN (t := 32) (q := 19) hc (by omega) dX0_gather_16 rfl rfl (fun c_16 => ?_) (fun c_16 => ?_)) | refine tt_ifeq (t := 32) (q := 19) hc dX0_gather_16 rfl rfl (fun c_16 => ?_) (fun c_16 => ?_)
        · first | refine tt_inc3 (q := 35) hc dX0_gather_32 rfl (by decide) (incN _) ?_ | refine tt_inc3 (q := 35) hc dX0_gather_32 rfl (by decide) rfl ?_
          refine tt_goto (t := 4) hc dX0_gather_35 rfl ?_
          first
          | (rw [if_pos c_16] at h; exact ih _ _ _ (by omega) (by omega) hR h)
          | rw [if_neg (by omega)] at h
            refine ih _ _ _ (by omega) (by omega) (hR.frm frm.set (by simp; omega) (by simp; omega)) (fun ν' hf h1 h2 => ?_)
            have e1 : m + 1 + (flF K B n (s + 1)).length = m + (s :: flF K B n (s + 1)).length := by rw [List.length_cons]; omega
            rw [e1]
            refine h ν' (frm.set.tr hf) (fun i s' hi => ?_) (fun t ht => ?_)
            · cases i with
              | zero =>
                simp only [List.getElem?_cons_zero, Option.some.injEq] at hi
                rw [Nat.add_zero, h2 m (by omega), mset_eq, pk_us, hi]
              | succ i =>
                simp only [List.getElem?_cons_succ] at hi
                rw [← h1 i s' hi]
                congr 1
                omega
            · rw [h2 t (by omega), mset_eq, pk_un (by omega)]
        · refine tt_il2 (q := 20) hc dX0_gather_19 rfl ?_
          refine tt_al1 (q := 21) hc dX0_gather_20 rfl ?_
          refine tt_alen (q := 22) hc (by first | assumption | exact ⟨by decide, rfl, by decide⟩) (by decide) dX0_gather_21 rfl ?_
          first | (with_reducible refine chk2 ?_; refine tt_icgeN (t := 32) (q := 25) hc (by omega) (by omega) dX0_gather_22 rfl rfl (fun c_22 => ?_) (fun c_22 => ?_)) | refine tt_icge (t := 32) (q := 25) hc dX0_gather_22 rfl rfl (fun c_22 => ?_) (fun c_22 => ?_)
          · omega
          · refine tt_al1 (q := 26) hc dX0_gather_25 rfl ?_
            refine tt_il2 (q := 27) hc dX0_gather_26 rfl ?_
            refine tt_il3 (q := 28) hc dX0_gather_27 rfl ?_
            refine tt_iast (q := 29) hc (by first | assumption | exact ⟨by decide, rfl, by decide⟩) (by omega) dX0_gather_28 rfl ?_
            first | refine tt_inc2 (q := 32) hc dX0_gather_29 rfl (by decide) (incN _) ?_ | refine tt_inc2 (q := 32) hc dX0_gather_29 rfl (by decide) rfl ?_
            first | refine tt_inc3 (q := 35) hc dX0_gather_32 rfl (by decide) (incN _) ?_ | refine tt_inc3 (q := 35) hc dX0_gather_32 rfl (by decide) rfl ?_
            refine tt_goto (t := 4) hc dX0_gather_35 rfl ?_
            first
            | (rw [if_pos c_16] at h; exact ih _ _ _ (by omega) (by omega) hR h)
            | rw [if_neg (by omega)] at h
              refine ih _ _ _ (by omega) (by omega) (hR.frm frm.set (by simp; omega) (by simp; omega)) (fun ν' hf h1 h2 => ?_)
              have e1 : m + 1 + (flF K B n (s + 1)).length = m + (s :: flF K B n (s + 1)).length := by rw [List.length_cons]; omega
              rw [e1]
              refine h ν' (frm.set.tr hf) (fun i s' hi => ?_) (fun t ht => ?_)
              · cases i with
                | zero =>
                  simp only [List.getElem?_cons_zero, Option.some.injEq] at hi
                  rw [Nat.add_zero, h2 m (by omega), mset_eq, pk_us, hi]
                | succ i =>
                  simp only [List.getElem?_cons_succ] at hi
                  rw [← h1 i s' hi]
                  congr 1
                  omega
              · rw [h2 t (by omega), mset_eq, pk_un (by omega)]
  refine tt_iconst (v := nI 0) (q := 1) hc rfl dX0_gather_0 rfl ?_
  refine tt_is2 (q := 2) hc dX0_gather_1 rfl (by decide) ?_
  refine tt_iconst (v := nI 1) (q := 3) hc rfl dX0_gather_2 rfl ?_
  refine tt_is3 (q := 4) hc dX0_gather_3 rfl (by decide) ?_
  exact L 255 1 0 μ rfl (by omega) hR (fun ν' hf h1 _ => by rw [Nat.zero_add]; exact hQ ν' hf (fun i s hi => by rw [← h1 i s hi, Nat.zero_add]))
def num (K : Nat) (B : Nat → Bool) (a : Nat) : Option Nat := if prt K B a = 0 then none else some (flF K B (a - 1) 1).length
set_option maxHeartbeats 4000000 in
theorem c_X0_numberOf {l : Launch} {j K a : Nat} (hj : j < 16) {B : Nat → Bool} {μ : Mem} {Q : Option Value → Mem → Prop} (hR : RC μ j K B) (h0 : 0 < a) (hQ : Q (some (.int (onI (num K B a)))) μ) (ha : a < 256 := by omega) : CC l 3 mX0_numberOf [.ref (40 + 2 * j), .int (nI a)] μ Q := by
  refine CC.of (M := mX0_numberOf) (by decide +kernel) rfl (fun v h => by simp at h; rcases h with rfl | rfl <;> rfl) (Nat.le_of_ble_eq_true rfl) (fun X hX => ?_)
  have hc := hX.cx
  have ho : HO (40 + 2 * j) 0 := ⟨by omega, _, sh_ho hj⟩
  have hl := prt_lt K B a
  rw [num] at hQ
  have L : ∀ (n s m : Nat), s + n = a → m < s → 0 < s → Q (some (.int (nI (m + (flF K B n s).length)))) μ → TT X 15 [.ref (40 + 2 * j), .int (nI a), .int (nI m), .int (nI s)] [] μ := by
    intro n
    induction n with
    | zero =>
      intro s m hs hm h0 h
      refine tt_il3 (q := 16) hc dX0_numberOf_15 rfl ?_
      refine tt_il1 (q := 17) hc dX0_numberOf_16 rfl ?_
      first | (with_reducible refine chk2 ?_; refine tt_icgeN (t := 37) (q := 20) hc (by omega) (by omega) dX0_numberOf_17 rfl rfl (fun c_17 => ?_) (fun c_17 => ?_)) | refine tt_icge (t := 37) (q := 20) hc dX0_numberOf_17 rfl rfl (fun c_17 => ?_) (fun c_17 => ?_)
      · refine tt_il2 (q := 38) hc dX0_numberOf_37 rfl ?_
        refine tt_reti hX rfl dX0_numberOf_38 ?_
        exact h
      · omega
    | succ n ih =>
      intro s m hs hm h0 h
      have hl := prt_lt K B s
      rw [flF] at h
      refine tt_il3 (q := 16) hc dX0_numberOf_15 rfl ?_
      refine tt_il1 (q := 17) hc dX0_numberOf_16 rfl ?_
      first | (with_reducible refine chk2 ?_; refine tt_icgeN (t := 37) (q := 20) hc (by omega) (by omega) dX0_numberOf_17 rfl rfl (fun c_17 => ?_) (fun c_17 => ?_)) | refine tt_icge (t := 37) (q := 20) hc dX0_numberOf_17 rfl rfl (fun c_17 => ?_) (fun c_17 => ?_)
      · omega
      · refine tt_al0 (q := 21) hc dX0_numberOf_20 rfl ?_
        refine tt_il3 (q := 22) hc dX0_numberOf_21 rfl ?_
        refine tt_cV1 (q := 25) (d' := 2) (ci := 0) hc (by decide) kmX0_partner ml_X0_64 (by first | assumption | exact ⟨by decide, _, rfl⟩) rfl (Nat.le_of_ble_eq_true rfl) dX0_numberOf_22 rfl ?_
        refine c_X0_partner hj hR ?_
        dsimp only [Option.toList, List.nil_append, List.cons_append]
        first | (with_reducible refine chkb ?_; refine tt_ifeqB (t := 31) (q := 28) hc dX0_numberOf_25 rfl rfl (fun c_25 => ?_) (fun c_25 => ?_)) | (with_reducible refine chk1 ?_; refine tt_ifeqN (t := 31) (q := 28) hc (by omega) dX0_numberOf_25 rfl rfl (fun c_25 => ?_) (fun c_25 => ?_)) | refine tt_ifeq (t := 31) (q := 28) hc dX0_numberOf_25 rfl rfl (fun c_25 => ?_) (fun c_25 => ?_)
        · first | refine tt_inc3 (q := 34) hc dX0_numberOf_31 rfl (by decide) (incN _) ?_ | refine tt_inc3 (q := 34) hc dX0_numberOf_31 rfl (by decide) rfl ?_
          refine tt_goto (t := 15) hc dX0_numberOf_34 rfl ?_
          first
          | (rw [if_pos c_25] at h; exact ih _ _ (by omega) (by omega) (by omega) h)
          | (rw [if_neg (by omega)] at h; refine ih _ _ (by omega) (by omega) (by omega) ?_; rw [List.length_cons] at h; rw [show m + 1 + (flF K B n (s + 1)).length = m + ((flF K B n (s + 1)).length + 1) by omega]; exact h)
        · first | refine tt_inc2 (q := 31) hc dX0_numberOf_28 rfl (by decide) (incN _) ?_ | refine tt_inc2 (q := 31) hc dX0_numberOf_28 rfl (by decide) rfl ?_
          first | refine tt_inc3 (q := 34) hc dX0_numberOf_31 rfl (by decide) (incN _) ?_ | refine tt_inc3 (q := 34) hc dX0_numberOf_31 rfl (by decide) rfl ?_
          refine tt_goto (t := 15) hc dX0_numberOf_34 rfl ?_
          first
          | (rw [if_pos c_25] at h; exact ih _ _ (by omega) (by omega) (by omega) h)
          | (rw [if_neg (by omega)] at h; refine ih _ _ (by omega) (by omega) (by omega) ?_; rw [List.length_cons] at h; rw [show m + 1 + (flF K B n (s + 1)).length = m + ((flF K B n (s + 1)).length + 1) by omega]; exact h)
  refine tt_al0 (q := 1) hc dX0_numberOf_0 rfl ?_
  refine tt_il1 (q := 2) hc dX0_numberOf_1 rfl ?_
  refine tt_cV1 (q := 5) (d' := 2) (ci := 0) hc (by decide) kmX0_partner ml_X0_64 (by first | assumption | exact ⟨by decide, _, rfl⟩) rfl (Nat.le_of_ble_eq_true rfl) dX0_numberOf_2 rfl ?_
  refine c_X0_partner hj hR ?_
  dsimp only [Option.toList, List.nil_append, List.cons_append]
  first | (with_reducible refine chkb ?_; refine tt_ifneB (t := 11) (q := 8) hc dX0_numberOf_5 rfl rfl (fun c_5 => ?_) (fun c_5 => ?_)) | (with_reducible refine chk1 ?_; refine tt_ifneN (t := 11) (q := 8) hc (by omega) dX0_numberOf_5 rfl rfl (fun c_5 => ?_) (fun c_5 => ?_)) | refine tt_ifne (t := 11) (q := 8) hc dX0_numberOf_5 rfl rfl (fun c_5 => ?_) (fun c_5 => ?_)
  · refine tt_iconst (v := nI 0) (q := 12) hc rfl dX0_numberOf_11 rfl ?_
    refine tt_is2 (q := 13) hc dX0_numberOf_12 rfl (by decide) ?_
    refine tt_iconst (v := nI 1) (q := 14) hc rfl dX0_numberOf_13 rfl ?_
    refine tt_is3 (q := 15) hc dX0_numberOf_14 rfl (by decide) ?_
    rw [if_neg (by omega)] at hQ
    exact L (a - 1) 1 0 (by omega) (by omega) (by omega) (by rw [Nat.zero_add]; exact hQ)
  · refine tt_bipush (v := -5) (q := 10) hc (by decide) dX0_numberOf_8 rfl ?_
    refine tt_reti hX rfl dX0_numberOf_10 ?_
    rw [if_pos (by omega)] at hQ
    exact hQ
theorem lkp_no {B : Nat → Bool} {s : Nat} : ∀ n p r, s &&& r = 0 → s &&& lkp B s n p r = 0
  | 0, _, r, h => h
  | n + 1, p, r, h => by
    rw [lkp]
    refine lkp_no n (p + 1) _ ?_
    split
    · rename_i q
      rw [Nat.and_or_distrib_left, h, q.1]
      rfl
    · exact h
theorem lkP_no (B : Nat → Bool) (s : Nat) : s &&& lkP B s = 0 := lkp_no 8 0 0 (Nat.and_zero s)
/-- the points that are there, by bodies -/
theorem lkp_bit {B : Nat → Bool} {s q : Nat} : ∀ n p r, (lkp B s n p r).testBit q = (r.testBit q || (decide (p ≤ q) && decide (q < p + n) && decide (s &&& 2 ^ q = 0) && decide (0 < cW B (s ||| 2 ^ q))))
  | 0, p, r => by
    by_cases h : p ≤ q
    · rw [lkp, decide_eq_false (p := q < p + 0) (by omega)]
      simp
    · rw [lkp, decide_eq_false h]
      simp
  | n + 1, p, r => by
    rw [lkp, lkp_bit n (p + 1)]
    by_cases e : q = p
    · subst e
      simp only [show ¬ q + 1 ≤ q by omega, decide_false, Bool.false_and, Bool.or_false, Nat.le_refl, decide_true, Bool.true_and, show q < q + (n + 1) by omega]
      split
      · rename_i h
        simp [h.1, h.2, Nat.testBit_or, Nat.testBit_two_pow_self]
      · rename_i h
        by_cases h1 : s &&& 2 ^ q = 0
        · have h2 : ¬ 0 < cW B (s ||| 2 ^ q) := fun z => h ⟨h1, z⟩
          simp [h2]
        · simp [h1]
    · have e2 : (p + 1 ≤ q) = (p ≤ q) := by apply propext; omega
      have e3 : (q < p + 1 + n) = (q < p + (n + 1)) := by apply propext; omega
      simp only [e2, e3]
      split
      · rw [Nat.testBit_or, Nat.testBit_two_pow_of_ne (by omega), Bool.or_false]
      · rfl
theorem lkP_bit {B : Nat → Bool} {s q : Nat} : (lkP B s).testBit q = (decide (q < 8) && decide (s &&& 2 ^ q = 0) && decide (0 < cW B (s ||| 2 ^ q))) := by
  rw [lkP, lkp_bit]
  simp
