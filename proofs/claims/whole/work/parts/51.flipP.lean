/-! THE MODEL: flips asked, flips done -/
theorem HA87 : HA 87 1 256 := HAt (j := 0) (by decide)
def cntS (B : HP) (n : Nat) (r : List Nat) : Nat := if n = 0 then r.length else flc B n r
theorem cntS_c {B : HP} {n b : Nat} {r : List Nat} : cntS B n (b :: r) = (if n = 0 ∨ cW B b = n then 1 else 0) + cntS B n r := by
  unfold cntS
  by_cases e : n = 0
  · rw [if_pos e, if_pos e, if_pos (Or.inl e), List.length_cons, Nat.add_comm]
  · rw [if_neg e, if_neg e, flc]
    by_cases c : cW B b = n
    · rw [if_pos c, if_pos (Or.inr c)]
    · rw [if_neg c, if_neg (fun z => z.elim e c)]
set_option maxHeartbeats 1000000 in
theorem c_X9_flips {l : Launch} {s : Int32} {S : ST} {μ : Mem} {Q : Option Value → Mem → Prop} (hM : MR μ S) (hQ : ∀ μ', frm mL μ μ' → MR μ' S → Q (some (.int (an_flips s S))) μ') : CC l 4 mX9_flips [.ref 24, .int s] μ Q := by
  refine CC.of (M := mX9_flips) (by decide +kernel) rfl (fun v h => by simp at h; rcases h with rfl | rfl <;> rfl) (Nat.le_of_ble_eq_true rfl) (fun X hX => ?_)
  have hc := hX.cx
  obtain ⟨K, B, hs, ks, im, ls, tx, pp⟩ := S
  obtain ⟨⟨a0, a1, a2⟩, -⟩ := id hM
  have q31 := HQ31
  have a32 := HA32
  have aB := HAg (j := 0) (by decide)
  have hK1 := a0.1
  have hl2 := fl_len K B
  dsimp only [an_flips] at hQ
  have L : ∀ (n : Nat) (ν : Mem), n ≤ K → FL ν 0 K B → Q (some (.int (nI (cntS B n (fl K B))))) ν → ∀ (r dn : List Nat) (m : Nat), dn ++ r = fl K B → m + cntS B n r = cntS B n (fl K B) → m ≤ dn.length → TT X 28 [.ref 24, .int (nI n), .int (nI m), .int (nI dn.length)] [] ν := by
    intro n ν hn hL h r
    induction r with
    | nil =>
      intro dn m hdn hm hmd
      rw [List.append_nil] at hdn
      have hl := congrArg List.length hdn
      have e0 : cntS B n [] = 0 := by
        unfold cntS
        split <;> rfl
      rw [e0, Nat.add_zero] at hm
      refine tt_il3 (q := 29) hc dX9_flips_28 rfl ?_
      refine tt_al0 (q := 30) hc dX9_flips_29 rfl ?_
      refine tt_getR (q := 33) hc fl_X9_45 (by first | assumption | exact ⟨by decide, _, rfl, rfl⟩) dX9_flips_30 rfl ?_
      refine tt_iconst (v := nI 0) (q := 34) hc rfl dX9_flips_33 rfl ?_
      refine tt_iald (q := 35) hc (by first | assumption | exact ⟨by decide, rfl, by decide⟩) (by omega) dX9_flips_34 rfl ?_
      rw [hL.1]
      first | (with_reducible refine chk2 ?_; refine tt_icgeN (t := 66) (q := 38) hc (by omega) (by omega) dX9_flips_35 rfl rfl (fun c_35 => ?_) (fun c_35 => ?_)) | refine tt_icge (t := 66) (q := 38) hc dX9_flips_35 rfl rfl (fun c_35 => ?_) (fun c_35 => ?_)
      · refine tt_il2 (q := 67) hc dX9_flips_66 rfl ?_
        refine tt_reti hX rfl dX9_flips_67 ?_
        rw [hm]
        exact h
      · omega
    | cons b r ih =>
      intro dn m hdn hm hmd
      have hb := app_at hdn
      have hl := congrArg List.length hdn
      rw [List.length_append, List.length_cons] at hl
      have hm2 := fl_mem (List.mem_of_getElem? hb)
      have hp := prt_pop a0 hm2.2.1 hm2.2.2
      have hpl := prt_lt K B b
      have hp8 := pop_le _ hpl
      rw [cntS_c] at hm
      refine tt_il3 (q := 29) hc dX9_flips_28 rfl ?_
      refine tt_al0 (q := 30) hc dX9_flips_29 rfl ?_
      refine tt_getR (q := 33) hc fl_X9_45 (by first | assumption | exact ⟨by decide, _, rfl, rfl⟩) dX9_flips_30 rfl ?_
      refine tt_iconst (v := nI 0) (q := 34) hc rfl dX9_flips_33 rfl ?_
      refine tt_iald (q := 35) hc (by first | assumption | exact ⟨by decide, rfl, by decide⟩) (by omega) dX9_flips_34 rfl ?_
      rw [hL.1]
      first | (with_reducible refine chk2 ?_; refine tt_icgeN (t := 66) (q := 38) hc (by omega) (by omega) dX9_flips_35 rfl rfl (fun c_35 => ?_) (fun c_35 => ?_)) | refine tt_icge (t := 66) (q := 38) hc dX9_flips_35 rfl rfl (fun c_35 => ?_) (fun c_35 => ?_)
      · omega
      · refine tt_il1 (q := 39) hc dX9_flips_38 rfl ?_
        first | (with_reducible refine chkb ?_; refine tt_ifeqB (t := 57) (q := 42) hc dX9_flips_39 rfl rfl (fun c_39 => ?_) (fun c_39 => ?_)) | (with_reducible refine chk1 ?_; refine tt_ifeqN (t := 57) (q := 42) hc (by omega) dX9_flips_39 rfl rfl (fun c_39 => ?_) (fun c_39 => ?_)) | refine tt_ifeq (t := 57) (q := 42) hc dX9_flips_39 rfl rfl (fun c_39 => ?_) (fun c_39 => ?_)
        · first | refine tt_inc2 (q := 60) hc dX9_flips_57 rfl (by decide) (incN _) ?_ | refine tt_inc2 (q := 60) hc dX9_flips_57 rfl (by decide) rfl ?_
          first | refine tt_inc3 (q := 63) hc dX9_flips_60 rfl (by decide) (incN _) ?_ | refine tt_inc3 (q := 63) hc dX9_flips_60 rfl (by decide) rfl ?_
          refine tt_goto (t := 28) hc dX9_flips_63 rfl ?_
          first
          | (rw [if_pos (Or.inl c_39)] at hm
             rw [← snoc_len dn b]
             exact ih (dn ++ [b]) (m + 1) (by rw [snoc_app]; exact hdn) (by omega) (by rw [snoc_len]; omega))
          | (rw [if_pos (Or.inr (by omega))] at hm
             rw [← snoc_len dn b]
             exact ih (dn ++ [b]) (m + 1) (by rw [snoc_app]; exact hdn) (by omega) (by rw [snoc_len]; omega))
          | (rw [if_neg (by omega)] at hm
             rw [← snoc_len dn b]
             exact ih (dn ++ [b]) m (by rw [snoc_app]; exact hdn) (by omega) (by rw [snoc_len]; omega))
        · refine tt_al0 (q := 43) hc dX9_flips_42 rfl ?_
          refine tt_getR (q := 46) hc fl_X9_42 (by first | assumption | exact ⟨by decide, _, rfl, rfl⟩) dX9_flips_43 rfl ?_
          refine tt_iconst (v := nI 0) (q := 47) hc rfl dX9_flips_46 rfl ?_
          refine tt_aald (q := 48) hc (r := _) (by first | assumption | exact ⟨by decide, rfl, by decide⟩) (by decide) (by omega) dX9_flips_47 rfl ?_
          refine tt_il3 (q := 49) hc dX9_flips_48 rfl ?_
          refine tt_iald (q := 50) hc (by first | assumption | exact ⟨by decide, rfl, by decide⟩) (by omega) dX9_flips_49 rfl ?_
          rw [(hL.2 _ _ hb).2]
          refine tt_cS1 (q := 53) (d' := 1) hc (by first | decide | omega) kmX9_many ml_X9_110 (Nat.le_of_ble_eq_true rfl) dX9_flips_50 rfl ?_
          refine c_X9_many ?_
          dsimp only [Option.toList, List.nil_append, List.cons_append]
          refine tt_il1 (q := 54) hc dX9_flips_53 rfl ?_
          first | (with_reducible refine chk2 ?_; refine tt_icneN (t := 60) (q := 57) hc (by omega) (by omega) dX9_flips_54 rfl rfl (fun c_54 => ?_) (fun c_54 => ?_)) | refine tt_icne (t := 60) (q := 57) hc dX9_flips_54 rfl rfl (fun c_54 => ?_) (fun c_54 => ?_)
          · first | refine tt_inc3 (q := 63) hc dX9_flips_60 rfl (by decide) (incN _) ?_ | refine tt_inc3 (q := 63) hc dX9_flips_60 rfl (by decide) rfl ?_
            refine tt_goto (t := 28) hc dX9_flips_63 rfl ?_
            first
            | (rw [if_pos (Or.inl c_39)] at hm
               rw [← snoc_len dn b]
               exact ih (dn ++ [b]) (m + 1) (by rw [snoc_app]; exact hdn) (by omega) (by rw [snoc_len]; omega))
            | (rw [if_pos (Or.inr (by omega))] at hm
               rw [← snoc_len dn b]
               exact ih (dn ++ [b]) (m + 1) (by rw [snoc_app]; exact hdn) (by omega) (by rw [snoc_len]; omega))
            | (rw [if_neg (by omega)] at hm
               rw [← snoc_len dn b]
               exact ih (dn ++ [b]) m (by rw [snoc_app]; exact hdn) (by omega) (by rw [snoc_len]; omega))
          · first | refine tt_inc2 (q := 60) hc dX9_flips_57 rfl (by decide) (incN _) ?_ | refine tt_inc2 (q := 60) hc dX9_flips_57 rfl (by decide) rfl ?_
            first | refine tt_inc3 (q := 63) hc dX9_flips_60 rfl (by decide) (incN _) ?_ | refine tt_inc3 (q := 63) hc dX9_flips_60 rfl (by decide) rfl ?_
            refine tt_goto (t := 28) hc dX9_flips_63 rfl ?_
            first
            | (rw [if_pos (Or.inl c_39)] at hm
               rw [← snoc_len dn b]
               exact ih (dn ++ [b]) (m + 1) (by rw [snoc_app]; exact hdn) (by omega) (by rw [snoc_len]; omega))
            | (rw [if_pos (Or.inr (by omega))] at hm
               rw [← snoc_len dn b]
               exact ih (dn ++ [b]) (m + 1) (by rw [snoc_app]; exact hdn) (by omega) (by rw [snoc_len]; omega))
            | (rw [if_neg (by omega)] at hm
               rw [← snoc_len dn b]
               exact ih (dn ++ [b]) m (by rw [snoc_app]; exact hdn) (by omega) (by rw [snoc_len]; omega))
  refine tt_il1 (q := 1) hc dX9_flips_0 rfl ?_
  refine tt_iconst (v := nI 0) (q := 2) hc rfl dX9_flips_1 rfl ?_
  refine tt_al0 (q := 3) hc dX9_flips_2 rfl ?_
  refine tt_getI (q := 6) hc fl_X9_9 (by first | assumption | exact ⟨by decide, _, rfl, _, rfl⟩) dX9_flips_3 rfl ?_
  rw [a1]
  refine tt_cS3 (q := 9) (d' := 0) hc (by first | decide | omega) kmX9_in ml_X9_91 (Nat.le_of_ble_eq_true rfl) dX9_flips_6 rfl ?_
  refine c_X9_in ?_
  dsimp only [Option.toList, List.nil_append, List.cons_append]
  first | (with_reducible refine chkb ?_; refine tt_ifneB (t := 15) (q := 12) hc dX9_flips_9 rfl rfl (fun c_9 => ?_) (fun c_9 => ?_)) | (with_reducible refine chk1 ?_; refine tt_ifneN (t := 15) (q := 12) hc (by omega) dX9_flips_9 rfl rfl (fun c_9 => ?_) (fun c_9 => ?_)) | refine tt_ifne (t := 15) (q := 12) hc dX9_flips_9 rfl rfl (fun c_9 => ?_) (fun c_9 => ?_)
  · obtain ⟨n, -, hn, rfl⟩ := inB_t (by omega) (by decide) c_9
    rw [if_pos c_9, nI_clamp (by omega)] at hQ
    refine tt_al0 (q := 16) hc dX9_flips_15 rfl ?_
    refine tt_al0 (q := 17) hc dX9_flips_16 rfl ?_
    refine tt_getR (q := 20) hc fl_X9_15 (by first | assumption | exact ⟨by decide, _, rfl, rfl⟩) dX9_flips_17 rfl ?_
    refine tt_iconst (v := nI 0) (q := 21) hc rfl dX9_flips_20 rfl ?_
    refine tt_cV2 (q := 24) (d' := 3) (ci := 9) hc (by first | decide | omega) kmX9_layFlips ml_X9_203 (by first | assumption | exact ⟨by decide, _, rfl⟩) rfl (Nat.le_of_ble_eq_true rfl) dX9_flips_21 rfl ?_
    refine c_X9_layFlips HA77 (by decide) (by decide) a0 a2 a1 (fun ν hf h32 hF hL => ?_)
    dsimp only [Option.toList, List.nil_append, List.cons_append]
    refine tt_iconst (v := nI 0) (q := 25) hc rfl dX9_flips_24 rfl ?_
    refine tt_is2 (q := 26) hc dX9_flips_25 rfl (by decide) ?_
    refine tt_iconst (v := nI 0) (q := 27) hc rfl dX9_flips_26 rfl ?_
    refine tt_is3 (q := 28) hc dX9_flips_27 rfl (by decide) ?_
    refine L n ν hn hL ?_ (fl K B) [] 0 (List.nil_append _) (by rw [Nat.zero_add]) (Nat.le_refl _)
    have h := hQ ν (hf.ml (by decide)) (hM.wk hf (by decide))
    unfold cntS
    by_cases e : n = 0
    · rw [if_pos (by rw [e])] at h
      rw [if_pos e]
      exact h
    · rw [if_neg (fun z => e ((nI_eq (by omega) (by decide)).mp z))] at h
      rw [if_neg e]
      exact h
  · refine tt_bipush (v := -2) (q := 14) hc (by decide) dX9_flips_12 rfl ?_
    refine tt_reti hX rfl dX9_flips_14 ?_
    rw [if_neg (by rw [c_9]; exact Bool.false_ne_true)] at hQ
    exact hQ μ frm.rf hM
set_option maxHeartbeats 1000000 in
theorem c_X9_flipOf {l : Launch} {i w : Int32} {S : ST} {μ : Mem} {Q : Option Value → Mem → Prop} (hM : MR μ S) (hQ : ∀ μ', frm mL μ μ' → MR μ' S → Q (some (.int (an_flipOf i w S))) μ') : CC l 4 mX9_flipOf [.ref 24, .int i, .int w] μ Q := by
  refine CC.of (M := mX9_flipOf) (by decide +kernel) rfl (fun v h => by simp at h; rcases h with rfl | rfl | rfl <;> rfl) (Nat.le_of_ble_eq_true rfl) (fun X hX => ?_)
  have hc := hX.cx
  obtain ⟨K, B, hs, ks, im, ls, tx, pp⟩ := S
  obtain ⟨⟨a0, a1, a2⟩, -⟩ := id hM
  have q30 := HQ30
  have q31 := HQ31
  have a32 := HA32
  have aA := HAf (j := 0) (by decide)
  have aB := HAg (j := 0) (by decide)
  have hl2 := fl_len K B
  dsimp only [an_flipOf] at hQ
  rcases lx_iff (l := fl K B) (v := i) (by omega) with ⟨k, a, hv, hk, hg, hlx, hin⟩ | ⟨hlx, hin⟩
  · rw [hlx] at hQ
    dsimp only at hQ
    subst hv
    have hm := fl_mem (List.mem_of_getElem? hg)
    have hp := prt_pop a0 hm.2.1 hm.2.2
    have hpl := prt_lt K B a
    have hp8 := pop_le _ hpl
    refine tt_al0 (q := 1) hc dX9_flipOf_0 rfl ?_
    refine tt_al0 (q := 2) hc dX9_flipOf_1 rfl ?_
    refine tt_getR (q := 5) hc fl_X9_15 (by first | assumption | exact ⟨by decide, _, rfl, rfl⟩) dX9_flipOf_2 rfl ?_
    refine tt_iconst (v := nI 0) (q := 6) hc rfl dX9_flipOf_5 rfl ?_
    refine tt_cV2 (q := 9) (d' := 3) (ci := 9) hc (by first | decide | omega) kmX9_layFlips ml_X9_203 (by first | assumption | exact ⟨by decide, _, rfl⟩) rfl (Nat.le_of_ble_eq_true rfl) dX9_flipOf_6 rfl ?_
    refine c_X9_layFlips HA77 (by decide) (by decide) a0 a2 a1 (fun ν hf h32 hF hL => ?_)
    have h := hQ ν (hf.ml (by decide)) (hM.wk hf (by decide))
    dsimp only [Option.toList, List.nil_append, List.cons_append]
    refine tt_il1 (q := 10) hc dX9_flipOf_9 rfl ?_
    refine tt_iconst (v := nI 0) (q := 11) hc rfl dX9_flipOf_10 rfl ?_
    refine tt_al0 (q := 12) hc dX9_flipOf_11 rfl ?_
    refine tt_getR (q := 15) hc fl_X9_45 (by first | assumption | exact ⟨by decide, _, rfl, rfl⟩) dX9_flipOf_12 rfl ?_
    refine tt_iconst (v := nI 0) (q := 16) hc rfl dX9_flipOf_15 rfl ?_
    refine tt_iald (q := 17) hc (by first | assumption | exact ⟨by decide, rfl, by decide⟩) (by omega) dX9_flipOf_16 rfl ?_
    rw [hL.1]
    refine tt_iconst (v := nI 1) (q := 18) hc rfl dX9_flipOf_17 rfl ?_
    refine tt_isub (q := 19) hc dX9_flipOf_18 rfl ?_
    refine tt_cS3 (q := 22) (d' := 0) hc (by first | decide | omega) kmX9_in ml_X9_91 (Nat.le_of_ble_eq_true rfl) dX9_flipOf_19 rfl ?_
    refine c_X9_in ?_
    rw [hin]
    dsimp only [Option.toList, List.nil_append, List.cons_append]
    first | (with_reducible refine chkb ?_; refine tt_ifeqB (t := 34) (q := 25) hc dX9_flipOf_22 rfl rfl (fun c_22 => ?_) (fun c_22 => ?_)) | (with_reducible refine chk1 ?_; refine tt_ifeqN (t := 34) (q := 25) hc (by omega) dX9_flipOf_22 rfl rfl (fun c_22 => ?_) (fun c_22 => ?_)) | refine tt_ifeq (t := 34) (q := 25) hc dX9_flipOf_22 rfl rfl (fun c_22 => ?_) (fun c_22 => ?_)
    · exact absurd c_22 (by decide)
    · refine tt_il2 (q := 26) hc dX9_flipOf_25 rfl ?_
      refine tt_iconst (v := nI 0) (q := 27) hc rfl dX9_flipOf_26 rfl ?_
      refine tt_iconst (v := nI 2) (q := 28) hc rfl dX9_flipOf_27 rfl ?_
      refine tt_cS3 (q := 31) (d' := 0) hc (by first | decide | omega) kmX9_in ml_X9_91 (Nat.le_of_ble_eq_true rfl) dX9_flipOf_28 rfl ?_
      refine c_X9_in ?_
      dsimp only [Option.toList, List.nil_append, List.cons_append]
      first | (with_reducible refine chkb ?_; refine tt_ifneB (t := 36) (q := 34) hc dX9_flipOf_31 rfl rfl (fun c_31 => ?_) (fun c_31 => ?_)) | (with_reducible refine chk1 ?_; refine tt_ifneN (t := 36) (q := 34) hc (by omega) dX9_flipOf_31 rfl rfl (fun c_31 => ?_) (fun c_31 => ?_)) | refine tt_ifne (t := 36) (q := 34) hc dX9_flipOf_31 rfl rfl (fun c_31 => ?_) (fun c_31 => ?_)
      · obtain ⟨j, -, hj, rfl⟩ := inB_t (by decide) (by decide) c_31
        refine tt_il2 (q := 37) hc dX9_flipOf_36 rfl ?_
        first | (with_reducible refine chkb ?_; refine tt_ifneB (t := 51) (q := 40) hc dX9_flipOf_37 rfl rfl (fun c_37 => ?_) (fun c_37 => ?_)) | (with_reducible refine chk1 ?_; refine tt_ifneN (t := 51) (q := 40) hc (by omega) dX9_flipOf_37 rfl rfl (fun c_37 => ?_) (fun c_37 => ?_)) | refine tt_ifne (t := 51) (q := 40) hc dX9_flipOf_37 rfl rfl (fun c_37 => ?_) (fun c_37 => ?_)
        · refine tt_il2 (q := 52) hc dX9_flipOf_51 rfl ?_
          refine tt_iconst (v := nI 1) (q := 53) hc rfl dX9_flipOf_52 rfl ?_
          first | (with_reducible refine chk2 ?_; refine tt_icneN (t := 67) (q := 56) hc (by omega) (by omega) dX9_flipOf_53 rfl rfl (fun c_53 => ?_) (fun c_53 => ?_)) | refine tt_icne (t := 67) (q := 56) hc dX9_flipOf_53 rfl rfl (fun c_53 => ?_) (fun c_53 => ?_)
          · refine tt_al0 (q := 68) hc dX9_flipOf_67 rfl ?_
            refine tt_getR (q := 71) hc fl_X9_42 (by first | assumption | exact ⟨by decide, _, rfl, rfl⟩) dX9_flipOf_68 rfl ?_
            refine tt_iconst (v := nI 0) (q := 72) hc rfl dX9_flipOf_71 rfl ?_
            refine tt_aald (q := 73) hc (r := _) (by first | assumption | exact ⟨by decide, rfl, by decide⟩) (by decide) (by omega) dX9_flipOf_72 rfl ?_
            refine tt_il1 (q := 74) hc dX9_flipOf_73 rfl ?_
            refine tt_iald (q := 75) hc (by first | assumption | exact ⟨by decide, rfl, by decide⟩) (by omega) dX9_flipOf_74 rfl ?_
            rw [(hL.2 _ _ hg).2]
            refine tt_cS1 (q := 78) (d' := 1) hc (by first | decide | omega) kmX9_many ml_X9_110 (Nat.le_of_ble_eq_true rfl) dX9_flipOf_75 rfl ?_
            refine c_X9_many ?_
            dsimp only [Option.toList, List.nil_append, List.cons_append]
            refine tt_reti hX rfl dX9_flipOf_78 ?_
            first
            | (rw [if_pos (by rw [c_37])] at h; exact h)
            | (rw [if_neg (show ¬ nI j = nI 0 from nI_ne0 c_37 (by omega)), if_pos (by rw [c_53])] at h; exact h)
            | (rw [if_neg (show ¬ nI j = nI 0 from nI_ne0 c_37 (by omega)), if_neg (fun z => c_53 ((nI_eq (by omega) (by decide)).mp z)), if_pos (by rw [show j = 2 by omega])] at h
               rw [hp.2.2.2.1]
               exact h)
          · refine tt_al0 (q := 57) hc dX9_flipOf_56 rfl ?_
            refine tt_getR (q := 60) hc fl_X9_42 (by first | assumption | exact ⟨by decide, _, rfl, rfl⟩) dX9_flipOf_57 rfl ?_
            refine tt_iconst (v := nI 0) (q := 61) hc rfl dX9_flipOf_60 rfl ?_
            refine tt_aald (q := 62) hc (r := _) (by first | assumption | exact ⟨by decide, rfl, by decide⟩) (by decide) (by omega) dX9_flipOf_61 rfl ?_
            refine tt_il1 (q := 63) hc dX9_flipOf_62 rfl ?_
            refine tt_iald (q := 64) hc (by first | assumption | exact ⟨by decide, rfl, by decide⟩) (by omega) dX9_flipOf_63 rfl ?_
            rw [(hL.2 _ _ hg).2]
            refine tt_goto (t := 78) hc dX9_flipOf_64 rfl ?_
            refine tt_reti hX rfl dX9_flipOf_78 ?_
            first
            | (rw [if_pos (by rw [c_37])] at h; exact h)
            | (rw [if_neg (show ¬ nI j = nI 0 from nI_ne0 c_37 (by omega)), if_pos (by rw [c_53])] at h; exact h)
            | (rw [if_neg (show ¬ nI j = nI 0 from nI_ne0 c_37 (by omega)), if_neg (fun z => c_53 ((nI_eq (by omega) (by decide)).mp z)), if_pos (by rw [show j = 2 by omega])] at h
               rw [hp.2.2.2.1]
               exact h)
        · refine tt_al0 (q := 41) hc dX9_flipOf_40 rfl ?_
          refine tt_getR (q := 44) hc fl_X9_39 (by first | assumption | exact ⟨by decide, _, rfl, rfl⟩) dX9_flipOf_41 rfl ?_
          refine tt_iconst (v := nI 0) (q := 45) hc rfl dX9_flipOf_44 rfl ?_
          refine tt_aald (q := 46) hc (r := _) (by first | assumption | exact ⟨by decide, rfl, by decide⟩) (by decide) (by omega) dX9_flipOf_45 rfl ?_
          refine tt_il1 (q := 47) hc dX9_flipOf_46 rfl ?_
          refine tt_iald (q := 48) hc (by first | assumption | exact ⟨by decide, rfl, by decide⟩) (by omega) dX9_flipOf_47 rfl ?_
          rw [(hL.2 _ _ hg).1]
          refine tt_goto (t := 78) hc dX9_flipOf_48 rfl ?_
          refine tt_reti hX rfl dX9_flipOf_78 ?_
          first
          | (rw [if_pos (by rw [c_37])] at h; exact h)
          | (rw [if_neg (show ¬ nI j = nI 0 from nI_ne0 c_37 (by omega)), if_pos (by rw [c_53])] at h; exact h)
          | (rw [if_neg (show ¬ nI j = nI 0 from nI_ne0 c_37 (by omega)), if_neg (fun z => c_53 ((nI_eq (by omega) (by decide)).mp z)), if_pos (by rw [show j = 2 by omega])] at h
             rw [hp.2.2.2.1]
             exact h)
      · refine tt_iconst (v := -1) (q := 35) hc rfl dX9_flipOf_34 rfl ?_
        refine tt_reti hX rfl dX9_flipOf_35 ?_
        rw [if_neg (fun z => Bool.false_ne_true (c_31.symm.trans (by rw [z]; decide))), if_neg (fun z => Bool.false_ne_true (c_31.symm.trans (by rw [z]; decide))), if_neg (fun z => Bool.false_ne_true (c_31.symm.trans (by rw [z]; decide)))] at h
        exact h
  · rw [hlx] at hQ
    refine tt_al0 (q := 1) hc dX9_flipOf_0 rfl ?_
    refine tt_al0 (q := 2) hc dX9_flipOf_1 rfl ?_
    refine tt_getR (q := 5) hc fl_X9_15 (by first | assumption | exact ⟨by decide, _, rfl, rfl⟩) dX9_flipOf_2 rfl ?_
    refine tt_iconst (v := nI 0) (q := 6) hc rfl dX9_flipOf_5 rfl ?_
    refine tt_cV2 (q := 9) (d' := 3) (ci := 9) hc (by first | decide | omega) kmX9_layFlips ml_X9_203 (by first | assumption | exact ⟨by decide, _, rfl⟩) rfl (Nat.le_of_ble_eq_true rfl) dX9_flipOf_6 rfl ?_
    refine c_X9_layFlips HA77 (by decide) (by decide) a0 a2 a1 (fun ν hf h32 hF hL => ?_)
    dsimp only [Option.toList, List.nil_append, List.cons_append]
    refine tt_il1 (q := 10) hc dX9_flipOf_9 rfl ?_
    refine tt_iconst (v := nI 0) (q := 11) hc rfl dX9_flipOf_10 rfl ?_
    refine tt_al0 (q := 12) hc dX9_flipOf_11 rfl ?_
    refine tt_getR (q := 15) hc fl_X9_45 (by first | assumption | exact ⟨by decide, _, rfl, rfl⟩) dX9_flipOf_12 rfl ?_
    refine tt_iconst (v := nI 0) (q := 16) hc rfl dX9_flipOf_15 rfl ?_
    refine tt_iald (q := 17) hc (by first | assumption | exact ⟨by decide, rfl, by decide⟩) (by omega) dX9_flipOf_16 rfl ?_
    rw [hL.1]
    refine tt_iconst (v := nI 1) (q := 18) hc rfl dX9_flipOf_17 rfl ?_
    refine tt_isub (q := 19) hc dX9_flipOf_18 rfl ?_
    refine tt_cS3 (q := 22) (d' := 0) hc (by first | decide | omega) kmX9_in ml_X9_91 (Nat.le_of_ble_eq_true rfl) dX9_flipOf_19 rfl ?_
    refine c_X9_in ?_
    rw [hin]
    dsimp only [Option.toList, List.nil_append, List.cons_append]
    first | (with_reducible refine chkb ?_; refine tt_ifeqB (t := 34) (q := 25) hc dX9_flipOf_22 rfl rfl (fun c_22 => ?_) (fun c_22 => ?_)) | (with_reducible refine chk1 ?_; refine tt_ifeqN (t := 34) (q := 25) hc (by omega) dX9_flipOf_22 rfl rfl (fun c_22 => ?_) (fun c_22 => ?_)) | refine tt_ifeq (t := 34) (q := 25) hc dX9_flipOf_22 rfl rfl (fun c_22 => ?_) (fun c_22 => ?_)
    · refine tt_iconst (v := -1) (q := 35) hc rfl dX9_flipOf_34 rfl ?_
      refine tt_reti hX rfl dX9_flipOf_35 ?_
      exact hQ ν (hf.ml (by decide)) (hM.wk hf (by decide))
    · exact absurd c_22 (by decide)
set_option maxHeartbeats 4000000 in
theorem c_X9_number {l : Launch} {a : Int32} {S : ST} {μ : Mem} {Q : Option Value → Mem → Prop} (hM : MR μ S) (hQ : ∀ μ', frm mL μ μ' → MR μ' S → Q (some (.int (an_number a S))) μ') : CC l 4 mX9_number [.ref 24, .int a] μ Q := by
  refine CC.of (M := mX9_number) (by decide +kernel) rfl (fun v h => by simp at h; rcases h with rfl | rfl <;> rfl) (Nat.le_of_ble_eq_true rfl) (fun X hX => ?_)
  have hc := hX.cx
  obtain ⟨K, B, hs, ks, im, ls, tx, pp⟩ := S
  obtain ⟨⟨a0, a1, a2⟩, -⟩ := id hM
  have a77 := HA77
  dsimp only [an_number] at hQ
  refine tt_il1 (q := 1) hc dX9_number_0 rfl ?_
  refine tt_cS1 (q := 4) (d' := 1) hc (by first | decide | omega) kmX9_isSet ml_X9_144 (Nat.le_of_ble_eq_true rfl) dX9_number_1 rfl ?_
  refine c_X9_isSet ?_
  dsimp only [Option.toList, List.nil_append, List.cons_append]
  first | (with_reducible refine chkb ?_; refine tt_ifneB (t := 9) (q := 7) hc dX9_number_4 rfl rfl (fun c_4 => ?_) (fun c_4 => ?_)) | (with_reducible refine chk1 ?_; refine tt_ifneN (t := 9) (q := 7) hc (by omega) dX9_number_4 rfl rfl (fun c_4 => ?_) (fun c_4 => ?_)) | refine tt_ifne (t := 9) (q := 7) hc dX9_number_4 rfl rfl (fun c_4 => ?_) (fun c_4 => ?_)
  · obtain ⟨n, hn1, hn5, rfl⟩ := inB_t (by decide) (by decide) c_4
    rw [if_pos c_4, nI_clamp (by omega)] at hQ
    refine tt_al0 (q := 10) hc dX9_number_9 rfl ?_
    refine tt_al0 (q := 11) hc dX9_number_10 rfl ?_
    refine tt_getR (q := 14) hc fl_X9_15 (by first | assumption | exact ⟨by decide, _, rfl, rfl⟩) dX9_number_11 rfl ?_
    refine tt_iconst (v := nI 0) (q := 15) hc rfl dX9_number_14 rfl ?_
    refine tt_cV2 (q := 18) (d' := 3) (ci := 9) hc (by first | decide | omega) kmX9_layFlips ml_X9_203 (by first | assumption | exact ⟨by decide, _, rfl⟩) rfl (Nat.le_of_ble_eq_true rfl) dX9_number_15 rfl ?_
    refine c_X9_layFlips HA77 (by decide) (by decide) a0 a2 a1 (fun ν hf h32 hF hL => ?_)
    dsimp only [Option.toList, List.nil_append, List.cons_append]
    refine tt_al0 (q := 19) hc dX9_number_18 rfl ?_
    refine tt_il1 (q := 20) hc dX9_number_19 rfl ?_
    refine tt_iconst (v := nI 0) (q := 21) hc rfl dX9_number_20 rfl ?_
    refine tt_cV2 (q := 24) (d' := 0) (ci := 9) hc (by first | decide | omega) kmX9_find ml_X9_207 (by first | assumption | exact ⟨by decide, _, rfl⟩) rfl (Nat.le_of_ble_eq_true rfl) dX9_number_21 rfl ?_
    refine c_X9_find (by decide) hL (by omega) (by omega) ?_
    dsimp only [Option.toList, List.nil_append, List.cons_append]
    refine tt_reti hX rfl dX9_number_24 ?_
    exact hQ ν (hf.ml (by decide)) (hM.wk hf (by decide))
  · refine tt_iconst (v := -1) (q := 8) hc rfl dX9_number_7 rfl ?_
    refine tt_reti hX rfl dX9_number_8 ?_
    rw [if_neg (by rw [c_4]; exact Bool.false_ne_true)] at hQ
    exact hQ μ frm.rf hM
theorem mf.fl {ν ν1 : Mem} {l p : List Nat} {d K : Nat} {B : HP} (hL : FL ν d K B) (hf : mg l p ν ν1) (h32 : 32 ∉ l) (hA : 100 + d ∉ l) (hB : 104 + d ∉ l) (hd : d < 4) : FL ν1 d K B := by
  unfold FL
  rw [hf.1 32 h32 (by decide), hf.1 (100 + d) hA (by omega), hf.1 (104 + d) hB (by omega)]
  exact hL
set_option maxHeartbeats 1000000 in
theorem c_X9_flip {l : Launch} {i : Int32} {S : ST} {μ : Mem} {Q : Option Value → Mem → Prop} (hM : MR μ S) (hQ : ∀ μ', frm mL μ μ' → MR μ' (sp_flip i S).2 → Q (some (.int (sp_flip i S).1)) μ') : CC l 4 mX9_flip [.ref 24, .int i] μ Q := by
  refine CC.of (M := mX9_flip) (by decide +kernel) rfl (fun v h => by simp at h; rcases h with rfl | rfl <;> rfl) (Nat.le_of_ble_eq_true rfl) (fun X hX => ?_)
  have hc := hX.cx
  obtain ⟨K, B, hs, ks, im, ls, tx, pp⟩ := S
  obtain ⟨⟨a0, a1, a2⟩, a3, -⟩ := id hM
  have a77 := HA77
  have q30 := HQ30
  have q31 := HQ31
  have a32 := HA32
  have aA := HAf (j := 0) (by decide)
  have aB := HAg (j := 0) (by decide)
  have hl2 := fl_len K B
  dsimp only [sp_flip] at hQ
  rcases lx_iff (l := fl K B) (v := i) (by omega) with ⟨k, a, hv, hk, hg, hlx, hin⟩ | ⟨hlx, hin⟩
  · rw [hlx] at hQ
    dsimp only at hQ
    subst hv
    have hm := fl_mem (List.mem_of_getElem? hg)
    have hK := flp_ok a0 hm.2.1
    refine tt_al0 (q := 1) hc dX9_flip_0 rfl ?_
    refine tt_al0 (q := 2) hc dX9_flip_1 rfl ?_
    refine tt_getR (q := 5) hc fl_X9_15 (by first | assumption | exact ⟨by decide, _, rfl, rfl⟩) dX9_flip_2 rfl ?_
    refine tt_iconst (v := nI 0) (q := 6) hc rfl dX9_flip_5 rfl ?_
    refine tt_cV2 (q := 9) (d' := 3) (ci := 9) hc (by first | decide | omega) kmX9_layFlips ml_X9_203 (by first | assumption | exact ⟨by decide, _, rfl⟩) rfl (Nat.le_of_ble_eq_true rfl) dX9_flip_6 rfl ?_
    refine c_X9_layFlips HA77 (by decide) (by decide) a0 a2 a1 (fun ν hf h32 hF hL => ?_)
    have hM1 := hM.wk hf (by decide)
    have b2 := hM1.1.2.2
    dsimp only [Option.toList, List.nil_append, List.cons_append]
    refine tt_il1 (q := 10) hc dX9_flip_9 rfl ?_
    refine tt_iconst (v := nI 0) (q := 11) hc rfl dX9_flip_10 rfl ?_
    refine tt_al0 (q := 12) hc dX9_flip_11 rfl ?_
    refine tt_getR (q := 15) hc fl_X9_45 (by first | assumption | exact ⟨by decide, _, rfl, rfl⟩) dX9_flip_12 rfl ?_
    refine tt_iconst (v := nI 0) (q := 16) hc rfl dX9_flip_15 rfl ?_
    refine tt_iald (q := 17) hc (by first | assumption | exact ⟨by decide, rfl, by decide⟩) (by omega) dX9_flip_16 rfl ?_
    rw [hL.1]
    refine tt_iconst (v := nI 1) (q := 18) hc rfl dX9_flip_17 rfl ?_
    refine tt_isub (q := 19) hc dX9_flip_18 rfl ?_
    refine tt_cS3 (q := 22) (d' := 0) hc (by first | decide | omega) kmX9_in ml_X9_91 (Nat.le_of_ble_eq_true rfl) dX9_flip_19 rfl ?_
    refine c_X9_in ?_
    rw [hin]
    dsimp only [Option.toList, List.nil_append, List.cons_append]
    first | (with_reducible refine chkb ?_; refine tt_ifneB (t := 27) (q := 25) hc dX9_flip_22 rfl rfl (fun c_22 => ?_) (fun c_22 => ?_)) | (with_reducible refine chk1 ?_; refine tt_ifneN (t := 27) (q := 25) hc (by omega) dX9_flip_22 rfl rfl (fun c_22 => ?_) (fun c_22 => ?_)) | refine tt_ifne (t := 27) (q := 25) hc dX9_flip_22 rfl rfl (fun c_22 => ?_) (fun c_22 => ?_)
    · refine tt_al0 (q := 28) hc dX9_flip_27 rfl ?_
      refine tt_cV0 (q := 31) (d' := 2) (ci := 9) hc (by first | decide | omega) kmX9_remembers ml_X9_130 (by first | assumption | exact ⟨by decide, _, rfl⟩) rfl (Nat.le_of_ble_eq_true rfl) dX9_flip_28 rfl ?_
      refine c_X9_remembers a0 b2 hM1.2.1 (fun ν1 hf1 hP => ?_)
      have hL1 := mf.fl hL hf1 (by decide) (by decide) (by decide) (by decide)
      have hB1 := b2.mg hf1 (by decide) (by decide)
      dsimp only [Option.toList, List.nil_append, List.cons_append]
      refine tt_al0 (q := 32) hc dX9_flip_31 rfl ?_
      refine tt_al0 (q := 33) hc dX9_flip_32 rfl ?_
      refine tt_getR (q := 36) hc fl_X9_15 (by first | assumption | exact ⟨by decide, _, rfl, rfl⟩) dX9_flip_33 rfl ?_
      refine tt_al0 (q := 37) hc dX9_flip_36 rfl ?_
      refine tt_getR (q := 40) hc fl_X9_39 (by first | assumption | exact ⟨by decide, _, rfl, rfl⟩) dX9_flip_37 rfl ?_
      refine tt_iconst (v := nI 0) (q := 41) hc rfl dX9_flip_40 rfl ?_
      refine tt_aald (q := 42) hc (r := _) (by first | assumption | exact ⟨by decide, rfl, by decide⟩) (by decide) (by omega) dX9_flip_41 rfl ?_
      refine tt_il1 (q := 43) hc dX9_flip_42 rfl ?_
      refine tt_iald (q := 44) hc (by first | assumption | exact ⟨by decide, rfl, by decide⟩) (by omega) dX9_flip_43 rfl ?_
      rw [(hL1.2 _ _ hg).1]
      refine tt_al0 (q := 45) hc dX9_flip_44 rfl ?_
      refine tt_getR (q := 48) hc fl_X9_42 (by first | assumption | exact ⟨by decide, _, rfl, rfl⟩) dX9_flip_45 rfl ?_
      refine tt_iconst (v := nI 0) (q := 49) hc rfl dX9_flip_48 rfl ?_
      refine tt_aald (q := 50) hc (r := _) (by first | assumption | exact ⟨by decide, rfl, by decide⟩) (by decide) (by omega) dX9_flip_49 rfl ?_
      refine tt_il1 (q := 51) hc dX9_flip_50 rfl ?_
      refine tt_iald (q := 52) hc (by first | assumption | exact ⟨by decide, rfl, by decide⟩) (by omega) dX9_flip_51 rfl ?_
      rw [(hL1.2 _ _ hg).2]
      refine tt_cV3 (q := 55) (d' := 0) (ci := 9) hc (by first | decide | omega) kmX9_does ml_X9_210 (by first | assumption | exact ⟨by decide, _, rfl⟩) rfl (Nat.le_of_ble_eq_true rfl) dX9_flip_52 rfl ?_
      refine c_X9_does HA77 a0 hB1 hm.2.1 rfl hm.2.2 (fun ν2 hf2 hB2 => ?_)
      have hm2 : mg (77 :: stL) [6] ν ν2 := (hf1.mono (fun i hi => List.mem_cons_of_mem _ hi) (fun i hi => hi)).tr ((mg.fr hf2 (by decide)).mono (fun i hi => by rw [List.mem_singleton.mp hi]; exact List.mem_cons_self) (fun i hi => hi))
      dsimp only [Option.toList, List.nil_append, List.cons_append]
      refine tt_al0 (q := 56) hc dX9_flip_55 rfl ?_
      refine tt_getR (q := 59) hc fl_X9_15 (by first | assumption | exact ⟨by decide, _, rfl, rfl⟩) dX9_flip_56 rfl ?_
      refine tt_cS1 (q := 62) (d' := 0) hc (by first | decide | omega) kmX9_bodiesOf ml_X9_140 (Nat.le_of_ble_eq_true rfl) dX9_flip_59 rfl ?_
      refine c_X9_bodiesOf a77 hK hB2 ?_
      dsimp only [Option.toList, List.nil_append, List.cons_append]
      refine tt_reti hX rfl dX9_flip_62 ?_
      exact hQ ν2 ((hf.ml (by decide)).tr (hm2.ml (by decide))) (hM1.step hm2 (hP.mg (mg.fr (p := [4]) hf2 (by decide)) (by decide) (by decide)) hK hB2)
    · exact absurd c_22 (by decide)
  · rw [hlx] at hQ
    refine tt_al0 (q := 1) hc dX9_flip_0 rfl ?_
    refine tt_al0 (q := 2) hc dX9_flip_1 rfl ?_
    refine tt_getR (q := 5) hc fl_X9_15 (by first | assumption | exact ⟨by decide, _, rfl, rfl⟩) dX9_flip_2 rfl ?_
    refine tt_iconst (v := nI 0) (q := 6) hc rfl dX9_flip_5 rfl ?_
    refine tt_cV2 (q := 9) (d' := 3) (ci := 9) hc (by first | decide | omega) kmX9_layFlips ml_X9_203 (by first | assumption | exact ⟨by decide, _, rfl⟩) rfl (Nat.le_of_ble_eq_true rfl) dX9_flip_6 rfl ?_
    refine c_X9_layFlips HA77 (by decide) (by decide) a0 a2 a1 (fun ν hf h32 hF hL => ?_)
    dsimp only [Option.toList, List.nil_append, List.cons_append]
    refine tt_il1 (q := 10) hc dX9_flip_9 rfl ?_
    refine tt_iconst (v := nI 0) (q := 11) hc rfl dX9_flip_10 rfl ?_
    refine tt_al0 (q := 12) hc dX9_flip_11 rfl ?_
    refine tt_getR (q := 15) hc fl_X9_45 (by first | assumption | exact ⟨by decide, _, rfl, rfl⟩) dX9_flip_12 rfl ?_
    refine tt_iconst (v := nI 0) (q := 16) hc rfl dX9_flip_15 rfl ?_
    refine tt_iald (q := 17) hc (by first | assumption | exact ⟨by decide, rfl, by decide⟩) (by omega) dX9_flip_16 rfl ?_
    rw [hL.1]
    refine tt_iconst (v := nI 1) (q := 18) hc rfl dX9_flip_17 rfl ?_
    refine tt_isub (q := 19) hc dX9_flip_18 rfl ?_
    refine tt_cS3 (q := 22) (d' := 0) hc (by first | decide | omega) kmX9_in ml_X9_91 (Nat.le_of_ble_eq_true rfl) dX9_flip_19 rfl ?_
    refine c_X9_in ?_
    rw [hin]
    dsimp only [Option.toList, List.nil_append, List.cons_append]
    first | (with_reducible refine chkb ?_; refine tt_ifneB (t := 27) (q := 25) hc dX9_flip_22 rfl rfl (fun c_22 => ?_) (fun c_22 => ?_)) | (with_reducible refine chk1 ?_; refine tt_ifneN (t := 27) (q := 25) hc (by omega) dX9_flip_22 rfl rfl (fun c_22 => ?_) (fun c_22 => ?_)) | refine tt_ifne (t := 27) (q := 25) hc dX9_flip_22 rfl rfl (fun c_22 => ?_) (fun c_22 => ?_)
    · exact absurd c_22 (by decide)
    · refine tt_iconst (v := -1) (q := 26) hc rfl dX9_flip_25 rfl ?_
      refine tt_reti hX rfl dX9_flip_26 ?_
      exact hQ ν (hf.ml (by decide)) (hM.wk hf (by decide))
theorem onI_nneg {n : Nat} (h : n < 2 ^ 31) : ¬ onI (some n) < 0 := nI_pos h
set_option maxHeartbeats 1000000 in
theorem c_X9_other {l : Launch} {a : Int32} {S : ST} {μ : Mem} {Q : Option Value → Mem → Prop} (hM : MR μ S) (hQ : ∀ μ', frm mL μ μ' → MR μ' S → Q (some (.int (an_other a S))) μ') : CC l 4 mX9_other [.ref 24, .int a] μ Q := by
  refine CC.of (M := mX9_other) (by decide +kernel) rfl (fun v h => by simp at h; rcases h with rfl | rfl <;> rfl) (Nat.le_of_ble_eq_true rfl) (fun X hX => ?_)
  have hc := hX.cx
  obtain ⟨K, B, hs, ks, im, ls, tx, pp⟩ := S
  obtain ⟨⟨a0, a1, a2⟩, -⟩ := id hM
  have a77 := HA77
  have a87 := HA87
  have q30 := HQ30
  have q31 := HQ31
  have q33 := HQ33
  have a32 := HA32
  have aA := HAf (j := 0) (by decide)
  have aB := HAg (j := 0) (by decide)
  dsimp only [an_other] at hQ
  have F : ∀ (n : Nat), 0 < n → n < 256 → inB (nI n) (nI 1) (nI 255) = true → a = nI n → TT X 9 [.ref 24, .int (nI n), .long 0, .long 0, .long 0] [] μ := by
    intro n h0 hn hin hv
    subst hv
    rw [if_pos hin, nI_clamp (by omega)] at hQ
    by_cases c : prt K B n = 0
    · have e1 : num K B n = none := if_pos c
      rw [if_pos c] at hQ
      refine tt_al0 (q := 10) hc dX9_other_9 rfl ?_
      refine tt_al0 (q := 11) hc dX9_other_10 rfl ?_
      refine tt_getR (q := 14) hc fl_X9_15 (by first | assumption | exact ⟨by decide, _, rfl, rfl⟩) dX9_other_11 rfl ?_
      refine tt_iconst (v := nI 0) (q := 15) hc rfl dX9_other_14 rfl ?_
      refine tt_cV2 (q := 18) (d' := 3) (ci := 9) hc (by first | decide | omega) kmX9_layFlips ml_X9_203 (by first | assumption | exact ⟨by decide, _, rfl⟩) rfl (Nat.le_of_ble_eq_true rfl) dX9_other_15 rfl ?_
      refine c_X9_layFlips HA77 (by decide) (by decide) a0 a2 a1 (fun ν hf h32 hF hL => ?_)
      dsimp only [Option.toList, List.nil_append, List.cons_append]
      refine tt_al0 (q := 19) hc dX9_other_18 rfl ?_
      refine tt_il1 (q := 20) hc dX9_other_19 rfl ?_
      refine tt_iconst (v := nI 0) (q := 21) hc rfl dX9_other_20 rfl ?_
      refine tt_cV2 (q := 24) (d' := 0) (ci := 9) hc (by first | decide | omega) kmX9_find ml_X9_207 (by first | assumption | exact ⟨by decide, _, rfl⟩) rfl (Nat.le_of_ble_eq_true rfl) dX9_other_21 rfl ?_
      refine c_X9_find (by decide) hL h0 hn ?_
      rw [e1]
      dsimp only [Option.toList, List.nil_append, List.cons_append]
      refine tt_is2 (q := 25) hc dX9_other_24 rfl (by decide) ?_
      refine tt_il2 (q := 26) hc dX9_other_25 rfl ?_
      refine tt_ifge (t := 32) (q := 29) hc dX9_other_26 rfl rfl (fun c_26 => ?_) (fun c_26 => ?_)
      · exact absurd c_26 (by decide)
      · refine tt_bipush (v := -5) (q := 31) hc (by decide) dX9_other_29 rfl ?_
        refine tt_reti hX rfl dX9_other_31 ?_
        exact hQ ν (hf.ml (by decide)) (hM.wk hf (by decide))
    · obtain ⟨i, e1⟩ : ∃ i, num K B n = some i := ⟨_, if_neg c⟩
      rw [if_neg c] at hQ
      have hg := num_get h0 hn e1
      have hi := (List.getElem?_eq_some_iff.mp hg).1
      have hl2 := fl_len K B
      have hK := flp_ok a0 (a := n) hn
      have hbl := prt_lt K B n
      generalize hb : prt K B n = b at *
      have hb0 : 0 < b := by omega
      have G : ∀ (ν3 : Mem), Q (some (.int (-5))) ν3 → TT X 83 [.ref 24, .int (nI n), .int (nI i), .int (nI b), .long 0] [.int (onI none)] ν3 := by
        intro ν3 h
        refine tt_is4 (q := 85) hc dX9_other_83 rfl (by decide) ?_
        refine tt_il4 (q := 87) hc dX9_other_85 rfl ?_
        refine tt_iflt (t := 108) (q := 90) hc dX9_other_87 rfl rfl (fun c_87 => ?_) (fun c_87 => ?_)
        · refine tt_bipush (v := -5) (q := 110) hc (by decide) dX9_other_108 rfl ?_
          refine tt_reti hX rfl dX9_other_110 ?_
          exact h
        · exact absurd (by decide) c_87
      refine tt_al0 (q := 10) hc dX9_other_9 rfl ?_
      refine tt_al0 (q := 11) hc dX9_other_10 rfl ?_
      refine tt_getR (q := 14) hc fl_X9_15 (by first | assumption | exact ⟨by decide, _, rfl, rfl⟩) dX9_other_11 rfl ?_
      refine tt_iconst (v := nI 0) (q := 15) hc rfl dX9_other_14 rfl ?_
      refine tt_cV2 (q := 18) (d' := 3) (ci := 9) hc (by first | decide | omega) kmX9_layFlips ml_X9_203 (by first | assumption | exact ⟨by decide, _, rfl⟩) rfl (Nat.le_of_ble_eq_true rfl) dX9_other_15 rfl ?_
      refine c_X9_layFlips HA77 (by decide) (by decide) a0 a2 a1 (fun ν hf h32 hF hL => ?_)
      have hM1 := hM.wk hf (by decide)
      have b2 := hM1.1.2.2
      have b1 := hM1.1.2.1
      dsimp only [Option.toList, List.nil_append, List.cons_append]
      refine tt_al0 (q := 19) hc dX9_other_18 rfl ?_
      refine tt_il1 (q := 20) hc dX9_other_19 rfl ?_
      refine tt_iconst (v := nI 0) (q := 21) hc rfl dX9_other_20 rfl ?_
      refine tt_cV2 (q := 24) (d' := 0) (ci := 9) hc (by first | decide | omega) kmX9_find ml_X9_207 (by first | assumption | exact ⟨by decide, _, rfl⟩) rfl (Nat.le_of_ble_eq_true rfl) dX9_other_21 rfl ?_
      refine c_X9_find (by decide) hL h0 hn ?_
      rw [e1]
      dsimp only [Option.toList, List.nil_append, List.cons_append]
      refine tt_is2 (q := 25) hc dX9_other_24 rfl (by decide) ?_
      refine tt_il2 (q := 26) hc dX9_other_25 rfl ?_
      refine tt_ifge (t := 32) (q := 29) hc dX9_other_26 rfl rfl (fun c_26 => ?_) (fun c_26 => ?_)
      · rw [show onI (some i) = nI i from rfl]
        refine tt_al0 (q := 33) hc dX9_other_32 rfl ?_
        refine tt_getR (q := 36) hc fl_X9_42 (by first | assumption | exact ⟨by decide, _, rfl, rfl⟩) dX9_other_33 rfl ?_
        refine tt_iconst (v := nI 0) (q := 37) hc rfl dX9_other_36 rfl ?_
        refine tt_aald (q := 38) hc (r := _) (by first | assumption | exact ⟨by decide, rfl, by decide⟩) (by decide) (by omega) dX9_other_37 rfl ?_
        refine tt_il2 (q := 39) hc dX9_other_38 rfl ?_
        refine tt_iald (q := 40) hc (by first | assumption | exact ⟨by decide, rfl, by decide⟩) (by omega) dX9_other_39 rfl ?_
        rw [(hL.2 _ _ hg).2, hb]
        refine tt_is3 (q := 41) hc dX9_other_40 rfl (by decide) ?_
        refine tt_al0 (q := 42) hc dX9_other_41 rfl ?_
        refine tt_getR (q := 45) hc fl_X9_15 (by first | assumption | exact ⟨by decide, _, rfl, rfl⟩) dX9_other_42 rfl ?_
        refine tt_al0 (q := 46) hc dX9_other_45 rfl ?_
        refine tt_getR (q := 49) hc fl_X9_48 (by first | assumption | exact ⟨by decide, _, rfl, rfl⟩) dX9_other_46 rfl ?_
        refine tt_iconst (v := nI 0) (q := 50) hc rfl dX9_other_49 rfl ?_
        refine tt_aald (q := 51) hc (r := _) (by first | assumption | exact ⟨by decide, rfl, by decide⟩) (by decide) (by omega) dX9_other_50 rfl ?_
        refine tt_cS2 (q := 54) (d' := 1) hc (by first | decide | omega) kmX9_lays ml_X9_123 (Nat.le_of_ble_eq_true rfl) dX9_other_51 rfl ?_
        refine c_X9_lays a77 a87 b2 (fun ν1 hf1 hB1 => ?_)
        dsimp only [Option.toList, List.nil_append, List.cons_append]
        refine tt_al0 (q := 55) hc dX9_other_54 rfl ?_
        refine tt_al0 (q := 56) hc dX9_other_55 rfl ?_
        refine tt_getR (q := 59) hc fl_X9_48 (by first | assumption | exact ⟨by decide, _, rfl, rfl⟩) dX9_other_56 rfl ?_
        refine tt_iconst (v := nI 0) (q := 60) hc rfl dX9_other_59 rfl ?_
        refine tt_aald (q := 61) hc (r := _) (by first | assumption | exact ⟨by decide, rfl, by decide⟩) (by decide) (by omega) dX9_other_60 rfl ?_
        refine tt_il1 (q := 62) hc dX9_other_61 rfl ?_
        refine tt_il3 (q := 63) hc dX9_other_62 rfl ?_
        refine tt_cV3 (q := 66) (d' := 0) (ci := 9) hc (by first | decide | omega) kmX9_does ml_X9_210 (by first | assumption | exact ⟨by decide, _, rfl⟩) rfl (Nat.le_of_ble_eq_true rfl) dX9_other_63 rfl ?_
        refine c_X9_does a87 a0 hB1 hn hb c (fun ν2 hf2 hB2 => ?_)
        have z2 : ν2 24 0 = nI K := by rw [hf2 24 (by decide), hf1 24 (by decide)]; exact b1
        dsimp only [Option.toList, List.nil_append, List.cons_append]
        refine tt_al0 (q := 67) hc dX9_other_66 rfl ?_
        refine tt_al0 (q := 68) hc dX9_other_67 rfl ?_
        refine tt_getR (q := 71) hc fl_X9_48 (by first | assumption | exact ⟨by decide, _, rfl, rfl⟩) dX9_other_68 rfl ?_
        refine tt_iconst (v := nI 0) (q := 72) hc rfl dX9_other_71 rfl ?_
        refine tt_aald (q := 73) hc (r := _) (by first | assumption | exact ⟨by decide, rfl, by decide⟩) (by decide) (by omega) dX9_other_72 rfl ?_
        refine tt_iconst (v := nI 0) (q := 74) hc rfl dX9_other_73 rfl ?_
        refine tt_cV2 (q := 77) (d' := 3) (ci := 9) hc (by first | decide | omega) kmX9_layFlips ml_X9_203 (by first | assumption | exact ⟨by decide, _, rfl⟩) rfl (Nat.le_of_ble_eq_true rfl) dX9_other_74 rfl ?_
        refine c_X9_layFlips a87 (by decide) (by decide) hK hB2 z2 (fun ν3 hf3 h33 hF3 hL3 => ?_)
        have hfa : mf (87 :: lfL 0) μ ν3 := (hf.mono (fun i hi => List.mem_cons_of_mem _ hi)).tr ((mf.fr ((hf1.tr hf2).mono (fun i hi => by rw [List.mem_singleton.mp hi]; exact List.mem_cons_self)) (by decide)).tr (hf3.mono (fun i hi => List.mem_cons_of_mem _ hi)))
        have hQ3 := hQ ν3 (hfa.ml (by decide)) (hM.wk hfa (by decide))
        dsimp only [Option.toList, List.nil_append, List.cons_append]
        refine tt_al0 (q := 78) hc dX9_other_77 rfl ?_
        refine tt_il3 (q := 79) hc dX9_other_78 rfl ?_
        refine tt_iconst (v := nI 0) (q := 80) hc rfl dX9_other_79 rfl ?_
        refine tt_cV2 (q := 83) (d' := 0) (ci := 9) hc (by first | decide | omega) kmX9_find ml_X9_207 (by first | assumption | exact ⟨by decide, _, rfl⟩) rfl (Nat.le_of_ble_eq_true rfl) dX9_other_80 rfl ?_
        refine c_X9_find (by decide) hL3 hb0 hbl ?_
        by_cases c2 : prt K (flp K B n) b = 0
        · have e2 : num K (flp K B n) b = none := if_pos c2
          rw [if_neg (by omega)] at hQ3
          rw [e2]
          exact G ν3 hQ3
        obtain ⟨k, e2⟩ : ∃ k, num K (flp K B n) b = some k := ⟨_, if_neg c2⟩
        have hg2 := num_get hb0 hbl e2
        have hi2 := (List.getElem?_eq_some_iff.mp hg2).1
        have hl3 := fl_len K (flp K B n)
        have hpl3 := prt_lt K (flp K B n) b
        rw [e2] at hQ3 ⊢
        dsimp only [Option.toList, List.nil_append, List.cons_append]
        refine tt_is4 (q := 85) hc dX9_other_83 rfl (by decide) ?_
        refine tt_il4 (q := 87) hc dX9_other_85 rfl ?_
        refine tt_iflt (t := 108) (q := 90) hc dX9_other_87 rfl rfl (fun c_87 => ?_) (fun c_87 => ?_)
        · exact absurd c_87 (onI_nneg (by omega))
        · rw [show onI (some k) = nI k from rfl]
          refine tt_al0 (q := 91) hc dX9_other_90 rfl ?_
          refine tt_getR (q := 94) hc fl_X9_42 (by first | assumption | exact ⟨by decide, _, rfl, rfl⟩) dX9_other_91 rfl ?_
          refine tt_iconst (v := nI 0) (q := 95) hc rfl dX9_other_94 rfl ?_
          refine tt_aald (q := 96) hc (r := _) (by first | assumption | exact ⟨by decide, rfl, by decide⟩) (by decide) (by omega) dX9_other_95 rfl ?_
          refine tt_il4 (q := 98) hc dX9_other_96 rfl ?_
          refine tt_iald (q := 99) hc (by first | assumption | exact ⟨by decide, rfl, by decide⟩) (by omega) dX9_other_98 rfl ?_
          rw [(hL3.2 _ _ hg2).2]
          refine tt_il1 (q := 100) hc dX9_other_99 rfl ?_
          first | (with_reducible refine chk2 ?_; refine tt_icneN (t := 108) (q := 103) hc (by omega) (by omega) dX9_other_100 rfl rfl (fun c_100 => ?_) (fun c_100 => ?_)) | refine tt_icne (t := 108) (q := 103) hc dX9_other_100 rfl rfl (fun c_100 => ?_) (fun c_100 => ?_)
          · refine tt_bipush (v := -5) (q := 110) hc (by decide) dX9_other_108 rfl ?_
            refine tt_reti hX rfl dX9_other_110 ?_
            first
            | (rw [if_pos c_100] at hQ3; exact hQ3)
            | (rw [if_neg c_100] at hQ3; exact hQ3)
          · refine tt_il4 (q := 105) hc dX9_other_103 rfl ?_
            refine tt_goto (t := 110) hc dX9_other_105 rfl ?_
            refine tt_reti hX rfl dX9_other_110 ?_
            first
            | (rw [if_pos c_100] at hQ3; exact hQ3)
            | (rw [if_neg c_100] at hQ3; exact hQ3)
      · exact absurd (Int32.not_lt.mp (onI_nneg (by omega))) c_26
  refine tt_il1 (q := 1) hc dX9_other_0 rfl ?_
  refine tt_cS1 (q := 4) (d' := 1) hc (by first | decide | omega) kmX9_isSet ml_X9_144 (Nat.le_of_ble_eq_true rfl) dX9_other_1 rfl ?_
  refine c_X9_isSet ?_
  dsimp only [Option.toList, List.nil_append, List.cons_append]
  first | (with_reducible refine chkb ?_; refine tt_ifneB (t := 9) (q := 7) hc dX9_other_4 rfl rfl (fun c_4 => ?_) (fun c_4 => ?_)) | (with_reducible refine chk1 ?_; refine tt_ifneN (t := 9) (q := 7) hc (by omega) dX9_other_4 rfl rfl (fun c_4 => ?_) (fun c_4 => ?_)) | refine tt_ifne (t := 9) (q := 7) hc dX9_other_4 rfl rfl (fun c_4 => ?_) (fun c_4 => ?_)
  · have hin := c_4
    obtain ⟨n, hn1, hn5, hv⟩ := inB_t (by decide) (by decide) c_4
    rw [hv] at hin ⊢
    exact F n (by omega) (by omega) hin hv
  · refine tt_iconst (v := -1) (q := 8) hc rfl dX9_other_7 rfl ?_
    refine tt_reti hX rfl dX9_other_8 ?_
    rw [if_neg (by rw [c_4]; exact Bool.false_ne_true)] at hQ
    exact hQ μ frm.rf hM
